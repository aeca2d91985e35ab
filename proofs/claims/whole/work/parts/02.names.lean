/-! ===== BEGIN words of one list among another's, by their places ===== -/
theorem goodIn_r {big : List Cond} (ws : List Cond) (ps : List Nat) (hp : ws = ps.filterMap (fun i => big[i]?)) (h : ws.all goodWord = true) : GoodIn big ws := by
  intro w hw
  have h1 := List.all_eq_true.mp h w hw
  rw [hp] at hw
  obtain ⟨i, -, hi⟩ := List.mem_filterMap.mp hw
  have hm : w ∈ big := by first | exact List.mem_of_getElem? hi | exact List.getElem?_mem hi
  exact ⟨hm, good_of_word h1⟩
theorem goodIn_app {big a b : List Cond} (ha : GoodIn big a) (hb : GoodIn big b) : GoodIn big (a ++ b) := fun w h => (List.mem_append.mp h).elim (ha w) (hb w)
theorem goodIn_ca {big a b : List Cond} {c : Cond} (ha : GoodIn big (c :: a)) (hb : GoodIn big b) : GoodIn big (c :: (a ++ b)) := fun w h => (List.mem_cons.mp h).elim (fun e => ha w (List.mem_cons.mpr (Or.inl e))) (fun h => (List.mem_append.mp h).elim (fun h => ha w (List.mem_cons.mpr (Or.inr h))) (hb w))
theorem goodIn_sub {big ws : List Cond} (hm : ∀ w ∈ ws, w ∈ big) (h : ws.all goodWord = true) : GoodIn big ws := fun w hw => ⟨hm w hw, good_of_word (List.all_eq_true.mp h w hw)⟩
/-! ===== END ===== -/

/-! ===== BEGIN printed: names, fields, word lists, decode rows ===== -/
def RX0 : String := "MouldShots$Band"
def TX0 : u_T := fun k => match k with
  | 0 => ("MouldShots$Band", "teachers", "I", false)
  | 1 => ("MouldShots$Band", "shortest", "I", false)
  | 2 => ("MouldShots$Band", "longest", "I", false)
  | 3 => ("MouldShots$Band", "least", "[I", true)
  | _ => ("MouldShots$Band", "greatest", "[I", true)
def tyX0 : Nat → FieldType := fun k => match k with
  | 0 => .int
  | 1 => .int
  | 2 => .int
  | 3 => .array .int
  | _ => .array .int
abbrev wsX00 : List Cond := u_ws RX0 TX0 5
theorem nmX0 : ∀ a, a < 5 → ∀ b, b < 5 → a ≠ b → (TX0 a).2.1 ≠ (TX0 b).2.1 := by decide +kernel
theorem tyX0_ok : ∀ k, k < 5 → parseFieldDescriptor (TX0 k).2.2.1 = some (tyX0 k) := by decide +kernel
abbrev cX0_init : ByteArray := prog_2_method_1_code
def yX0_init : MethodName := ⟨RX0, "<init>", "()V"⟩
abbrev cX0_clear : ByteArray := prog_2_method_2_code
def yX0_clear : MethodName := ⟨RX0, "clear", "()V"⟩
abbrev cX0_copyFrom : ByteArray := prog_2_method_3_code
def yX0_copyFrom : MethodName := ⟨RX0, "copyFrom", "(LMouldShots$Band;)V"⟩
abbrev cX0_learn : ByteArray := prog_2_method_4_code
def yX0_learn : MethodName := ⟨RX0, "learn", "(LMouldShots$Shot;)V"⟩
abbrev cX0_amissIn : ByteArray := prog_2_method_5_code
def yX0_amissIn : MethodName := ⟨RX0, "amissIn", "(LMouldShots$Shot;I)I"⟩
abbrev cX0_rejects : ByteArray := prog_2_method_6_code
def yX0_rejects : MethodName := ⟨RX0, "rejects", "(LMouldShots$Shot;I)Z"⟩
def RX1 : String := "MouldShots$Plan"
def TX1 : u_T := fun k => match k with
  | 0 => ("MouldShots$Plan", "cavities", "I", false)
  | 1 => ("MouldShots$Plan", "volumes", "[I", true)
  | 2 => ("MouldShots$Plan", "drags", "[I", true)
  | 3 => ("MouldShots$Plan", "freezes", "[I", true)
  | 4 => ("MouldShots$Plan", "cores", "I", false)
  | 5 => ("MouldShots$Plan", "ahead", "[I", true)
  | 6 => ("MouldShots$Plan", "stages", "I", false)
  | 7 => ("MouldShots$Plan", "places", "[I", true)
  | 8 => ("MouldShots$Plan", "speeds", "[I", true)
  | _ => ("MouldShots$Plan", "settings", "[I", true)
def tyX1 : Nat → FieldType := fun k => match k with
  | 0 => .int
  | 1 => .array .int
  | 2 => .array .int
  | 3 => .array .int
  | 4 => .int
  | 5 => .array .int
  | 6 => .int
  | 7 => .array .int
  | 8 => .array .int
  | _ => .array .int
abbrev wsX10 : List Cond := u_ws RX1 TX1 10
theorem nmX1 : ∀ a, a < 10 → ∀ b, b < 10 → a ≠ b → (TX1 a).2.1 ≠ (TX1 b).2.1 := by decide +kernel
theorem tyX1_ok : ∀ k, k < 10 → parseFieldDescriptor (TX1 k).2.2.1 = some (tyX1 k) := by decide +kernel
abbrev cX1_init : ByteArray := prog_3_method_1_code
def yX1_init : MethodName := ⟨RX1, "<init>", "()V"⟩
abbrev cX1_clear : ByteArray := prog_3_method_2_code
def yX1_clear : MethodName := ⟨RX1, "clear", "()V"⟩
abbrev cX1_addCavity : ByteArray := prog_3_method_3_code
def yX1_addCavity : MethodName := ⟨RX1, "addCavity", "(III)Z"⟩
abbrev cX1_addCore : ByteArray := prog_3_method_4_code
def yX1_addCore : MethodName := ⟨RX1, "addCore", "(I)Z"⟩
abbrev cX1_addStage : ByteArray := prog_3_method_5_code
def yX1_addStage : MethodName := ⟨RX1, "addStage", "(II)Z"⟩
abbrev cX1_setThree : ByteArray := prog_3_method_6_code
def yX1_setThree : MethodName := ⟨RX1, "setThree", "(I[I)Z"⟩
abbrev cX1_canBeLaid : ByteArray := prog_3_method_7_code
def yX1_canBeLaid : MethodName := ⟨RX1, "canBeLaid", "()Z"⟩
abbrev cX1_chainEnds : ByteArray := prog_3_method_8_code
def yX1_chainEnds : MethodName := ⟨RX1, "chainEnds", "(I)Z"⟩
abbrev cX1_coreInTurn : ByteArray := prog_3_method_9_code
def yX1_coreInTurn : MethodName := ⟨RX1, "coreInTurn", "(I)I"⟩
abbrev cX1_nextIn : ByteArray := prog_3_method_10_code
def yX1_nextIn : MethodName := ⟨RX1, "nextIn", "(I)I"⟩
def RX2 : String := "MouldShots$Shot"
def TX2 : u_T := fun k => match k with
  | 0 => ("MouldShots$Shot", "has", "[I", true)
  | 1 => ("MouldShots$Shot", "firstAt", "[I", true)
  | 2 => ("MouldShots$Shot", "fullAt", "[I", true)
  | 3 => ("MouldShots$Shot", "pressures", "[I", true)
  | 4 => ("MouldShots$Shot", "place", "I", false)
  | 5 => ("MouldShots$Shot", "fillTicks", "I", false)
  | 6 => ("MouldShots$Shot", "ticks", "I", false)
  | 7 => ("MouldShots$Shot", "coolTicks", "I", false)
  | _ => ("MouldShots$Shot", "why", "I", false)
def tyX2 : Nat → FieldType := fun k => match k with
  | 0 => .array .int
  | 1 => .array .int
  | 2 => .array .int
  | 3 => .array .int
  | 4 => .int
  | 5 => .int
  | 6 => .int
  | 7 => .int
  | _ => .int
abbrev wsX20 : List Cond := u_ws RX2 TX2 9
theorem nmX2 : ∀ a, a < 9 → ∀ b, b < 9 → a ≠ b → (TX2 a).2.1 ≠ (TX2 b).2.1 := by decide +kernel
theorem tyX2_ok : ∀ k, k < 9 → parseFieldDescriptor (TX2 k).2.2.1 = some (tyX2 k) := by decide +kernel
abbrev cX2_init : ByteArray := prog_4_method_1_code
def yX2_init : MethodName := ⟨RX2, "<init>", "()V"⟩
abbrev cX2_make : ByteArray := prog_4_method_2_code
def yX2_make : MethodName := ⟨RX2, "make", "(LMouldShots$Plan;LMouldShots$State;I)V"⟩
abbrev cX2_clear : ByteArray := prog_4_method_3_code
def yX2_clear : MethodName := ⟨RX2, "clear", "()V"⟩
abbrev cX2_fill : ByteArray := prog_4_method_4_code
def yX2_fill : MethodName := ⟨RX2, "fill", "(LMouldShots$Plan;LMouldShots$State;I)V"⟩
abbrev cX2_speedHere : ByteArray := prog_4_method_5_code
def yX2_speedHere : MethodName := ⟨RX2, "speedHere", "(LMouldShots$Plan;LMouldShots$State;I)I"⟩
abbrev cX2_whySwitch : ByteArray := prog_4_method_6_code
def yX2_whySwitch : MethodName := ⟨RX2, "whySwitch", "(LMouldShots$State;)I"⟩
abbrev cX2_push : ByteArray := prog_4_method_7_code
def yX2_push : MethodName := ⟨RX2, "push", "(LMouldShots$Plan;LMouldShots$State;)I"⟩
abbrev cX2_easiest : ByteArray := prog_4_method_8_code
def yX2_easiest : MethodName := ⟨RX2, "easiest", "(LMouldShots$Plan;LMouldShots$State;Z)I"⟩
abbrev cX2_addMelt : ByteArray := prog_4_method_9_code
def yX2_addMelt : MethodName := ⟨RX2, "addMelt", "(ILMouldShots$Plan;)V"⟩
abbrev cX2_hold : ByteArray := prog_4_method_10_code
def yX2_hold : MethodName := ⟨RX2, "hold", "(LMouldShots$Plan;LMouldShots$State;)V"⟩
abbrev cX2_isFrozen : ByteArray := prog_4_method_11_code
def yX2_isFrozen : MethodName := ⟨RX2, "isFrozen", "(ILMouldShots$Plan;)Z"⟩
abbrev cX2_told : ByteArray := prog_4_method_12_code
def yX2_told : MethodName := ⟨RX2, "told", "(I)I"⟩
abbrev cX2_whole : ByteArray := prog_4_method_13_code
def yX2_whole : MethodName := ⟨RX2, "whole", "()I"⟩
abbrev cX2_balance : ByteArray := prog_4_method_14_code
def yX2_balance : MethodName := ⟨RX2, "balance", "()I"⟩
abbrev cX2_greatestPressure : ByteArray := prog_4_method_15_code
def yX2_greatestPressure : MethodName := ⟨RX2, "greatestPressure", "()I"⟩
abbrev cX2_isShort : ByteArray := prog_4_method_16_code
def yX2_isShort : MethodName := ⟨RX2, "isShort", "(LMouldShots$Plan;)Z"⟩
abbrev cX2_isFarOff : ByteArray := prog_4_method_17_code
def yX2_isFarOff : MethodName := ⟨RX2, "isFarOff", "(LMouldShots$Plan;)Z"⟩
def RX3 : String := "MouldShots$State"
def TX3 : u_T := fun k => match k with
  | 0 => ("MouldShots$State", "drags", "[I", true)
  | 1 => ("MouldShots$State", "speeds", "[I", true)
  | 2 => ("MouldShots$State", "settings", "[I", true)
  | 3 => ("MouldShots$State", "shut", "Z", false)
  | 4 => ("MouldShots$State", "coresIn", "I", false)
  | 5 => ("MouldShots$State", "loaded", "Z", false)
  | 6 => ("MouldShots$State", "hot", "Z", false)
  | 7 => ("MouldShots$State", "made", "I", false)
  | 8 => ("MouldShots$State", "width", "I", false)
  | _ => ("MouldShots$State", "taught", "LMouldShots$Band;", true)
def tyX3 : Nat → FieldType := fun k => match k with
  | 0 => .array .int
  | 1 => .array .int
  | 2 => .array .int
  | 3 => .boolean
  | 4 => .int
  | 5 => .boolean
  | 6 => .boolean
  | 7 => .int
  | 8 => .int
  | _ => .object "MouldShots$Band"
abbrev wsX30 : List Cond := u_ws RX3 TX3 10
theorem nmX3 : ∀ a, a < 10 → ∀ b, b < 10 → a ≠ b → (TX3 a).2.1 ≠ (TX3 b).2.1 := by decide +kernel
theorem tyX3_ok : ∀ k, k < 10 → parseFieldDescriptor (TX3 k).2.2.1 = some (tyX3 k) := by decide +kernel
abbrev cX3_init : ByteArray := prog_5_method_1_code
def yX3_init : MethodName := ⟨RX3, "<init>", "()V"⟩
abbrev cX3_startWith : ByteArray := prog_5_method_2_code
def yX3_startWith : MethodName := ⟨RX3, "startWith", "(LMouldShots$Plan;)V"⟩
abbrev cX3_copyFrom : ByteArray := prog_5_method_3_code
def yX3_copyFrom : MethodName := ⟨RX3, "copyFrom", "(LMouldShots$State;)V"⟩
abbrev cX3_isIn : ByteArray := prog_5_method_4_code
def yX3_isIn : MethodName := ⟨RX3, "isIn", "(I)Z"⟩
def RX4 : String := "MouldShots$Text"
def TX4 : u_T := fun k => match k with
  | 0 => ("MouldShots$Text", "letters", "[I", true)
  | 1 => ("MouldShots$Text", "numbers", "[I", true)
  | _ => ("MouldShots$Text", "length", "I", false)
def tyX4 : Nat → FieldType := fun k => match k with
  | 0 => .array .int
  | 1 => .array .int
  | _ => .int
abbrev wsX40 : List Cond := u_ws RX4 TX4 3
theorem nmX4 : ∀ a, a < 3 → ∀ b, b < 3 → a ≠ b → (TX4 a).2.1 ≠ (TX4 b).2.1 := by decide +kernel
theorem tyX4_ok : ∀ k, k < 3 → parseFieldDescriptor (TX4 k).2.2.1 = some (tyX4 k) := by decide +kernel
abbrev cX4_init : ByteArray := prog_6_method_1_code
def yX4_init : MethodName := ⟨RX4, "<init>", "()V"⟩
abbrev cX4_clear : ByteArray := prog_6_method_2_code
def yX4_clear : MethodName := ⟨RX4, "clear", "()V"⟩
abbrev cX4_append : ByteArray := prog_6_method_3_code
def yX4_append : MethodName := ⟨RX4, "append", "(I)Z"⟩
abbrev cX4_readInto : ByteArray := prog_6_method_4_code
def yX4_readInto : MethodName := ⟨RX4, "readInto", "(LMouldShots$Plan;)I"⟩
abbrev cX4_readItem : ByteArray := prog_6_method_5_code
def yX4_readItem : MethodName := ⟨RX4, "readItem", "(IILMouldShots$Plan;)Z"⟩
abbrev cX4_readNumbers : ByteArray := prog_6_method_6_code
def yX4_readNumbers : MethodName := ⟨RX4, "readNumbers", "(II)I"⟩
def RX5 : String := "MouldShots"
def TX5 : u_T := fun k => match k with
  | 0 => ("MouldShots", "text", "LMouldShots$Text;", true)
  | 1 => ("MouldShots", "plan", "LMouldShots$Plan;", false)
  | 2 => ("MouldShots", "draft", "LMouldShots$Plan;", false)
  | 3 => ("MouldShots", "states", "[LMouldShots$State;", true)
  | 4 => ("MouldShots", "at", "I", false)
  | 5 => ("MouldShots", "undoable", "I", false)
  | 6 => ("MouldShots", "now", "LMouldShots$State;", false)
  | 7 => ("MouldShots", "shots", "[LMouldShots$Shot;", true)
  | _ => ("MouldShots", "trial", "LMouldShots$Shot;", true)
def tyX5 : Nat → FieldType := fun k => match k with
  | 0 => .object "MouldShots$Text"
  | 1 => .object "MouldShots$Plan"
  | 2 => .object "MouldShots$Plan"
  | 3 => .array (.object "MouldShots$State")
  | 4 => .int
  | 5 => .int
  | 6 => .object "MouldShots$State"
  | 7 => .array (.object "MouldShots$Shot")
  | _ => .object "MouldShots$Shot"
abbrev wsX50 : List Cond := u_ws RX5 TX5 9
theorem nmX5 : ∀ a, a < 9 → ∀ b, b < 9 → a ≠ b → (TX5 a).2.1 ≠ (TX5 b).2.1 := by decide +kernel
theorem tyX5_ok : ∀ k, k < 9 → parseFieldDescriptor (TX5 k).2.2.1 = some (tyX5 k) := by decide +kernel
abbrev cX5_init : ByteArray := prog_1_method_1_code
def yX5_init : MethodName := ⟨RX5, "<init>", "()V"⟩
abbrev cX5_write : ByteArray := prog_1_method_2_code
def yX5_write : MethodName := ⟨RX5, "write", "(I)I"⟩
abbrev cX5_wipe : ByteArray := prog_1_method_3_code
def yX5_wipe : MethodName := ⟨RX5, "wipe", "()I"⟩
abbrev cX5_fault : ByteArray := prog_1_method_4_code
def yX5_fault : MethodName := ⟨RX5, "fault", "()I"⟩
abbrev cX5_lay : ByteArray := prog_1_method_5_code
def yX5_lay : MethodName := ⟨RX5, "lay", "()I"⟩
abbrev cX5_takeDraft : ByteArray := prog_1_method_6_code
def yX5_takeDraft : MethodName := ⟨RX5, "takeDraft", "()V"⟩
abbrev cX5_mould : ByteArray := prog_1_method_7_code
def yX5_mould : MethodName := ⟨RX5, "mould", "(I)I"⟩
abbrev cX5_shutMould : ByteArray := prog_1_method_8_code
def yX5_shutMould : MethodName := ⟨RX5, "shutMould", "()I"⟩
abbrev cX5_openMould : ByteArray := prog_1_method_9_code
def yX5_openMould : MethodName := ⟨RX5, "openMould", "()I"⟩
abbrev cX5_core : ByteArray := prog_1_method_10_code
def yX5_core : MethodName := ⟨RX5, "core", "(II)I"⟩
abbrev cX5_against : ByteArray := prog_1_method_11_code
def yX5_against : MethodName := ⟨RX5, "against", "(II)I"⟩
abbrev cX5_barrier : ByteArray := prog_1_method_12_code
def yX5_barrier : MethodName := ⟨RX5, "barrier", "(II)I"⟩
abbrev cX5_outAheadOf : ByteArray := prog_1_method_13_code
def yX5_outAheadOf : MethodName := ⟨RX5, "outAheadOf", "(I)I"⟩
abbrev cX5_inBehind : ByteArray := prog_1_method_14_code
def yX5_inBehind : MethodName := ⟨RX5, "inBehind", "(I)I"⟩
abbrev cX5_drag : ByteArray := prog_1_method_15_code
def yX5_drag : MethodName := ⟨RX5, "drag", "(II)I"⟩
abbrev cX5_speed : ByteArray := prog_1_method_16_code
def yX5_speed : MethodName := ⟨RX5, "speed", "(II)I"⟩
abbrev cX5_tell : ByteArray := prog_1_method_17_code
def yX5_tell : MethodName := ⟨RX5, "tell", "(II)I"⟩
abbrev cX5_shoot : ByteArray := prog_1_method_18_code
def yX5_shoot : MethodName := ⟨RX5, "shoot", "()I"⟩
abbrev cX5_waitCool : ByteArray := prog_1_method_19_code
def yX5_waitCool : MethodName := ⟨RX5, "waitCool", "()I"⟩
abbrev cX5_undo : ByteArray := prog_1_method_20_code
def yX5_undo : MethodName := ⟨RX5, "undo", "()I"⟩
abbrev cX5_startChange : ByteArray := prog_1_method_21_code
def yX5_startChange : MethodName := ⟨RX5, "startChange", "()V"⟩
abbrev cX5_teach : ByteArray := prog_1_method_22_code
def yX5_teach : MethodName := ⟨RX5, "teach", "(I)I"⟩
abbrev cX5_forget : ByteArray := prog_1_method_23_code
def yX5_forget : MethodName := ⟨RX5, "forget", "()I"⟩
abbrev cX5_wide : ByteArray := prog_1_method_24_code
def yX5_wide : MethodName := ⟨RX5, "wide", "(I)I"⟩
abbrev cX5_band : ByteArray := prog_1_method_25_code
def yX5_band : MethodName := ⟨RX5, "band", "(II)I"⟩
abbrev cX5_shot : ByteArray := prog_1_method_26_code
def yX5_shot : MethodName := ⟨RX5, "shot", "(II)I"⟩
abbrev cX5_isBad : ByteArray := prog_1_method_27_code
def yX5_isBad : MethodName := ⟨RX5, "isBad", "(LMouldShots$Shot;)Z"⟩
abbrev cX5_curve : ByteArray := prog_1_method_28_code
def yX5_curve : MethodName := ⟨RX5, "curve", "(II)I"⟩
abbrev cX5_cavity : ByteArray := prog_1_method_29_code
def yX5_cavity : MethodName := ⟨RX5, "cavity", "(II)I"⟩
abbrev cX5_filled : ByteArray := prog_1_method_30_code
def yX5_filled : MethodName := ⟨RX5, "filled", "(III)I"⟩
abbrev cX5_tried : ByteArray := prog_1_method_31_code
def yX5_tried : MethodName := ⟨RX5, "tried", "(II)I"⟩
abbrev cX5_even : ByteArray := prog_1_method_32_code
def yX5_even : MethodName := ⟨RX5, "even", "(I)I"⟩
abbrev cX5_balanceWith : ByteArray := prog_1_method_33_code
def yX5_balanceWith : MethodName := ⟨RX5, "balanceWith", "(I)I"⟩
abbrev cX5_earlier : ByteArray := prog_1_method_34_code
def yX5_earlier : MethodName := ⟨RX5, "earlier", "(I)I"⟩
abbrev cX5_order : ByteArray := prog_1_method_35_code
def yX5_order : MethodName := ⟨RX5, "order", "(I)I"⟩
abbrev cX5_count : ByteArray := prog_1_method_36_code
def yX5_count : MethodName := ⟨RX5, "count", "(I)I"⟩
abbrev cX5_badShots : ByteArray := prog_1_method_37_code
def yX5_badShots : MethodName := ⟨RX5, "badShots", "()I"⟩
abbrev cX5_isReady : ByteArray := prog_1_method_38_code
def yX5_isReady : MethodName := ⟨RX5, "isReady", "()Z"⟩
abbrev cX5_keptShots : ByteArray := prog_1_method_39_code
def yX5_keptShots : MethodName := ⟨RX5, "keptShots", "()I"⟩
abbrev cX5_keptShot : ByteArray := prog_1_method_40_code
def yX5_keptShot : MethodName := ⟨RX5, "keptShot", "(I)LMouldShots$Shot;"⟩
abbrev cX5_isCavity : ByteArray := prog_1_method_41_code
def yX5_isCavity : MethodName := ⟨RX5, "isCavity", "(I)Z"⟩
abbrev cX5_isCore : ByteArray := prog_1_method_42_code
def yX5_isCore : MethodName := ⟨RX5, "isCore", "(I)Z"⟩
abbrev cX5_isShot : ByteArray := prog_1_method_43_code
def yX5_isShot : MethodName := ⟨RX5, "isShot", "(I)Z"⟩
abbrev cX5_isTick : ByteArray := prog_1_method_44_code
def yX5_isTick : MethodName := ⟨RX5, "isTick", "(I)Z"⟩
abbrev cX5_isFlag : ByteArray := prog_1_method_45_code
def yX5_isFlag : MethodName := ⟨RX5, "isFlag", "(I)Z"⟩
def RX6 : String := "MouldShotsModel"
def TX6 : u_T := fun k => match k with
  | 0 => ("MouldShotsModel", "length", "I", false)
  | 1 => ("MouldShotsModel", "text", "[I", true)
  | 2 => ("MouldShotsModel", "cavities", "I", false)
  | 3 => ("MouldShotsModel", "volume", "[I", true)
  | 4 => ("MouldShotsModel", "freeze", "[I", true)
  | 5 => ("MouldShotsModel", "cores", "I", false)
  | 6 => ("MouldShotsModel", "earlier", "[I", true)
  | 7 => ("MouldShotsModel", "stages", "I", false)
  | 8 => ("MouldShotsModel", "place", "[I", true)
  | 9 => ("MouldShotsModel", "now", "[I", true)
  | 10 => ("MouldShotsModel", "was", "[I", true)
  | 11 => ("MouldShotsModel", "changes", "I", false)
  | 12 => ("MouldShotsModel", "one", "[I", true)
  | 13 => ("MouldShotsModel", "readCavities", "I", false)
  | 14 => ("MouldShotsModel", "readCavity", "[I", true)
  | 15 => ("MouldShotsModel", "readCores", "I", false)
  | 16 => ("MouldShotsModel", "readCore", "[I", true)
  | 17 => ("MouldShotsModel", "readStages", "I", false)
  | 18 => ("MouldShotsModel", "readStage", "[I", true)
  | 19 => ("MouldShotsModel", "readRule", "[I", true)
  | 20 => ("MouldShotsModel", "value", "I", false)
  | 21 => ("MouldShotsModel", "ends", "I", false)
  | _ => ("MouldShotsModel", "screw", "I", false)
def tyX6 : Nat → FieldType := fun k => match k with
  | 0 => .int
  | 1 => .array .int
  | 2 => .int
  | 3 => .array .int
  | 4 => .array .int
  | 5 => .int
  | 6 => .array .int
  | 7 => .int
  | 8 => .array .int
  | 9 => .array .int
  | 10 => .array .int
  | 11 => .int
  | 12 => .array .int
  | 13 => .int
  | 14 => .array .int
  | 15 => .int
  | 16 => .array .int
  | 17 => .int
  | 18 => .array .int
  | 19 => .array .int
  | 20 => .int
  | 21 => .int
  | _ => .int
abbrev wsX60 : List Cond := u_ws RX6 TX6 23
theorem nmX6 : ∀ a, a < 23 → ∀ b, b < 23 → a ≠ b → (TX6 a).2.1 ≠ (TX6 b).2.1 := by decide +kernel
theorem tyX6_ok : ∀ k, k < 23 → parseFieldDescriptor (TX6 k).2.2.1 = some (tyX6 k) := by decide +kernel
abbrev cX6_init : ByteArray := prog_8_method_1_code
def yX6_init : MethodName := ⟨RX6, "<init>", "()V"⟩
abbrev cX6_cavityOf : ByteArray := prog_8_method_2_code
def yX6_cavityOf : MethodName := ⟨RX6, "cavityOf", "(III)V"⟩
abbrev cX6_stageOf : ByteArray := prog_8_method_3_code
def yX6_stageOf : MethodName := ⟨RX6, "stageOf", "(II)V"⟩
abbrev cX6_isIn : ByteArray := prog_8_method_4_code
def yX6_isIn : MethodName := ⟨RX6, "isIn", "(III)Z"⟩
abbrev cX6_clears : ByteArray := prog_8_method_5_code
def yX6_clears : MethodName := ⟨RX6, "clears", "()V"⟩
abbrev cX6_takes : ByteArray := prog_8_method_6_code
def yX6_takes : MethodName := ⟨RX6, "takes", "()V"⟩
abbrev cX6_letterAt : ByteArray := prog_8_method_7_code
def yX6_letterAt : MethodName := ⟨RX6, "letterAt", "(I)I"⟩
abbrev cX6_number : ByteArray := prog_8_method_8_code
def yX6_number : MethodName := ⟨RX6, "number", "(III)Z"⟩
abbrev cX6_more : ByteArray := prog_8_method_9_code
def yX6_more : MethodName := ⟨RX6, "more", "(II)Z"⟩
abbrev cX6_readsCavity : ByteArray := prog_8_method_10_code
def yX6_readsCavity : MethodName := ⟨RX6, "readsCavity", "(I)Z"⟩
abbrev cX6_readsCore : ByteArray := prog_8_method_11_code
def yX6_readsCore : MethodName := ⟨RX6, "readsCore", "(I)Z"⟩
abbrev cX6_readsStage : ByteArray := prog_8_method_12_code
def yX6_readsStage : MethodName := ⟨RX6, "readsStage", "(I)Z"⟩
abbrev cX6_lowOf : ByteArray := prog_8_method_13_code
def yX6_lowOf : MethodName := ⟨RX6, "lowOf", "(I)I"⟩
abbrev cX6_highOf : ByteArray := prog_8_method_14_code
def yX6_highOf : MethodName := ⟨RX6, "highOf", "(I)I"⟩
abbrev cX6_readsRules : ByteArray := prog_8_method_15_code
def yX6_readsRules : MethodName := ⟨RX6, "readsRules", "(II)Z"⟩
abbrev cX6_readsItem : ByteArray := prog_8_method_16_code
def yX6_readsItem : MethodName := ⟨RX6, "readsItem", "(II)Z"⟩
abbrev cX6_reads : ByteArray := prog_8_method_17_code
def yX6_reads : MethodName := ⟨RX6, "reads", "()I"⟩
abbrev cX6_areCores : ByteArray := prog_8_method_18_code
def yX6_areCores : MethodName := ⟨RX6, "areCores", "()Z"⟩
abbrev cX6_write : ByteArray := prog_8_method_19_code
def yX6_write : MethodName := ⟨RX6, "write", "(I)I"⟩
abbrev cX6_wipe : ByteArray := prog_8_method_20_code
def yX6_wipe : MethodName := ⟨RX6, "wipe", "()I"⟩
abbrev cX6_fault : ByteArray := prog_8_method_21_code
def yX6_fault : MethodName := ⟨RX6, "fault", "()I"⟩
abbrev cX6_lay : ByteArray := prog_8_method_22_code
def yX6_lay : MethodName := ⟨RX6, "lay", "()I"⟩
abbrev cX6_easiest : ByteArray := prog_8_method_23_code
def yX6_easiest : MethodName := ⟨RX6, "easiest", "()I"⟩
abbrev cX6_comes : ByteArray := prog_8_method_24_code
def yX6_comes : MethodName := ⟨RX6, "comes", "(II)V"⟩
abbrev cX6_speedAt : ByteArray := prog_8_method_25_code
def yX6_speedAt : MethodName := ⟨RX6, "speedAt", "(I)I"⟩
abbrev cX6_fills : ByteArray := prog_8_method_26_code
def yX6_fills : MethodName := ⟨RX6, "fills", "(II)I"⟩
abbrev cX6_why : ByteArray := prog_8_method_27_code
def yX6_why : MethodName := ⟨RX6, "why", "(II)I"⟩
abbrev cX6_holds : ByteArray := prog_8_method_28_code
def yX6_holds : MethodName := ⟨RX6, "holds", "(I)V"⟩
abbrev cX6_tries : ByteArray := prog_8_method_29_code
def yX6_tries : MethodName := ⟨RX6, "tries", "(I)V"⟩
abbrev cX6_told : ByteArray := prog_8_method_30_code
def yX6_told : MethodName := ⟨RX6, "told", "([III)I"⟩
abbrev cX6_keeps : ByteArray := prog_8_method_31_code
def yX6_keeps : MethodName := ⟨RX6, "keeps", "()V"⟩
abbrev cX6_undo : ByteArray := prog_8_method_32_code
def yX6_undo : MethodName := ⟨RX6, "undo", "()I"⟩
abbrev cX6_becomes : ByteArray := prog_8_method_33_code
def yX6_becomes : MethodName := ⟨RX6, "becomes", "(II)I"⟩
abbrev cX6_bits : ByteArray := prog_8_method_34_code
def yX6_bits : MethodName := ⟨RX6, "bits", "(I)I"⟩
abbrev cX6_isCore : ByteArray := prog_8_method_35_code
def yX6_isCore : MethodName := ⟨RX6, "isCore", "(I)Z"⟩
abbrev cX6_isCavity : ByteArray := prog_8_method_36_code
def yX6_isCavity : MethodName := ⟨RX6, "isCavity", "(I)Z"⟩
abbrev cX6_isShot : ByteArray := prog_8_method_37_code
def yX6_isShot : MethodName := ⟨RX6, "isShot", "(I)Z"⟩
abbrev cX6_mould : ByteArray := prog_8_method_38_code
def yX6_mould : MethodName := ⟨RX6, "mould", "(I)I"⟩
abbrev cX6_against1 : ByteArray := prog_8_method_39_code
def yX6_against1 : MethodName := ⟨RX6, "against1", "(II)I"⟩
abbrev cX6_against : ByteArray := prog_8_method_40_code
def yX6_against : MethodName := ⟨RX6, "against", "(II)I"⟩
abbrev cX6_core : ByteArray := prog_8_method_41_code
def yX6_core : MethodName := ⟨RX6, "core", "(II)I"⟩
abbrev cX6_drag : ByteArray := prog_8_method_42_code
def yX6_drag : MethodName := ⟨RX6, "drag", "(II)I"⟩
abbrev cX6_speed : ByteArray := prog_8_method_43_code
def yX6_speed : MethodName := ⟨RX6, "speed", "(II)I"⟩
abbrev cX6_tell : ByteArray := prog_8_method_44_code
def yX6_tell : MethodName := ⟨RX6, "tell", "(II)I"⟩
abbrev cX6_isReady : ByteArray := prog_8_method_45_code
def yX6_isReady : MethodName := ⟨RX6, "isReady", "()Z"⟩
abbrev cX6_shoot : ByteArray := prog_8_method_46_code
def yX6_shoot : MethodName := ⟨RX6, "shoot", "()I"⟩
abbrev cX6_waitCool : ByteArray := prog_8_method_47_code
def yX6_waitCool : MethodName := ⟨RX6, "waitCool", "()I"⟩
abbrev cX6_shortBy : ByteArray := prog_8_method_48_code
def yX6_shortBy : MethodName := ⟨RX6, "shortBy", "(II)I"⟩
abbrev cX6_overBy : ByteArray := prog_8_method_49_code
def yX6_overBy : MethodName := ⟨RX6, "overBy", "(II)I"⟩
abbrev cX6_isShort : ByteArray := prog_8_method_50_code
def yX6_isShort : MethodName := ⟨RX6, "isShort", "(I)Z"⟩
abbrev cX6_teach : ByteArray := prog_8_method_51_code
def yX6_teach : MethodName := ⟨RX6, "teach", "(I)I"⟩
abbrev cX6_forget : ByteArray := prog_8_method_52_code
def yX6_forget : MethodName := ⟨RX6, "forget", "()I"⟩
abbrev cX6_wide : ByteArray := prog_8_method_53_code
def yX6_wide : MethodName := ⟨RX6, "wide", "(I)I"⟩
abbrev cX6_band : ByteArray := prog_8_method_54_code
def yX6_band : MethodName := ⟨RX6, "band", "(II)I"⟩
abbrev cX6_amiss : ByteArray := prog_8_method_55_code
def yX6_amiss : MethodName := ⟨RX6, "amiss", "(I)I"⟩
abbrev cX6_isBad : ByteArray := prog_8_method_56_code
def yX6_isBad : MethodName := ⟨RX6, "isBad", "(I)Z"⟩
abbrev cX6_shot : ByteArray := prog_8_method_57_code
def yX6_shot : MethodName := ⟨RX6, "shot", "(II)I"⟩
abbrev cX6_curve : ByteArray := prog_8_method_58_code
def yX6_curve : MethodName := ⟨RX6, "curve", "(II)I"⟩
abbrev cX6_cavity : ByteArray := prog_8_method_59_code
def yX6_cavity : MethodName := ⟨RX6, "cavity", "(II)I"⟩
abbrev cX6_filled : ByteArray := prog_8_method_60_code
def yX6_filled : MethodName := ⟨RX6, "filled", "(III)I"⟩
abbrev cX6_tried : ByteArray := prog_8_method_61_code
def yX6_tried : MethodName := ⟨RX6, "tried", "(II)I"⟩
abbrev cX6_even : ByteArray := prog_8_method_62_code
def yX6_even : MethodName := ⟨RX6, "even", "(I)I"⟩
abbrev cX6_earlier : ByteArray := prog_8_method_63_code
def yX6_earlier : MethodName := ⟨RX6, "earlier", "(I)I"⟩
abbrev cX6_order : ByteArray := prog_8_method_64_code
def yX6_order : MethodName := ⟨RX6, "order", "(I)I"⟩
abbrev cX6_count : ByteArray := prog_8_method_65_code
def yX6_count : MethodName := ⟨RX6, "count", "(I)I"⟩
def RJ6 : String := "java/lang/Integer"
def TJ6 : u_T := fun k => match k with
  | _ => ("", "", "", false)
def tyJ6 : Nat → FieldType := fun k => match k with
  | _ => .int
abbrev wsJ60 : List Cond := u_ws RJ6 TJ6 0
theorem nmJ6 : ∀ a, a < 0 → ∀ b, b < 0 → a ≠ b → (TJ6 a).2.1 ≠ (TJ6 b).2.1 := by decide +kernel
theorem tyJ6_ok : ∀ k, k < 0 → parseFieldDescriptor (TJ6 k).2.2.1 = some (tyJ6 k) := by decide +kernel
abbrev cJ6_bitCount_0f7a4 : ByteArray := prog_9_method_49_code
def yJ6_bitCount_0f7a4 : MethodName := ⟨RJ6, "bitCount", "(I)I"⟩
def RJ9 : String := "java/lang/Math"
def TJ9 : u_T := fun k => match k with
  | _ => ("", "", "", false)
def tyJ9 : Nat → FieldType := fun k => match k with
  | _ => .int
abbrev wsJ90 : List Cond := u_ws RJ9 TJ9 0
theorem nmJ9 : ∀ a, a < 0 → ∀ b, b < 0 → a ≠ b → (TJ9 a).2.1 ≠ (TJ9 b).2.1 := by decide +kernel
theorem tyJ9_ok : ∀ k, k < 0 → parseFieldDescriptor (TJ9 k).2.2.1 = some (tyJ9 k) := by decide +kernel
abbrev cJ9_floorMod_7cf53 : ByteArray := prog_10_method_50_code
def yJ9_floorMod_7cf53 : MethodName := ⟨RJ9, "floorMod", "(II)I"⟩
abbrev cJ9_abs_0f7a4 : ByteArray := prog_10_method_59_code
def yJ9_abs_0f7a4 : MethodName := ⟨RJ9, "abs", "(I)I"⟩
abbrev cJ9_max_7cf53 : ByteArray := prog_10_method_65_code
def yJ9_max_7cf53 : MethodName := ⟨RJ9, "max", "(II)I"⟩
abbrev cJ9_min_7cf53 : ByteArray := prog_10_method_69_code
def yJ9_min_7cf53 : MethodName := ⟨RJ9, "min", "(II)I"⟩
def RJ0 : String := "java/lang/String"
def TJ0 : u_T := fun k => match k with
  | _ => ("", "", "", false)
def tyJ0 : Nat → FieldType := fun k => match k with
  | _ => .int
abbrev wsJ00 : List Cond := u_ws RJ0 TJ0 0
theorem nmJ0 : ∀ a, a < 0 → ∀ b, b < 0 → a ≠ b → (TJ0 a).2.1 ≠ (TJ0 b).2.1 := by decide +kernel
theorem tyJ0_ok : ∀ k, k < 0 → parseFieldDescriptor (TJ0 k).2.2.1 = some (tyJ0 k) := by decide +kernel
abbrev cJ0_length_8abf5 : ByteArray := prog_11_method_54_code
def yJ0_length_8abf5 : MethodName := ⟨RJ0, "length", "()I"⟩
abbrev cJ0_charAt_5068e : ByteArray := prog_11_method_56_code
def yJ0_charAt_5068e : MethodName := ⟨RJ0, "charAt", "(I)C"⟩
abbrev cJ0_coder_7d493 : ByteArray := prog_11_method_152_code
def yJ0_coder_7d493 : MethodName := ⟨RJ0, "coder", "()B"⟩
abbrev cJ0_isLatin1_aae02 : ByteArray := prog_11_method_154_code
def yJ0_isLatin1_aae02 : MethodName := ⟨RJ0, "isLatin1", "()Z"⟩
abbrev cJ0_checkIndex_df160 : ByteArray := prog_11_method_155_code
def yJ0_checkIndex_df160 : MethodName := ⟨RJ0, "checkIndex", "(II)V"⟩
def RJ1 : String := "java/lang/StringLatin1"
def TJ1 : u_T := fun k => match k with
  | _ => ("", "", "", false)
def tyJ1 : Nat → FieldType := fun k => match k with
  | _ => .int
abbrev wsJ10 : List Cond := u_ws RJ1 TJ1 0
theorem nmJ1 : ∀ a, a < 0 → ∀ b, b < 0 → a ≠ b → (TJ1 a).2.1 ≠ (TJ1 b).2.1 := by decide +kernel
theorem tyJ1_ok : ∀ k, k < 0 → parseFieldDescriptor (TJ1 k).2.2.1 = some (tyJ1 k) := by decide +kernel
abbrev cJ1_charAt_3b067 : ByteArray := prog_12_method_2_code
def yJ1_charAt_3b067 : MethodName := ⟨RJ1, "charAt", "([BI)C"⟩
def RJ2 : String := "java/lang/StringUTF16"
def TJ2 : u_T := fun k => match k with
  | _ => ("", "", "", false)
def tyJ2 : Nat → FieldType := fun k => match k with
  | _ => .int
abbrev wsJ20 : List Cond := u_ws RJ2 TJ2 0
theorem nmJ2 : ∀ a, a < 0 → ∀ b, b < 0 → a ≠ b → (TJ2 a).2.1 ≠ (TJ2 b).2.1 := by decide +kernel
theorem tyJ2_ok : ∀ k, k < 0 → parseFieldDescriptor (TJ2 k).2.2.1 = some (tyJ2 k) := by decide +kernel
abbrev cJ2_getChar_3b067 : ByteArray := prog_13_method_5_code
def yJ2_getChar_3b067 : MethodName := ⟨RJ2, "getChar", "([BI)C"⟩
abbrev cJ2_length_9d52b : ByteArray := prog_13_method_6_code
def yJ2_length_9d52b : MethodName := ⟨RJ2, "length", "([B)I"⟩
abbrev cJ2_charAt_3b067 : ByteArray := prog_13_method_83_code
def yJ2_charAt_3b067 : MethodName := ⟨RJ2, "charAt", "([BI)C"⟩
abbrev cJ2_checkIndex_2214a : ByteArray := prog_13_method_91_code
def yJ2_checkIndex_2214a : MethodName := ⟨RJ2, "checkIndex", "(I[B)V"⟩
def RJ10 : String := "java/lang/System"
def TJ10 : u_T := fun k => match k with
  | _ => ("", "", "", false)
def tyJ10 : Nat → FieldType := fun k => match k with
  | _ => .int
abbrev wsJ100 : List Cond := u_ws RJ10 TJ10 0
theorem nmJ10 : ∀ a, a < 0 → ∀ b, b < 0 → a ≠ b → (TJ10 a).2.1 ≠ (TJ10 b).2.1 := by decide +kernel
theorem tyJ10_ok : ∀ k, k < 0 → parseFieldDescriptor (TJ10 k).2.2.1 = some (tyJ10 k) := by decide +kernel
def RJ3 : String := "jdk/internal/util/Preconditions"
def TJ3 : u_T := fun k => match k with
  | _ => ("", "", "", false)
def tyJ3 : Nat → FieldType := fun k => match k with
  | _ => .int
abbrev wsJ30 : List Cond := u_ws RJ3 TJ3 0
theorem nmJ3 : ∀ a, a < 0 → ∀ b, b < 0 → a ≠ b → (TJ3 a).2.1 ≠ (TJ3 b).2.1 := by decide +kernel
theorem tyJ3_ok : ∀ k, k < 0 → parseFieldDescriptor (TJ3 k).2.2.1 = some (tyJ3 k) := by decide +kernel
abbrev cJ3_checkIndex_8e157 : ByteArray := prog_15_method_11_code
def yJ3_checkIndex_8e157 : MethodName := ⟨RJ3, "checkIndex", "(IILjava/util/function/BiFunction;)I"⟩
def RL : String := "MouldShotsLaw"
abbrev cL_law : ByteArray := code
def yL_law : MethodName := ⟨RL, "law", "([I)Z"⟩
def wsX0_init : List Cond := .code yX0_init cX0_init 1 none :: ([.methodLink RX0 3 objectInit, .instanceMethod objectInit, .code objectInit ⟨#[0xb1]⟩ 1 none, .fieldLink RX0 9 "MouldShots$Band" "teachers" "I", .fieldLink RX0 15 "MouldShots$Band" "shortest" "I", .fieldLink RX0 18 "MouldShots$Band" "longest" "I", .arrayClass .int, .fieldLink RX0 21 "MouldShots$Band" "least" "[I", .fieldLink RX0 25 "MouldShots$Band" "greatest" "[I"] ++ wsX00)
def wsX0_clear : List Cond := .code yX0_clear cX0_clear 1 none :: ([.fieldLink RX0 9 "MouldShots$Band" "teachers" "I", .fieldLink RX0 15 "MouldShots$Band" "shortest" "I", .fieldLink RX0 18 "MouldShots$Band" "longest" "I"] ++ wsX00)
def wsX0_copyFrom : List Cond := .code yX0_copyFrom cX0_copyFrom 2 none :: ([.fieldLink RX0 9 "MouldShots$Band" "teachers" "I", .fieldLink RX0 15 "MouldShots$Band" "shortest" "I", .fieldLink RX0 18 "MouldShots$Band" "longest" "I", .fieldLink RX0 21 "MouldShots$Band" "least" "[I", .methodLink RX0 28 arraycopyName, .native arraycopyName, .static arraycopyName, .initialized "java/lang/System", .fieldLink RX0 25 "MouldShots$Band" "greatest" "[I"] ++ wsX00)
def wsX0_learn : List Cond := .code yX0_learn cX0_learn 5 none :: ([.fieldLink RX0 9 "MouldShots$Band" "teachers" "I", .fieldLink RX0 21 "MouldShots$Band" "least" "[I", .methodLink RX0 39 Lib.Math.min.name, .static Lib.Math.min.name, .initialized "java/lang/Math", .code Lib.Math.min.name Lib.Math.min.code 2 (some .int), .fieldLink RX0 25 "MouldShots$Band" "greatest" "[I", .methodLink RX0 45 Lib.Math.max.name, .static Lib.Math.max.name, .code Lib.Math.max.name Lib.Math.max.code 2 (some .int), .fieldLink RX0 15 "MouldShots$Band" "shortest" "I", .fieldLink RX0 18 "MouldShots$Band" "longest" "I"] ++ wsX00 ++ wsX20)
def wsX0_amissIn : List Cond := .code yX0_amissIn cX0_amissIn 6 (some .int) :: ([.fieldLink RX0 21 "MouldShots$Band" "least" "[I", .fieldLink RX0 25 "MouldShots$Band" "greatest" "[I"] ++ wsX20 ++ wsX00)
def wsX0_rejects : List Cond := .code yX0_rejects cX0_rejects 3 (some .boolean) :: ([.fieldLink RX0 9 "MouldShots$Band" "teachers" "I", .fieldLink RX0 15 "MouldShots$Band" "shortest" "I", .fieldLink RX0 18 "MouldShots$Band" "longest" "I", .methodLink RX0 51 yX0_amissIn, .instanceMethod yX0_amissIn, .selects RX0 yX0_amissIn yX0_amissIn, .initialized RX0, .code yX0_amissIn cX0_amissIn 6 (some .int), .fieldLink RX0 21 "MouldShots$Band" "least" "[I", .fieldLink RX0 25 "MouldShots$Band" "greatest" "[I"] ++ wsX00 ++ wsX20)
def wsX1_init : List Cond := .code yX1_init cX1_init 1 none :: ([.methodLink RX1 3 objectInit, .instanceMethod objectInit, .code objectInit ⟨#[0xb1]⟩ 1 none, .fieldLink RX1 9 "MouldShots$Plan" "cavities" "I", .arrayClass .int, .fieldLink RX1 15 "MouldShots$Plan" "volumes" "[I", .fieldLink RX1 19 "MouldShots$Plan" "drags" "[I", .fieldLink RX1 22 "MouldShots$Plan" "freezes" "[I", .fieldLink RX1 25 "MouldShots$Plan" "cores" "I", .fieldLink RX1 28 "MouldShots$Plan" "ahead" "[I", .fieldLink RX1 31 "MouldShots$Plan" "stages" "I", .fieldLink RX1 34 "MouldShots$Plan" "places" "[I", .fieldLink RX1 37 "MouldShots$Plan" "speeds" "[I", .fieldLink RX1 40 "MouldShots$Plan" "settings" "[I"] ++ wsX10)
def wsX1_clear : List Cond := .code yX1_clear cX1_clear 1 none :: ([.fieldLink RX1 9 "MouldShots$Plan" "cavities" "I", .fieldLink RX1 25 "MouldShots$Plan" "cores" "I", .fieldLink RX1 31 "MouldShots$Plan" "stages" "I", .fieldLink RX1 40 "MouldShots$Plan" "settings" "[I", .methodLink RX1 46 arraycopyName, .native arraycopyName, .static arraycopyName, .initialized "java/lang/System"] ++ wsX10)
def wsX1_addCavity : List Cond := .code yX1_addCavity cX1_addCavity 4 (some .boolean) :: ([.fieldLink RX1 9 "MouldShots$Plan" "cavities" "I", .fieldLink RX1 15 "MouldShots$Plan" "volumes" "[I", .fieldLink RX1 19 "MouldShots$Plan" "drags" "[I", .fieldLink RX1 22 "MouldShots$Plan" "freezes" "[I"] ++ wsX10)
def wsX1_addCore : List Cond := .code yX1_addCore cX1_addCore 2 (some .boolean) :: ([.fieldLink RX1 25 "MouldShots$Plan" "cores" "I", .fieldLink RX1 28 "MouldShots$Plan" "ahead" "[I"] ++ wsX10)
def wsX1_addStage : List Cond := .code yX1_addStage cX1_addStage 4 (some .boolean) :: ([.fieldLink RX1 31 "MouldShots$Plan" "stages" "I", .fieldLink RX1 34 "MouldShots$Plan" "places" "[I", .fieldLink RX1 37 "MouldShots$Plan" "speeds" "[I"] ++ wsX10)
def wsX1_setThree : List Cond := .code yX1_setThree cX1_setThree 4 (some .boolean) :: ([.fieldLink RX1 40 "MouldShots$Plan" "settings" "[I", .methodLink RX1 46 arraycopyName, .native arraycopyName, .static arraycopyName, .initialized "java/lang/System"] ++ wsX10)
def wsX1_chainEnds : List Cond := .code yX1_chainEnds cX1_chainEnds 4 (some .boolean) :: ([.fieldLink RX1 25 "MouldShots$Plan" "cores" "I", .fieldLink RX1 28 "MouldShots$Plan" "ahead" "[I"] ++ wsX10)
def wsX1_canBeLaid : List Cond := .code yX1_canBeLaid cX1_canBeLaid 2 (some .boolean) :: ([.fieldLink RX1 9 "MouldShots$Plan" "cavities" "I", .fieldLink RX1 31 "MouldShots$Plan" "stages" "I", .fieldLink RX1 25 "MouldShots$Plan" "cores" "I", .methodLink RX1 58 yX1_chainEnds, .instanceMethod yX1_chainEnds, .selects RX1 yX1_chainEnds yX1_chainEnds, .initialized RX1, .code yX1_chainEnds cX1_chainEnds 4 (some .boolean), .fieldLink RX1 28 "MouldShots$Plan" "ahead" "[I"] ++ wsX10)
def wsX1_nextIn : List Cond := .code yX1_nextIn cX1_nextIn 4 (some .int) :: ([.fieldLink RX1 25 "MouldShots$Plan" "cores" "I", .fieldLink RX1 28 "MouldShots$Plan" "ahead" "[I"] ++ wsX10)
def wsX1_coreInTurn : List Cond := .code yX1_coreInTurn cX1_coreInTurn 5 (some .int) :: ([.fieldLink RX1 25 "MouldShots$Plan" "cores" "I", .methodLink RX1 62 yX1_nextIn, .instanceMethod yX1_nextIn, .selects RX1 yX1_nextIn yX1_nextIn, .initialized RX1, .code yX1_nextIn cX1_nextIn 4 (some .int), .fieldLink RX1 28 "MouldShots$Plan" "ahead" "[I"] ++ wsX10)
def wsX2_init : List Cond := .code yX2_init cX2_init 1 none :: ([.methodLink RX2 3 objectInit, .instanceMethod objectInit, .code objectInit ⟨#[0xb1]⟩ 1 none, .arrayClass .int, .fieldLink RX2 9 "MouldShots$Shot" "has" "[I", .fieldLink RX2 15 "MouldShots$Shot" "firstAt" "[I", .fieldLink RX2 18 "MouldShots$Shot" "fullAt" "[I", .fieldLink RX2 21 "MouldShots$Shot" "pressures" "[I", .fieldLink RX2 24 "MouldShots$Shot" "place" "I", .fieldLink RX2 28 "MouldShots$Shot" "fillTicks" "I", .fieldLink RX2 31 "MouldShots$Shot" "ticks" "I", .fieldLink RX2 34 "MouldShots$Shot" "coolTicks" "I", .fieldLink RX2 37 "MouldShots$Shot" "why" "I"] ++ wsX20)
def wsX2_clear : List Cond := .code yX2_clear cX2_clear 2 none :: ([.fieldLink RX2 9 "MouldShots$Shot" "has" "[I", .fieldLink RX2 15 "MouldShots$Shot" "firstAt" "[I", .fieldLink RX2 18 "MouldShots$Shot" "fullAt" "[I", .fieldLink RX2 21 "MouldShots$Shot" "pressures" "[I", .fieldLink RX2 24 "MouldShots$Shot" "place" "I", .fieldLink RX2 31 "MouldShots$Shot" "ticks" "I", .fieldLink RX2 37 "MouldShots$Shot" "why" "I"] ++ wsX20)
def wsX2_speedHere : List Cond := .code yX2_speedHere cX2_speedHere 6 (some .int) :: ([.fieldLink RX2 24 "MouldShots$Shot" "place" "I", .methodLink RX2 60 Lib.Math.min.name, .static Lib.Math.min.name, .initialized "java/lang/Math", .code Lib.Math.min.name Lib.Math.min.code 2 (some .int), .methodLink RX2 70 Lib.Math.max.name, .static Lib.Math.max.name, .code Lib.Math.max.name Lib.Math.max.code 2 (some .int)] ++ wsX10 ++ wsX20 ++ wsX30)
def wsX2_easiest : List Cond := .code yX2_easiest cX2_easiest 8 (some .int) :: ([.fieldLink RX2 9 "MouldShots$Shot" "has" "[I"] ++ wsX10 ++ wsX20 ++ wsX30)
def wsX2_addMelt : List Cond := .code yX2_addMelt cX2_addMelt 3 none :: ([.fieldLink RX2 9 "MouldShots$Shot" "has" "[I", .fieldLink RX2 15 "MouldShots$Shot" "firstAt" "[I", .fieldLink RX2 31 "MouldShots$Shot" "ticks" "I", .fieldLink RX2 18 "MouldShots$Shot" "fullAt" "[I"] ++ wsX20 ++ wsX10)
def wsX2_push : List Cond := .code yX2_push cX2_push 5 (some .int) :: ([.fieldLink RX2 9 "MouldShots$Shot" "has" "[I", .methodLink RX2 88 yX2_easiest, .instanceMethod yX2_easiest, .selects RX2 yX2_easiest yX2_easiest, .initialized RX2, .code yX2_easiest cX2_easiest 8 (some .int), .methodLink RX2 95 yX2_addMelt, .instanceMethod yX2_addMelt, .selects RX2 yX2_addMelt yX2_addMelt, .code yX2_addMelt cX2_addMelt 3 none, .fieldLink RX2 15 "MouldShots$Shot" "firstAt" "[I", .fieldLink RX2 31 "MouldShots$Shot" "ticks" "I", .fieldLink RX2 18 "MouldShots$Shot" "fullAt" "[I"] ++ wsX30 ++ wsX20 ++ wsX10)
def wsX2_whySwitch : List Cond := .code yX2_whySwitch cX2_whySwitch 2 (some .int) :: ([.fieldLink RX2 24 "MouldShots$Shot" "place" "I", .fieldLink RX2 31 "MouldShots$Shot" "ticks" "I", .fieldLink RX2 21 "MouldShots$Shot" "pressures" "[I"] ++ wsX20 ++ wsX30)
def wsX2_fill_r1 : List Cond := [Cond.fieldLink RX2 37 "MouldShots$Shot" "why" "I", Cond.fieldLink RX2 31 "MouldShots$Shot" "ticks" "I", Cond.fieldLink RX2 24 "MouldShots$Shot" "place" "I", Cond.methodLink RX2 60 Lib.Math.min.name, Cond.static Lib.Math.min.name, Cond.initialized "java/lang/Math", Cond.code Lib.Math.min.name Lib.Math.min.code 2 (some .int), Cond.methodLink RX2 70 Lib.Math.max.name, Cond.static Lib.Math.max.name, Cond.code Lib.Math.max.name Lib.Math.max.code 2 (some .int), Cond.fieldLink RX2 21 "MouldShots$Shot" "pressures" "[I", Cond.fieldLink RX2 28 "MouldShots$Shot" "fillTicks" "I", Cond.methodLink RX2 56 yX2_speedHere, Cond.instanceMethod yX2_speedHere, Cond.selects RX2 yX2_speedHere yX2_speedHere, Cond.initialized RX2, Cond.code yX2_speedHere cX2_speedHere 6 (some .int), Cond.methodLink RX2 66 yX2_push, Cond.instanceMethod yX2_push, Cond.selects RX2 yX2_push yX2_push, Cond.code yX2_push cX2_push 5 (some .int), Cond.fieldLink RX2 9 "MouldShots$Shot" "has" "[I", Cond.methodLink RX2 88 yX2_easiest, Cond.instanceMethod yX2_easiest]
def wsX2_fill_r2 : List Cond := [Cond.selects RX2 yX2_easiest yX2_easiest, Cond.code yX2_easiest cX2_easiest 8 (some .int), Cond.methodLink RX2 95 yX2_addMelt, Cond.instanceMethod yX2_addMelt, Cond.selects RX2 yX2_addMelt yX2_addMelt, Cond.code yX2_addMelt cX2_addMelt 3 none, Cond.fieldLink RX2 15 "MouldShots$Shot" "firstAt" "[I", Cond.fieldLink RX2 18 "MouldShots$Shot" "fullAt" "[I", Cond.methodLink RX2 73 yX2_whySwitch, Cond.instanceMethod yX2_whySwitch, Cond.selects RX2 yX2_whySwitch yX2_whySwitch, Cond.code yX2_whySwitch cX2_whySwitch 2 (some .int)]
def wsX2_fill : List Cond := .code yX2_fill cX2_fill 8 none :: ((wsX2_fill_r1 ++ wsX2_fill_r2) ++ wsX20 ++ wsX10 ++ wsX30)
def wsX2_isFrozen : List Cond := .code yX2_isFrozen cX2_isFrozen 3 (some .boolean) :: ([.fieldLink RX2 15 "MouldShots$Shot" "firstAt" "[I", .fieldLink RX2 31 "MouldShots$Shot" "ticks" "I"] ++ wsX20 ++ wsX10)
def wsX2_hold : List Cond := .code yX2_hold cX2_hold 8 none :: ([.fieldLink RX2 28 "MouldShots$Shot" "fillTicks" "I", .methodLink RX2 60 Lib.Math.min.name, .static Lib.Math.min.name, .initialized "java/lang/Math", .code Lib.Math.min.name Lib.Math.min.code 2 (some .int), .fieldLink RX2 31 "MouldShots$Shot" "ticks" "I", .fieldLink RX2 9 "MouldShots$Shot" "has" "[I", .fieldLink RX2 24 "MouldShots$Shot" "place" "I", .fieldLink RX2 21 "MouldShots$Shot" "pressures" "[I", .methodLink RX2 105 yX2_isFrozen, .instanceMethod yX2_isFrozen, .selects RX2 yX2_isFrozen yX2_isFrozen, .initialized RX2, .code yX2_isFrozen cX2_isFrozen 3 (some .boolean), .fieldLink RX2 15 "MouldShots$Shot" "firstAt" "[I", .methodLink RX2 95 yX2_addMelt, .instanceMethod yX2_addMelt, .selects RX2 yX2_addMelt yX2_addMelt, .code yX2_addMelt cX2_addMelt 3 none, .fieldLink RX2 18 "MouldShots$Shot" "fullAt" "[I"] ++ wsX30 ++ wsX20 ++ wsX10)
def wsX2_make_r1 : List Cond := [Cond.fieldLink RX2 34 "MouldShots$Shot" "coolTicks" "I", Cond.methodLink RX2 40 yX2_clear, Cond.instanceMethod yX2_clear, Cond.selects RX2 yX2_clear yX2_clear, Cond.initialized RX2, Cond.code yX2_clear cX2_clear 2 none, Cond.fieldLink RX2 9 "MouldShots$Shot" "has" "[I", Cond.fieldLink RX2 15 "MouldShots$Shot" "firstAt" "[I", Cond.fieldLink RX2 18 "MouldShots$Shot" "fullAt" "[I", Cond.fieldLink RX2 21 "MouldShots$Shot" "pressures" "[I", Cond.fieldLink RX2 24 "MouldShots$Shot" "place" "I", Cond.fieldLink RX2 31 "MouldShots$Shot" "ticks" "I", Cond.fieldLink RX2 37 "MouldShots$Shot" "why" "I", Cond.methodLink RX2 43 yX2_fill, Cond.instanceMethod yX2_fill, Cond.selects RX2 yX2_fill yX2_fill, Cond.code yX2_fill cX2_fill 8 none, Cond.methodLink RX2 60 Lib.Math.min.name, Cond.static Lib.Math.min.name, Cond.initialized "java/lang/Math", Cond.code Lib.Math.min.name Lib.Math.min.code 2 (some .int), Cond.methodLink RX2 70 Lib.Math.max.name, Cond.static Lib.Math.max.name, Cond.code Lib.Math.max.name Lib.Math.max.code 2 (some .int)]
def wsX2_make_r2 : List Cond := [Cond.fieldLink RX2 28 "MouldShots$Shot" "fillTicks" "I", Cond.methodLink RX2 56 yX2_speedHere, Cond.instanceMethod yX2_speedHere, Cond.selects RX2 yX2_speedHere yX2_speedHere, Cond.code yX2_speedHere cX2_speedHere 6 (some .int), Cond.methodLink RX2 66 yX2_push, Cond.instanceMethod yX2_push, Cond.selects RX2 yX2_push yX2_push, Cond.code yX2_push cX2_push 5 (some .int), Cond.methodLink RX2 88 yX2_easiest, Cond.instanceMethod yX2_easiest, Cond.selects RX2 yX2_easiest yX2_easiest, Cond.code yX2_easiest cX2_easiest 8 (some .int), Cond.methodLink RX2 95 yX2_addMelt, Cond.instanceMethod yX2_addMelt, Cond.selects RX2 yX2_addMelt yX2_addMelt, Cond.code yX2_addMelt cX2_addMelt 3 none, Cond.methodLink RX2 73 yX2_whySwitch, Cond.instanceMethod yX2_whySwitch, Cond.selects RX2 yX2_whySwitch yX2_whySwitch, Cond.code yX2_whySwitch cX2_whySwitch 2 (some .int), Cond.methodLink RX2 47 yX2_hold, Cond.instanceMethod yX2_hold, Cond.selects RX2 yX2_hold yX2_hold]
def wsX2_make_r3 : List Cond := [Cond.code yX2_hold cX2_hold 8 none, Cond.methodLink RX2 105 yX2_isFrozen, Cond.instanceMethod yX2_isFrozen, Cond.selects RX2 yX2_isFrozen yX2_isFrozen, Cond.code yX2_isFrozen cX2_isFrozen 3 (some .boolean)]
def wsX2_make : List Cond := .code yX2_make cX2_make 4 none :: ((wsX2_make_r1 ++ (wsX2_make_r2 ++ wsX2_make_r3)) ++ wsX30 ++ wsX20 ++ wsX10)
def wsX2_balance : List Cond := .code yX2_balance cX2_balance 4 (some .int) :: ([.fieldLink RX2 18 "MouldShots$Shot" "fullAt" "[I", .methodLink RX2 60 Lib.Math.min.name, .static Lib.Math.min.name, .initialized "java/lang/Math", .code Lib.Math.min.name Lib.Math.min.code 2 (some .int), .methodLink RX2 70 Lib.Math.max.name, .static Lib.Math.max.name, .code Lib.Math.max.name Lib.Math.max.code 2 (some .int)] ++ wsX20)
def wsX2_whole : List Cond := .code yX2_whole cX2_whole 1 (some .int) :: ([.fieldLink RX2 31 "MouldShots$Shot" "ticks" "I", .fieldLink RX2 34 "MouldShots$Shot" "coolTicks" "I"] ++ wsX20)
def wsX2_greatestPressure : List Cond := .code yX2_greatestPressure cX2_greatestPressure 3 (some .int) :: ([.fieldLink RX2 21 "MouldShots$Shot" "pressures" "[I", .methodLink RX2 70 Lib.Math.max.name, .static Lib.Math.max.name, .initialized "java/lang/Math", .code Lib.Math.max.name Lib.Math.max.code 2 (some .int)] ++ wsX20)
def wsX2_told_r1 : List Cond := [Cond.fieldLink RX2 28 "MouldShots$Shot" "fillTicks" "I", Cond.fieldLink RX2 31 "MouldShots$Shot" "ticks" "I", Cond.fieldLink RX2 37 "MouldShots$Shot" "why" "I", Cond.fieldLink RX2 24 "MouldShots$Shot" "place" "I", Cond.methodLink RX2 112 yX2_balance, Cond.instanceMethod yX2_balance, Cond.selects RX2 yX2_balance yX2_balance, Cond.initialized RX2, Cond.code yX2_balance cX2_balance 4 (some .int), Cond.fieldLink RX2 18 "MouldShots$Shot" "fullAt" "[I", Cond.methodLink RX2 60 Lib.Math.min.name, Cond.static Lib.Math.min.name, Cond.initialized "java/lang/Math", Cond.code Lib.Math.min.name Lib.Math.min.code 2 (some .int), Cond.methodLink RX2 70 Lib.Math.max.name, Cond.static Lib.Math.max.name, Cond.code Lib.Math.max.name Lib.Math.max.code 2 (some .int), Cond.methodLink RX2 116 yX2_whole, Cond.instanceMethod yX2_whole, Cond.selects RX2 yX2_whole yX2_whole, Cond.code yX2_whole cX2_whole 1 (some .int), Cond.fieldLink RX2 34 "MouldShots$Shot" "coolTicks" "I", Cond.methodLink RX2 119 yX2_greatestPressure, Cond.instanceMethod yX2_greatestPressure]
def wsX2_told_r2 : List Cond := [Cond.selects RX2 yX2_greatestPressure yX2_greatestPressure, Cond.code yX2_greatestPressure cX2_greatestPressure 3 (some .int), Cond.fieldLink RX2 21 "MouldShots$Shot" "pressures" "[I"]
def wsX2_told : List Cond := .code yX2_told cX2_told 2 (some .int) :: ((wsX2_told_r1 ++ wsX2_told_r2) ++ wsX20)
def wsX2_isShort : List Cond := .code yX2_isShort cX2_isShort 3 (some .boolean) :: ([.fieldLink RX2 9 "MouldShots$Shot" "has" "[I"] ++ wsX10 ++ wsX20)
def wsX2_isFarOff : List Cond := .code yX2_isFarOff cX2_isFarOff 3 (some .boolean) :: ([.fieldLink RX2 9 "MouldShots$Shot" "has" "[I", .methodLink RX2 122 Lib.Math.abs.name, .static Lib.Math.abs.name, .initialized "java/lang/Math", .code Lib.Math.abs.name Lib.Math.abs.code 1 (some .int)] ++ wsX10 ++ wsX20)
def wsX3_init_r1 : List Cond := [Cond.methodLink RX3 3 objectInit, Cond.instanceMethod objectInit, Cond.code objectInit ⟨#[0xb1]⟩ 1 none, Cond.arrayClass .int, Cond.fieldLink RX3 9 "MouldShots$State" "drags" "[I", Cond.fieldLink RX3 15 "MouldShots$State" "speeds" "[I", Cond.fieldLink RX3 18 "MouldShots$State" "settings" "[I", Cond.fieldLink RX3 21 "MouldShots$State" "shut" "Z", Cond.fieldLink RX3 25 "MouldShots$State" "coresIn" "I", Cond.fieldLink RX3 29 "MouldShots$State" "loaded" "Z", Cond.fieldLink RX3 32 "MouldShots$State" "hot" "Z", Cond.fieldLink RX3 35 "MouldShots$State" "made" "I", Cond.fieldLink RX3 38 "MouldShots$State" "width" "I", Cond.classLink RX3 41 RX0, Cond.instantiable RX0 5, Cond.initialized RX0, Cond.fieldLink RX3 44 "MouldShots$State" "taught" "LMouldShots$Band;", Cond.instanceMethod yX0_init, Cond.code yX0_init cX0_init 1 none, Cond.methodLink RX0 3 objectInit, Cond.fieldLink RX0 9 "MouldShots$Band" "teachers" "I", Cond.fieldLink RX0 15 "MouldShots$Band" "shortest" "I", Cond.fieldLink RX0 18 "MouldShots$Band" "longest" "I", Cond.fieldLink RX0 21 "MouldShots$Band" "least" "[I"]
def wsX3_init_r2 : List Cond := [Cond.fieldLink RX0 25 "MouldShots$Band" "greatest" "[I"]
def wsX3_init : List Cond := .code yX3_init cX3_init 1 none :: ((wsX3_init_r1 ++ wsX3_init_r2) ++ wsX30 ++ wsX00)
def wsX3_startWith : List Cond := .code yX3_startWith cX3_startWith 2 none :: ([.fieldLink RX3 9 "MouldShots$State" "drags" "[I", .methodLink RX3 51 arraycopyName, .native arraycopyName, .static arraycopyName, .initialized "java/lang/System", .fieldLink RX3 15 "MouldShots$State" "speeds" "[I", .fieldLink RX3 18 "MouldShots$State" "settings" "[I", .fieldLink RX3 21 "MouldShots$State" "shut" "Z", .fieldLink RX3 25 "MouldShots$State" "coresIn" "I", .fieldLink RX3 29 "MouldShots$State" "loaded" "Z", .fieldLink RX3 32 "MouldShots$State" "hot" "Z", .fieldLink RX3 35 "MouldShots$State" "made" "I", .fieldLink RX3 38 "MouldShots$State" "width" "I", .fieldLink RX3 44 "MouldShots$State" "taught" "LMouldShots$Band;", .instanceMethod yX0_clear, .initialized RX0, .selects RX0 yX0_clear yX0_clear, .code yX0_clear cX0_clear 1 none, .fieldLink RX0 9 "MouldShots$Band" "teachers" "I", .fieldLink RX0 15 "MouldShots$Band" "shortest" "I", .fieldLink RX0 18 "MouldShots$Band" "longest" "I"] ++ wsX10 ++ wsX30 ++ wsX00)
def wsX3_copyFrom : List Cond := .code yX3_copyFrom cX3_copyFrom 2 none :: ([.fieldLink RX3 9 "MouldShots$State" "drags" "[I", .methodLink RX3 51 arraycopyName, .native arraycopyName, .static arraycopyName, .initialized "java/lang/System", .fieldLink RX3 15 "MouldShots$State" "speeds" "[I", .fieldLink RX3 18 "MouldShots$State" "settings" "[I", .fieldLink RX3 21 "MouldShots$State" "shut" "Z", .fieldLink RX3 25 "MouldShots$State" "coresIn" "I", .fieldLink RX3 29 "MouldShots$State" "loaded" "Z", .fieldLink RX3 32 "MouldShots$State" "hot" "Z", .fieldLink RX3 35 "MouldShots$State" "made" "I", .fieldLink RX3 38 "MouldShots$State" "width" "I", .fieldLink RX3 44 "MouldShots$State" "taught" "LMouldShots$Band;", .instanceMethod yX0_copyFrom, .initialized RX0, .selects RX0 yX0_copyFrom yX0_copyFrom, .code yX0_copyFrom cX0_copyFrom 2 none, .fieldLink RX0 9 "MouldShots$Band" "teachers" "I", .fieldLink RX0 15 "MouldShots$Band" "shortest" "I", .fieldLink RX0 18 "MouldShots$Band" "longest" "I", .fieldLink RX0 21 "MouldShots$Band" "least" "[I", .methodLink RX0 28 arraycopyName, .fieldLink RX0 25 "MouldShots$Band" "greatest" "[I"] ++ wsX30 ++ wsX00)
def wsX3_isIn : List Cond := .code yX3_isIn cX3_isIn 2 (some .boolean) :: ([.fieldLink RX3 25 "MouldShots$State" "coresIn" "I"] ++ wsX30)
def wsX4_init : List Cond := .code yX4_init cX4_init 1 none :: ([.methodLink RX4 3 objectInit, .instanceMethod objectInit, .code objectInit ⟨#[0xb1]⟩ 1 none, .arrayClass .int, .fieldLink RX4 9 "MouldShots$Text" "letters" "[I", .fieldLink RX4 15 "MouldShots$Text" "numbers" "[I", .fieldLink RX4 18 "MouldShots$Text" "length" "I"] ++ wsX40)
def wsX4_clear : List Cond := .code yX4_clear cX4_clear 1 none :: ([.fieldLink RX4 18 "MouldShots$Text" "length" "I"] ++ wsX40)
def wsX4_append : List Cond := .code yX4_append cX4_append 2 (some .boolean) :: ([.fieldLink RX4 18 "MouldShots$Text" "length" "I", .fieldLink RX4 9 "MouldShots$Text" "letters" "[I"] ++ wsX40)
def wsX4_readNumbers : List Cond := .code yX4_readNumbers cX4_readNumbers 8 (some .int) :: ([.fieldLink RX4 9 "MouldShots$Text" "letters" "[I", .fieldLink RX4 15 "MouldShots$Text" "numbers" "[I"] ++ wsX40)
def wsX4_readItem_r1 : List Cond := [Cond.fieldLink RX4 9 "MouldShots$Text" "letters" "[I", Cond.fieldLink RX4 15 "MouldShots$Text" "numbers" "[I", Cond.methodLink RX4 31 yX4_readNumbers, Cond.instanceMethod yX4_readNumbers, Cond.selects RX4 yX4_readNumbers yX4_readNumbers, Cond.initialized RX4, Cond.code yX4_readNumbers cX4_readNumbers 8 (some .int), Cond.instanceMethod yX1_addCavity, Cond.initialized RX1, Cond.selects RX1 yX1_addCavity yX1_addCavity, Cond.code yX1_addCavity cX1_addCavity 4 (some .boolean), Cond.fieldLink RX1 9 "MouldShots$Plan" "cavities" "I", Cond.fieldLink RX1 15 "MouldShots$Plan" "volumes" "[I", Cond.fieldLink RX1 19 "MouldShots$Plan" "drags" "[I", Cond.fieldLink RX1 22 "MouldShots$Plan" "freezes" "[I", Cond.instanceMethod yX1_addCore, Cond.selects RX1 yX1_addCore yX1_addCore, Cond.code yX1_addCore cX1_addCore 2 (some .boolean), Cond.fieldLink RX1 25 "MouldShots$Plan" "cores" "I", Cond.fieldLink RX1 28 "MouldShots$Plan" "ahead" "[I", Cond.instanceMethod yX1_addStage, Cond.selects RX1 yX1_addStage yX1_addStage, Cond.code yX1_addStage cX1_addStage 4 (some .boolean), Cond.fieldLink RX1 31 "MouldShots$Plan" "stages" "I"]
def wsX4_readItem_r2 : List Cond := [Cond.fieldLink RX1 34 "MouldShots$Plan" "places" "[I", Cond.fieldLink RX1 37 "MouldShots$Plan" "speeds" "[I", Cond.instanceMethod yX1_setThree, Cond.selects RX1 yX1_setThree yX1_setThree, Cond.code yX1_setThree cX1_setThree 4 (some .boolean), Cond.fieldLink RX1 40 "MouldShots$Plan" "settings" "[I", Cond.methodLink RX1 46 arraycopyName, Cond.native arraycopyName, Cond.static arraycopyName, Cond.initialized "java/lang/System"]
def wsX4_readItem : List Cond := .code yX4_readItem cX4_readItem 5 (some .boolean) :: ((wsX4_readItem_r1 ++ wsX4_readItem_r2) ++ wsX40 ++ wsX10)
def wsX4_readInto_r1 : List Cond := [Cond.fieldLink RX4 18 "MouldShots$Text" "length" "I", Cond.fieldLink RX4 9 "MouldShots$Text" "letters" "[I", Cond.instanceMethod yX1_clear, Cond.initialized RX1, Cond.selects RX1 yX1_clear yX1_clear, Cond.code yX1_clear cX1_clear 1 none, Cond.fieldLink RX1 9 "MouldShots$Plan" "cavities" "I", Cond.fieldLink RX1 25 "MouldShots$Plan" "cores" "I", Cond.fieldLink RX1 31 "MouldShots$Plan" "stages" "I", Cond.fieldLink RX1 40 "MouldShots$Plan" "settings" "[I", Cond.methodLink RX1 46 arraycopyName, Cond.native arraycopyName, Cond.static arraycopyName, Cond.initialized "java/lang/System", Cond.methodLink RX4 27 yX4_readItem, Cond.instanceMethod yX4_readItem, Cond.selects RX4 yX4_readItem yX4_readItem, Cond.initialized RX4, Cond.code yX4_readItem cX4_readItem 5 (some .boolean), Cond.fieldLink RX4 15 "MouldShots$Text" "numbers" "[I", Cond.methodLink RX4 31 yX4_readNumbers, Cond.instanceMethod yX4_readNumbers, Cond.selects RX4 yX4_readNumbers yX4_readNumbers, Cond.code yX4_readNumbers cX4_readNumbers 8 (some .int)]
def wsX4_readInto_r2 : List Cond := [Cond.instanceMethod yX1_addCavity, Cond.selects RX1 yX1_addCavity yX1_addCavity, Cond.code yX1_addCavity cX1_addCavity 4 (some .boolean), Cond.fieldLink RX1 15 "MouldShots$Plan" "volumes" "[I", Cond.fieldLink RX1 19 "MouldShots$Plan" "drags" "[I", Cond.fieldLink RX1 22 "MouldShots$Plan" "freezes" "[I", Cond.instanceMethod yX1_addCore, Cond.selects RX1 yX1_addCore yX1_addCore, Cond.code yX1_addCore cX1_addCore 2 (some .boolean), Cond.fieldLink RX1 28 "MouldShots$Plan" "ahead" "[I", Cond.instanceMethod yX1_addStage, Cond.selects RX1 yX1_addStage yX1_addStage, Cond.code yX1_addStage cX1_addStage 4 (some .boolean), Cond.fieldLink RX1 34 "MouldShots$Plan" "places" "[I", Cond.fieldLink RX1 37 "MouldShots$Plan" "speeds" "[I", Cond.instanceMethod yX1_setThree, Cond.selects RX1 yX1_setThree yX1_setThree, Cond.code yX1_setThree cX1_setThree 4 (some .boolean)]
def wsX4_readInto : List Cond := .code yX4_readInto cX4_readInto 4 (some .int) :: ((wsX4_readInto_r1 ++ wsX4_readInto_r2) ++ wsX40 ++ wsX10)
def wsJ0_coder_7d493 : List Cond := .code yJ0_coder_7d493 cJ0_coder_7d493 1 (some .byte) :: ([.fieldLink RJ0 38 "java/lang/String" "COMPACT_STRINGS" "Z", .fieldLink RJ0 15 "java/lang/String" "coder" "B"])
def wsJ0_length_8abf5 : List Cond := .code yJ0_length_8abf5 cJ0_length_8abf5 1 (some .int) :: ([.fieldLink RJ0 9 "java/lang/String" "value" "[B", .methodLink RJ0 335 yJ0_coder_7d493, .instanceMethod yJ0_coder_7d493, .selects RJ0 yJ0_coder_7d493 yJ0_coder_7d493, .initialized RJ0, .code yJ0_coder_7d493 cJ0_coder_7d493 1 (some .byte), .fieldLink RJ0 38 "java/lang/String" "COMPACT_STRINGS" "Z", .fieldLink RJ0 15 "java/lang/String" "coder" "B"])
def wsJ0_isLatin1_aae02 : List Cond := .code yJ0_isLatin1_aae02 cJ0_isLatin1_aae02 1 (some .boolean) :: ([.fieldLink RJ0 38 "java/lang/String" "COMPACT_STRINGS" "Z", .fieldLink RJ0 15 "java/lang/String" "coder" "B"])
def wsJ3_checkIndex_8e157 : List Cond := .code yJ3_checkIndex_8e157 cJ3_checkIndex_8e157 3 (some .int) :: ([])
def wsJ0_checkIndex_df160 : List Cond := .code yJ0_checkIndex_df160 cJ0_checkIndex_df160 2 none :: ([.fieldLink RJ0 1053 "jdk/internal/util/Preconditions" "SIOOBE_FORMATTER" "Ljava/util/function/BiFunction;", .methodLink RJ0 1059 yJ3_checkIndex_8e157, .static yJ3_checkIndex_8e157, .initialized RJ3, .code yJ3_checkIndex_8e157 cJ3_checkIndex_8e157 3 (some .int)])
def wsJ1_charAt_3b067 : List Cond := .code yJ1_charAt_3b067 cJ1_charAt_3b067 2 (some .char) :: ([.methodLink RJ1 9 yJ0_checkIndex_df160, .static yJ0_checkIndex_df160, .initialized RJ0, .code yJ0_checkIndex_df160 cJ0_checkIndex_df160 2 none, .fieldLink RJ0 1053 "jdk/internal/util/Preconditions" "SIOOBE_FORMATTER" "Ljava/util/function/BiFunction;", .methodLink RJ0 1059 yJ3_checkIndex_8e157, .static yJ3_checkIndex_8e157, .initialized RJ3, .code yJ3_checkIndex_8e157 cJ3_checkIndex_8e157 3 (some .int)])
def wsJ2_length_9d52b : List Cond := .code yJ2_length_9d52b cJ2_length_9d52b 1 (some .int) :: ([])
def wsJ2_checkIndex_2214a : List Cond := .code yJ2_checkIndex_2214a cJ2_checkIndex_2214a 2 none :: ([.methodLink RJ2 48 yJ2_length_9d52b, .static yJ2_length_9d52b, .initialized RJ2, .code yJ2_length_9d52b cJ2_length_9d52b 1 (some .int), .methodLink RJ2 414 yJ0_checkIndex_df160, .static yJ0_checkIndex_df160, .initialized RJ0, .code yJ0_checkIndex_df160 cJ0_checkIndex_df160 2 none, .fieldLink RJ0 1053 "jdk/internal/util/Preconditions" "SIOOBE_FORMATTER" "Ljava/util/function/BiFunction;", .methodLink RJ0 1059 yJ3_checkIndex_8e157, .static yJ3_checkIndex_8e157, .initialized RJ3, .code yJ3_checkIndex_8e157 cJ3_checkIndex_8e157 3 (some .int)])
def wsJ2_getChar_3b067 : List Cond := .code yJ2_getChar_3b067 cJ2_getChar_3b067 2 (some .char) :: ([.fieldLink RJ2 44 "java/lang/StringUTF16" "$assertionsDisabled" "Z", .fieldLink RJ2 59 "java/lang/StringUTF16" "HI_BYTE_SHIFT" "I", .fieldLink RJ2 63 "java/lang/StringUTF16" "LO_BYTE_SHIFT" "I", .methodLink RJ2 48 yJ2_length_9d52b, .static yJ2_length_9d52b, .initialized RJ2, .code yJ2_length_9d52b cJ2_length_9d52b 1 (some .int)])
def wsJ2_charAt_3b067 : List Cond := .code yJ2_charAt_3b067 cJ2_charAt_3b067 2 (some .char) :: ([.methodLink RJ2 67 yJ2_checkIndex_2214a, .static yJ2_checkIndex_2214a, .initialized RJ2, .code yJ2_checkIndex_2214a cJ2_checkIndex_2214a 2 none, .methodLink RJ2 48 yJ2_length_9d52b, .static yJ2_length_9d52b, .code yJ2_length_9d52b cJ2_length_9d52b 1 (some .int), .methodLink RJ2 414 yJ0_checkIndex_df160, .static yJ0_checkIndex_df160, .initialized RJ0, .code yJ0_checkIndex_df160 cJ0_checkIndex_df160 2 none, .fieldLink RJ0 1053 "jdk/internal/util/Preconditions" "SIOOBE_FORMATTER" "Ljava/util/function/BiFunction;", .methodLink RJ0 1059 yJ3_checkIndex_8e157, .static yJ3_checkIndex_8e157, .initialized RJ3, .code yJ3_checkIndex_8e157 cJ3_checkIndex_8e157 3 (some .int), .methodLink RJ2 71 yJ2_getChar_3b067, .static yJ2_getChar_3b067, .code yJ2_getChar_3b067 cJ2_getChar_3b067 2 (some .char), .fieldLink RJ2 44 "java/lang/StringUTF16" "$assertionsDisabled" "Z", .fieldLink RJ2 59 "java/lang/StringUTF16" "HI_BYTE_SHIFT" "I", .fieldLink RJ2 63 "java/lang/StringUTF16" "LO_BYTE_SHIFT" "I"])
def wsJ0_charAt_5068e_r1 : List Cond := [Cond.fieldLink RJ0 9 "java/lang/String" "value" "[B", Cond.methodLink RJ0 492 yJ0_isLatin1_aae02, Cond.instanceMethod yJ0_isLatin1_aae02, Cond.selects RJ0 yJ0_isLatin1_aae02 yJ0_isLatin1_aae02, Cond.initialized RJ0, Cond.code yJ0_isLatin1_aae02 cJ0_isLatin1_aae02 1 (some .boolean), Cond.fieldLink RJ0 38 "java/lang/String" "COMPACT_STRINGS" "Z", Cond.fieldLink RJ0 15 "java/lang/String" "coder" "B", Cond.methodLink RJ0 495 yJ1_charAt_3b067, Cond.static yJ1_charAt_3b067, Cond.initialized RJ1, Cond.code yJ1_charAt_3b067 cJ1_charAt_3b067 2 (some .char), Cond.methodLink RJ1 9 yJ0_checkIndex_df160, Cond.static yJ0_checkIndex_df160, Cond.code yJ0_checkIndex_df160 cJ0_checkIndex_df160 2 none, Cond.fieldLink RJ0 1053 "jdk/internal/util/Preconditions" "SIOOBE_FORMATTER" "Ljava/util/function/BiFunction;", Cond.methodLink RJ0 1059 yJ3_checkIndex_8e157, Cond.static yJ3_checkIndex_8e157, Cond.initialized RJ3, Cond.code yJ3_checkIndex_8e157 cJ3_checkIndex_8e157 3 (some .int), Cond.methodLink RJ0 498 yJ2_charAt_3b067, Cond.static yJ2_charAt_3b067, Cond.initialized RJ2, Cond.code yJ2_charAt_3b067 cJ2_charAt_3b067 2 (some .char)]
def wsJ0_charAt_5068e_r2 : List Cond := [Cond.methodLink RJ2 67 yJ2_checkIndex_2214a, Cond.static yJ2_checkIndex_2214a, Cond.code yJ2_checkIndex_2214a cJ2_checkIndex_2214a 2 none, Cond.methodLink RJ2 48 yJ2_length_9d52b, Cond.static yJ2_length_9d52b, Cond.code yJ2_length_9d52b cJ2_length_9d52b 1 (some .int), Cond.methodLink RJ2 414 yJ0_checkIndex_df160, Cond.methodLink RJ2 71 yJ2_getChar_3b067, Cond.static yJ2_getChar_3b067, Cond.code yJ2_getChar_3b067 cJ2_getChar_3b067 2 (some .char), Cond.fieldLink RJ2 44 "java/lang/StringUTF16" "$assertionsDisabled" "Z", Cond.fieldLink RJ2 59 "java/lang/StringUTF16" "HI_BYTE_SHIFT" "I", Cond.fieldLink RJ2 63 "java/lang/StringUTF16" "LO_BYTE_SHIFT" "I"]
def wsJ0_charAt_5068e : List Cond := .code yJ0_charAt_5068e cJ0_charAt_5068e 2 (some .char) :: ((wsJ0_charAt_5068e_r1 ++ wsJ0_charAt_5068e_r2))
def wsX5_takeDraft_r1 : List Cond := [Cond.fieldLink RX5 23 "MouldShots" "draft" "LMouldShots$Plan;", Cond.fieldLink RX5 19 "MouldShots" "plan" "LMouldShots$Plan;", Cond.fieldLink RX5 40 "MouldShots" "now" "LMouldShots$State;", Cond.fieldLink RX5 36 "MouldShots" "undoable" "I", Cond.instanceMethod yX3_startWith, Cond.initialized RX3, Cond.selects RX3 yX3_startWith yX3_startWith, Cond.code yX3_startWith cX3_startWith 2 none, Cond.fieldLink RX3 9 "MouldShots$State" "drags" "[I", Cond.methodLink RX3 51 arraycopyName, Cond.native arraycopyName, Cond.static arraycopyName, Cond.initialized "java/lang/System", Cond.fieldLink RX3 15 "MouldShots$State" "speeds" "[I", Cond.fieldLink RX3 18 "MouldShots$State" "settings" "[I", Cond.fieldLink RX3 21 "MouldShots$State" "shut" "Z", Cond.fieldLink RX3 25 "MouldShots$State" "coresIn" "I", Cond.fieldLink RX3 29 "MouldShots$State" "loaded" "Z", Cond.fieldLink RX3 32 "MouldShots$State" "hot" "Z", Cond.fieldLink RX3 35 "MouldShots$State" "made" "I", Cond.fieldLink RX3 38 "MouldShots$State" "width" "I", Cond.fieldLink RX3 44 "MouldShots$State" "taught" "LMouldShots$Band;", Cond.instanceMethod yX0_clear, Cond.initialized RX0]
def wsX5_takeDraft_r2 : List Cond := [Cond.selects RX0 yX0_clear yX0_clear, Cond.code yX0_clear cX0_clear 1 none, Cond.fieldLink RX0 9 "MouldShots$Band" "teachers" "I", Cond.fieldLink RX0 15 "MouldShots$Band" "shortest" "I", Cond.fieldLink RX0 18 "MouldShots$Band" "longest" "I"]
def wsX5_takeDraft : List Cond := .code yX5_takeDraft cX5_takeDraft 2 none :: ((wsX5_takeDraft_r1 ++ wsX5_takeDraft_r2) ++ wsX50 ++ wsX10 ++ wsX30 ++ wsX00)
def wsX5_init_r1 : List Cond := [Cond.methodLink RX5 3 objectInit, Cond.instanceMethod objectInit, Cond.code objectInit ⟨#[0xb1]⟩ 1 none, Cond.classLink RX5 9 RX4, Cond.instantiable RX4 3, Cond.initialized RX4, Cond.fieldLink RX5 12 "MouldShots" "text" "LMouldShots$Text;", Cond.classLink RX5 16 RX1, Cond.instantiable RX1 10, Cond.initialized RX1, Cond.fieldLink RX5 19 "MouldShots" "plan" "LMouldShots$Plan;", Cond.fieldLink RX5 23 "MouldShots" "draft" "LMouldShots$Plan;", Cond.classLink RX5 26 RX3, Cond.fieldLink RX5 28 "MouldShots" "states" "[LMouldShots$State;", Cond.fieldLink RX5 32 "MouldShots" "at" "I", Cond.fieldLink RX5 36 "MouldShots" "undoable" "I", Cond.instantiable RX3 10, Cond.initialized RX3, Cond.fieldLink RX5 40 "MouldShots" "now" "LMouldShots$State;", Cond.classLink RX5 44 RX2, Cond.fieldLink RX5 46 "MouldShots" "shots" "[LMouldShots$Shot;", Cond.instantiable RX2 9, Cond.initialized RX2, Cond.fieldLink RX5 51 "MouldShots" "trial" "LMouldShots$Shot;"]
def wsX5_init_r2 : List Cond := [Cond.instanceMethod yX4_init, Cond.code yX4_init cX4_init 1 none, Cond.methodLink RX4 3 objectInit, Cond.arrayClass .int, Cond.fieldLink RX4 9 "MouldShots$Text" "letters" "[I", Cond.fieldLink RX4 15 "MouldShots$Text" "numbers" "[I", Cond.fieldLink RX4 18 "MouldShots$Text" "length" "I", Cond.instanceMethod yX1_init, Cond.code yX1_init cX1_init 1 none, Cond.methodLink RX1 3 objectInit, Cond.fieldLink RX1 9 "MouldShots$Plan" "cavities" "I", Cond.fieldLink RX1 15 "MouldShots$Plan" "volumes" "[I", Cond.fieldLink RX1 19 "MouldShots$Plan" "drags" "[I", Cond.fieldLink RX1 22 "MouldShots$Plan" "freezes" "[I", Cond.fieldLink RX1 25 "MouldShots$Plan" "cores" "I", Cond.fieldLink RX1 28 "MouldShots$Plan" "ahead" "[I", Cond.fieldLink RX1 31 "MouldShots$Plan" "stages" "I", Cond.fieldLink RX1 34 "MouldShots$Plan" "places" "[I", Cond.fieldLink RX1 37 "MouldShots$Plan" "speeds" "[I", Cond.fieldLink RX1 40 "MouldShots$Plan" "settings" "[I", Cond.instanceMethod yX3_init, Cond.code yX3_init cX3_init 1 none, Cond.methodLink RX3 3 objectInit, Cond.fieldLink RX3 9 "MouldShots$State" "drags" "[I"]
def wsX5_init_r3 : List Cond := [Cond.fieldLink RX3 15 "MouldShots$State" "speeds" "[I", Cond.fieldLink RX3 18 "MouldShots$State" "settings" "[I", Cond.fieldLink RX3 21 "MouldShots$State" "shut" "Z", Cond.fieldLink RX3 25 "MouldShots$State" "coresIn" "I", Cond.fieldLink RX3 29 "MouldShots$State" "loaded" "Z", Cond.fieldLink RX3 32 "MouldShots$State" "hot" "Z", Cond.fieldLink RX3 35 "MouldShots$State" "made" "I", Cond.fieldLink RX3 38 "MouldShots$State" "width" "I", Cond.classLink RX3 41 RX0, Cond.instantiable RX0 5, Cond.initialized RX0, Cond.fieldLink RX3 44 "MouldShots$State" "taught" "LMouldShots$Band;", Cond.instanceMethod yX0_init, Cond.code yX0_init cX0_init 1 none, Cond.methodLink RX0 3 objectInit, Cond.fieldLink RX0 9 "MouldShots$Band" "teachers" "I", Cond.fieldLink RX0 15 "MouldShots$Band" "shortest" "I", Cond.fieldLink RX0 18 "MouldShots$Band" "longest" "I", Cond.fieldLink RX0 21 "MouldShots$Band" "least" "[I", Cond.fieldLink RX0 25 "MouldShots$Band" "greatest" "[I", Cond.instanceMethod yX2_init, Cond.code yX2_init cX2_init 1 none, Cond.methodLink RX2 3 objectInit, Cond.fieldLink RX2 9 "MouldShots$Shot" "has" "[I"]
def wsX5_init_r4 : List Cond := [Cond.fieldLink RX2 15 "MouldShots$Shot" "firstAt" "[I", Cond.fieldLink RX2 18 "MouldShots$Shot" "fullAt" "[I", Cond.fieldLink RX2 21 "MouldShots$Shot" "pressures" "[I", Cond.fieldLink RX2 24 "MouldShots$Shot" "place" "I", Cond.fieldLink RX2 28 "MouldShots$Shot" "fillTicks" "I", Cond.fieldLink RX2 31 "MouldShots$Shot" "ticks" "I", Cond.fieldLink RX2 34 "MouldShots$Shot" "coolTicks" "I", Cond.fieldLink RX2 37 "MouldShots$Shot" "why" "I", Cond.methodLink RX5 57 yJ0_length_8abf5, Cond.instanceMethod yJ0_length_8abf5, Cond.selects RJ0 yJ0_length_8abf5 yJ0_length_8abf5, Cond.initialized RJ0, Cond.code yJ0_length_8abf5 cJ0_length_8abf5 1 (some .int), Cond.fieldLink RJ0 9 "java/lang/String" "value" "[B", Cond.methodLink RJ0 335 yJ0_coder_7d493, Cond.instanceMethod yJ0_coder_7d493, Cond.selects RJ0 yJ0_coder_7d493 yJ0_coder_7d493, Cond.code yJ0_coder_7d493 cJ0_coder_7d493 1 (some .byte), Cond.fieldLink RJ0 38 "java/lang/String" "COMPACT_STRINGS" "Z", Cond.fieldLink RJ0 15 "java/lang/String" "coder" "B", Cond.methodLink RX5 63 yJ0_charAt_5068e, Cond.instanceMethod yJ0_charAt_5068e, Cond.selects RJ0 yJ0_charAt_5068e yJ0_charAt_5068e, Cond.code yJ0_charAt_5068e cJ0_charAt_5068e 2 (some .char)]
def wsX5_init_r5 : List Cond := [Cond.methodLink RJ0 492 yJ0_isLatin1_aae02, Cond.instanceMethod yJ0_isLatin1_aae02, Cond.selects RJ0 yJ0_isLatin1_aae02 yJ0_isLatin1_aae02, Cond.code yJ0_isLatin1_aae02 cJ0_isLatin1_aae02 1 (some .boolean), Cond.methodLink RJ0 495 yJ1_charAt_3b067, Cond.static yJ1_charAt_3b067, Cond.initialized RJ1, Cond.code yJ1_charAt_3b067 cJ1_charAt_3b067 2 (some .char), Cond.methodLink RJ1 9 yJ0_checkIndex_df160, Cond.static yJ0_checkIndex_df160, Cond.code yJ0_checkIndex_df160 cJ0_checkIndex_df160 2 none, Cond.fieldLink RJ0 1053 "jdk/internal/util/Preconditions" "SIOOBE_FORMATTER" "Ljava/util/function/BiFunction;", Cond.methodLink RJ0 1059 yJ3_checkIndex_8e157, Cond.static yJ3_checkIndex_8e157, Cond.initialized RJ3, Cond.code yJ3_checkIndex_8e157 cJ3_checkIndex_8e157 3 (some .int), Cond.methodLink RJ0 498 yJ2_charAt_3b067, Cond.static yJ2_charAt_3b067, Cond.initialized RJ2, Cond.code yJ2_charAt_3b067 cJ2_charAt_3b067 2 (some .char), Cond.methodLink RJ2 67 yJ2_checkIndex_2214a, Cond.static yJ2_checkIndex_2214a, Cond.code yJ2_checkIndex_2214a cJ2_checkIndex_2214a 2 none, Cond.methodLink RJ2 48 yJ2_length_9d52b]
def wsX5_init_r6 : List Cond := [Cond.static yJ2_length_9d52b, Cond.code yJ2_length_9d52b cJ2_length_9d52b 1 (some .int), Cond.methodLink RJ2 414 yJ0_checkIndex_df160, Cond.methodLink RJ2 71 yJ2_getChar_3b067, Cond.static yJ2_getChar_3b067, Cond.code yJ2_getChar_3b067 cJ2_getChar_3b067 2 (some .char), Cond.fieldLink RJ2 44 "java/lang/StringUTF16" "$assertionsDisabled" "Z", Cond.fieldLink RJ2 59 "java/lang/StringUTF16" "HI_BYTE_SHIFT" "I", Cond.fieldLink RJ2 63 "java/lang/StringUTF16" "LO_BYTE_SHIFT" "I", Cond.instanceMethod yX4_append, Cond.selects RX4 yX4_append yX4_append, Cond.code yX4_append cX4_append 2 (some .boolean), Cond.instanceMethod yX4_readInto, Cond.selects RX4 yX4_readInto yX4_readInto, Cond.code yX4_readInto cX4_readInto 4 (some .int), Cond.instanceMethod yX1_clear, Cond.selects RX1 yX1_clear yX1_clear, Cond.code yX1_clear cX1_clear 1 none, Cond.methodLink RX1 46 arraycopyName, Cond.native arraycopyName, Cond.static arraycopyName, Cond.initialized "java/lang/System", Cond.methodLink RX4 27 yX4_readItem, Cond.instanceMethod yX4_readItem]
def wsX5_init_r7 : List Cond := [Cond.selects RX4 yX4_readItem yX4_readItem, Cond.code yX4_readItem cX4_readItem 5 (some .boolean), Cond.methodLink RX4 31 yX4_readNumbers, Cond.instanceMethod yX4_readNumbers, Cond.selects RX4 yX4_readNumbers yX4_readNumbers, Cond.code yX4_readNumbers cX4_readNumbers 8 (some .int), Cond.instanceMethod yX1_addCavity, Cond.selects RX1 yX1_addCavity yX1_addCavity, Cond.code yX1_addCavity cX1_addCavity 4 (some .boolean), Cond.instanceMethod yX1_addCore, Cond.selects RX1 yX1_addCore yX1_addCore, Cond.code yX1_addCore cX1_addCore 2 (some .boolean), Cond.instanceMethod yX1_addStage, Cond.selects RX1 yX1_addStage yX1_addStage, Cond.code yX1_addStage cX1_addStage 4 (some .boolean), Cond.instanceMethod yX1_setThree, Cond.selects RX1 yX1_setThree yX1_setThree, Cond.code yX1_setThree cX1_setThree 4 (some .boolean), Cond.methodLink RX5 75 yX5_takeDraft, Cond.instanceMethod yX5_takeDraft, Cond.selects RX5 yX5_takeDraft yX5_takeDraft, Cond.initialized RX5, Cond.code yX5_takeDraft cX5_takeDraft 2 none, Cond.instanceMethod yX3_startWith]
def wsX5_init_r8 : List Cond := [Cond.selects RX3 yX3_startWith yX3_startWith, Cond.code yX3_startWith cX3_startWith 2 none, Cond.methodLink RX3 51 arraycopyName, Cond.instanceMethod yX0_clear, Cond.selects RX0 yX0_clear yX0_clear, Cond.code yX0_clear cX0_clear 1 none, Cond.instanceMethod yX4_clear, Cond.selects RX4 yX4_clear yX4_clear, Cond.code yX4_clear cX4_clear 1 none]
def wsX5_init : List Cond := .code yX5_init cX5_init 2 none :: ((wsX5_init_r1 ++ (wsX5_init_r2 ++ (wsX5_init_r3 ++ (wsX5_init_r4 ++ (wsX5_init_r5 ++ (wsX5_init_r6 ++ (wsX5_init_r7 ++ wsX5_init_r8))))))) ++ wsX40 ++ wsX50 ++ wsX10 ++ wsX30 ++ wsX20 ++ wsX00)
def wsX5_write : List Cond := .code yX5_write cX5_write 2 (some .int) :: ([.fieldLink RX5 12 "MouldShots" "text" "LMouldShots$Text;", .instanceMethod yX4_append, .initialized RX4, .selects RX4 yX4_append yX4_append, .code yX4_append cX4_append 2 (some .boolean), .fieldLink RX4 18 "MouldShots$Text" "length" "I", .fieldLink RX4 9 "MouldShots$Text" "letters" "[I"] ++ wsX50 ++ wsX40)
def wsX5_wipe : List Cond := .code yX5_wipe cX5_wipe 2 (some .int) :: ([.fieldLink RX5 12 "MouldShots" "text" "LMouldShots$Text;", .instanceMethod yX4_clear, .initialized RX4, .selects RX4 yX4_clear yX4_clear, .code yX4_clear cX4_clear 1 none, .fieldLink RX4 18 "MouldShots$Text" "length" "I"] ++ wsX50 ++ wsX40)
def wsX5_fault_r1 : List Cond := [Cond.fieldLink RX5 12 "MouldShots" "text" "LMouldShots$Text;", Cond.fieldLink RX5 23 "MouldShots" "draft" "LMouldShots$Plan;", Cond.instanceMethod yX4_readInto, Cond.initialized RX4, Cond.selects RX4 yX4_readInto yX4_readInto, Cond.code yX4_readInto cX4_readInto 4 (some .int), Cond.fieldLink RX4 18 "MouldShots$Text" "length" "I", Cond.fieldLink RX4 9 "MouldShots$Text" "letters" "[I", Cond.instanceMethod yX1_clear, Cond.initialized RX1, Cond.selects RX1 yX1_clear yX1_clear, Cond.code yX1_clear cX1_clear 1 none, Cond.fieldLink RX1 9 "MouldShots$Plan" "cavities" "I", Cond.fieldLink RX1 25 "MouldShots$Plan" "cores" "I", Cond.fieldLink RX1 31 "MouldShots$Plan" "stages" "I", Cond.fieldLink RX1 40 "MouldShots$Plan" "settings" "[I", Cond.methodLink RX1 46 arraycopyName, Cond.native arraycopyName, Cond.static arraycopyName, Cond.initialized "java/lang/System", Cond.methodLink RX4 27 yX4_readItem, Cond.instanceMethod yX4_readItem, Cond.selects RX4 yX4_readItem yX4_readItem, Cond.code yX4_readItem cX4_readItem 5 (some .boolean)]
def wsX5_fault_r2 : List Cond := [Cond.fieldLink RX4 15 "MouldShots$Text" "numbers" "[I", Cond.methodLink RX4 31 yX4_readNumbers, Cond.instanceMethod yX4_readNumbers, Cond.selects RX4 yX4_readNumbers yX4_readNumbers, Cond.code yX4_readNumbers cX4_readNumbers 8 (some .int), Cond.instanceMethod yX1_addCavity, Cond.selects RX1 yX1_addCavity yX1_addCavity, Cond.code yX1_addCavity cX1_addCavity 4 (some .boolean), Cond.fieldLink RX1 15 "MouldShots$Plan" "volumes" "[I", Cond.fieldLink RX1 19 "MouldShots$Plan" "drags" "[I", Cond.fieldLink RX1 22 "MouldShots$Plan" "freezes" "[I", Cond.instanceMethod yX1_addCore, Cond.selects RX1 yX1_addCore yX1_addCore, Cond.code yX1_addCore cX1_addCore 2 (some .boolean), Cond.fieldLink RX1 28 "MouldShots$Plan" "ahead" "[I", Cond.instanceMethod yX1_addStage, Cond.selects RX1 yX1_addStage yX1_addStage, Cond.code yX1_addStage cX1_addStage 4 (some .boolean), Cond.fieldLink RX1 34 "MouldShots$Plan" "places" "[I", Cond.fieldLink RX1 37 "MouldShots$Plan" "speeds" "[I", Cond.instanceMethod yX1_setThree, Cond.selects RX1 yX1_setThree yX1_setThree, Cond.code yX1_setThree cX1_setThree 4 (some .boolean)]
def wsX5_fault : List Cond := .code yX5_fault cX5_fault 1 (some .int) :: ((wsX5_fault_r1 ++ wsX5_fault_r2) ++ wsX50 ++ wsX40 ++ wsX10)
def wsX5_lay_r1 : List Cond := [Cond.fieldLink RX5 12 "MouldShots" "text" "LMouldShots$Text;", Cond.fieldLink RX5 23 "MouldShots" "draft" "LMouldShots$Plan;", Cond.fieldLink RX5 19 "MouldShots" "plan" "LMouldShots$Plan;", Cond.instanceMethod yX4_readInto, Cond.initialized RX4, Cond.selects RX4 yX4_readInto yX4_readInto, Cond.code yX4_readInto cX4_readInto 4 (some .int), Cond.fieldLink RX4 18 "MouldShots$Text" "length" "I", Cond.fieldLink RX4 9 "MouldShots$Text" "letters" "[I", Cond.instanceMethod yX1_clear, Cond.initialized RX1, Cond.selects RX1 yX1_clear yX1_clear, Cond.code yX1_clear cX1_clear 1 none, Cond.fieldLink RX1 9 "MouldShots$Plan" "cavities" "I", Cond.fieldLink RX1 25 "MouldShots$Plan" "cores" "I", Cond.fieldLink RX1 31 "MouldShots$Plan" "stages" "I", Cond.fieldLink RX1 40 "MouldShots$Plan" "settings" "[I", Cond.methodLink RX1 46 arraycopyName, Cond.native arraycopyName, Cond.static arraycopyName, Cond.initialized "java/lang/System", Cond.methodLink RX4 27 yX4_readItem, Cond.instanceMethod yX4_readItem, Cond.selects RX4 yX4_readItem yX4_readItem]
def wsX5_lay_r2 : List Cond := [Cond.code yX4_readItem cX4_readItem 5 (some .boolean), Cond.fieldLink RX4 15 "MouldShots$Text" "numbers" "[I", Cond.methodLink RX4 31 yX4_readNumbers, Cond.instanceMethod yX4_readNumbers, Cond.selects RX4 yX4_readNumbers yX4_readNumbers, Cond.code yX4_readNumbers cX4_readNumbers 8 (some .int), Cond.instanceMethod yX1_addCavity, Cond.selects RX1 yX1_addCavity yX1_addCavity, Cond.code yX1_addCavity cX1_addCavity 4 (some .boolean), Cond.fieldLink RX1 15 "MouldShots$Plan" "volumes" "[I", Cond.fieldLink RX1 19 "MouldShots$Plan" "drags" "[I", Cond.fieldLink RX1 22 "MouldShots$Plan" "freezes" "[I", Cond.instanceMethod yX1_addCore, Cond.selects RX1 yX1_addCore yX1_addCore, Cond.code yX1_addCore cX1_addCore 2 (some .boolean), Cond.fieldLink RX1 28 "MouldShots$Plan" "ahead" "[I", Cond.instanceMethod yX1_addStage, Cond.selects RX1 yX1_addStage yX1_addStage, Cond.code yX1_addStage cX1_addStage 4 (some .boolean), Cond.fieldLink RX1 34 "MouldShots$Plan" "places" "[I", Cond.fieldLink RX1 37 "MouldShots$Plan" "speeds" "[I", Cond.instanceMethod yX1_setThree, Cond.selects RX1 yX1_setThree yX1_setThree, Cond.code yX1_setThree cX1_setThree 4 (some .boolean)]
def wsX5_lay_r3 : List Cond := [Cond.instanceMethod yX1_canBeLaid, Cond.selects RX1 yX1_canBeLaid yX1_canBeLaid, Cond.code yX1_canBeLaid cX1_canBeLaid 2 (some .boolean), Cond.methodLink RX1 58 yX1_chainEnds, Cond.instanceMethod yX1_chainEnds, Cond.selects RX1 yX1_chainEnds yX1_chainEnds, Cond.code yX1_chainEnds cX1_chainEnds 4 (some .boolean), Cond.methodLink RX5 75 yX5_takeDraft, Cond.instanceMethod yX5_takeDraft, Cond.selects RX5 yX5_takeDraft yX5_takeDraft, Cond.initialized RX5, Cond.code yX5_takeDraft cX5_takeDraft 2 none, Cond.fieldLink RX5 40 "MouldShots" "now" "LMouldShots$State;", Cond.fieldLink RX5 36 "MouldShots" "undoable" "I", Cond.instanceMethod yX3_startWith, Cond.initialized RX3, Cond.selects RX3 yX3_startWith yX3_startWith, Cond.code yX3_startWith cX3_startWith 2 none, Cond.fieldLink RX3 9 "MouldShots$State" "drags" "[I", Cond.methodLink RX3 51 arraycopyName, Cond.fieldLink RX3 15 "MouldShots$State" "speeds" "[I", Cond.fieldLink RX3 18 "MouldShots$State" "settings" "[I", Cond.fieldLink RX3 21 "MouldShots$State" "shut" "Z", Cond.fieldLink RX3 25 "MouldShots$State" "coresIn" "I"]
def wsX5_lay_r4 : List Cond := [Cond.fieldLink RX3 29 "MouldShots$State" "loaded" "Z", Cond.fieldLink RX3 32 "MouldShots$State" "hot" "Z", Cond.fieldLink RX3 35 "MouldShots$State" "made" "I", Cond.fieldLink RX3 38 "MouldShots$State" "width" "I", Cond.fieldLink RX3 44 "MouldShots$State" "taught" "LMouldShots$Band;", Cond.instanceMethod yX0_clear, Cond.initialized RX0, Cond.selects RX0 yX0_clear yX0_clear, Cond.code yX0_clear cX0_clear 1 none, Cond.fieldLink RX0 9 "MouldShots$Band" "teachers" "I", Cond.fieldLink RX0 15 "MouldShots$Band" "shortest" "I", Cond.fieldLink RX0 18 "MouldShots$Band" "longest" "I"]
def wsX5_lay : List Cond := .code yX5_lay cX5_lay 1 (some .int) :: ((wsX5_lay_r1 ++ (wsX5_lay_r2 ++ (wsX5_lay_r3 ++ wsX5_lay_r4))) ++ wsX50 ++ wsX10 ++ wsX40 ++ wsX30 ++ wsX00)
def wsX5_isFlag : List Cond := .code yX5_isFlag cX5_isFlag 1 (some .boolean) :: ([])
def wsX5_startChange_r1 : List Cond := [Cond.fieldLink RX5 32 "MouldShots" "at" "I", Cond.fieldLink RX5 28 "MouldShots" "states" "[LMouldShots$State;", Cond.fieldLink RX5 40 "MouldShots" "now" "LMouldShots$State;", Cond.fieldLink RX5 36 "MouldShots" "undoable" "I", Cond.methodLink RX5 196 Lib.Math.min.name, Cond.static Lib.Math.min.name, Cond.initialized "java/lang/Math", Cond.code Lib.Math.min.name Lib.Math.min.code 2 (some .int), Cond.instanceMethod yX3_copyFrom, Cond.initialized RX3, Cond.selects RX3 yX3_copyFrom yX3_copyFrom, Cond.code yX3_copyFrom cX3_copyFrom 2 none, Cond.fieldLink RX3 9 "MouldShots$State" "drags" "[I", Cond.methodLink RX3 51 arraycopyName, Cond.native arraycopyName, Cond.static arraycopyName, Cond.initialized "java/lang/System", Cond.fieldLink RX3 15 "MouldShots$State" "speeds" "[I", Cond.fieldLink RX3 18 "MouldShots$State" "settings" "[I", Cond.fieldLink RX3 21 "MouldShots$State" "shut" "Z", Cond.fieldLink RX3 25 "MouldShots$State" "coresIn" "I", Cond.fieldLink RX3 29 "MouldShots$State" "loaded" "Z", Cond.fieldLink RX3 32 "MouldShots$State" "hot" "Z", Cond.fieldLink RX3 35 "MouldShots$State" "made" "I"]
def wsX5_startChange_r2 : List Cond := [Cond.fieldLink RX3 38 "MouldShots$State" "width" "I", Cond.fieldLink RX3 44 "MouldShots$State" "taught" "LMouldShots$Band;", Cond.instanceMethod yX0_copyFrom, Cond.initialized RX0, Cond.selects RX0 yX0_copyFrom yX0_copyFrom, Cond.code yX0_copyFrom cX0_copyFrom 2 none, Cond.fieldLink RX0 9 "MouldShots$Band" "teachers" "I", Cond.fieldLink RX0 15 "MouldShots$Band" "shortest" "I", Cond.fieldLink RX0 18 "MouldShots$Band" "longest" "I", Cond.fieldLink RX0 21 "MouldShots$Band" "least" "[I", Cond.methodLink RX0 28 arraycopyName, Cond.fieldLink RX0 25 "MouldShots$Band" "greatest" "[I"]
def wsX5_startChange : List Cond := .code yX5_startChange cX5_startChange 1 none :: ((wsX5_startChange_r1 ++ wsX5_startChange_r2) ++ wsX50 ++ wsX30 ++ wsX00)
def wsX5_shutMould_r1 : List Cond := [Cond.fieldLink RX5 40 "MouldShots" "now" "LMouldShots$State;", Cond.methodLink RX5 107 yX5_startChange, Cond.instanceMethod yX5_startChange, Cond.selects RX5 yX5_startChange yX5_startChange, Cond.initialized RX5, Cond.code yX5_startChange cX5_startChange 1 none, Cond.fieldLink RX5 32 "MouldShots" "at" "I", Cond.fieldLink RX5 28 "MouldShots" "states" "[LMouldShots$State;", Cond.fieldLink RX5 36 "MouldShots" "undoable" "I", Cond.methodLink RX5 196 Lib.Math.min.name, Cond.static Lib.Math.min.name, Cond.initialized "java/lang/Math", Cond.code Lib.Math.min.name Lib.Math.min.code 2 (some .int), Cond.instanceMethod yX3_copyFrom, Cond.initialized RX3, Cond.selects RX3 yX3_copyFrom yX3_copyFrom, Cond.code yX3_copyFrom cX3_copyFrom 2 none, Cond.fieldLink RX3 9 "MouldShots$State" "drags" "[I", Cond.methodLink RX3 51 arraycopyName, Cond.native arraycopyName, Cond.static arraycopyName, Cond.initialized "java/lang/System", Cond.fieldLink RX3 15 "MouldShots$State" "speeds" "[I", Cond.fieldLink RX3 18 "MouldShots$State" "settings" "[I"]
def wsX5_shutMould_r2 : List Cond := [Cond.fieldLink RX3 21 "MouldShots$State" "shut" "Z", Cond.fieldLink RX3 25 "MouldShots$State" "coresIn" "I", Cond.fieldLink RX3 29 "MouldShots$State" "loaded" "Z", Cond.fieldLink RX3 32 "MouldShots$State" "hot" "Z", Cond.fieldLink RX3 35 "MouldShots$State" "made" "I", Cond.fieldLink RX3 38 "MouldShots$State" "width" "I", Cond.fieldLink RX3 44 "MouldShots$State" "taught" "LMouldShots$Band;", Cond.instanceMethod yX0_copyFrom, Cond.initialized RX0, Cond.selects RX0 yX0_copyFrom yX0_copyFrom, Cond.code yX0_copyFrom cX0_copyFrom 2 none, Cond.fieldLink RX0 9 "MouldShots$Band" "teachers" "I", Cond.fieldLink RX0 15 "MouldShots$Band" "shortest" "I", Cond.fieldLink RX0 18 "MouldShots$Band" "longest" "I", Cond.fieldLink RX0 21 "MouldShots$Band" "least" "[I", Cond.methodLink RX0 28 arraycopyName, Cond.fieldLink RX0 25 "MouldShots$Band" "greatest" "[I"]
def wsX5_shutMould : List Cond := .code yX5_shutMould cX5_shutMould 1 (some .int) :: ((wsX5_shutMould_r1 ++ wsX5_shutMould_r2) ++ wsX50 ++ wsX30 ++ wsX00)
def wsX5_openMould_r1 : List Cond := [Cond.fieldLink RX5 40 "MouldShots" "now" "LMouldShots$State;", Cond.methodLink RX5 107 yX5_startChange, Cond.instanceMethod yX5_startChange, Cond.selects RX5 yX5_startChange yX5_startChange, Cond.initialized RX5, Cond.code yX5_startChange cX5_startChange 1 none, Cond.fieldLink RX5 32 "MouldShots" "at" "I", Cond.fieldLink RX5 28 "MouldShots" "states" "[LMouldShots$State;", Cond.fieldLink RX5 36 "MouldShots" "undoable" "I", Cond.methodLink RX5 196 Lib.Math.min.name, Cond.static Lib.Math.min.name, Cond.initialized "java/lang/Math", Cond.code Lib.Math.min.name Lib.Math.min.code 2 (some .int), Cond.instanceMethod yX3_copyFrom, Cond.initialized RX3, Cond.selects RX3 yX3_copyFrom yX3_copyFrom, Cond.code yX3_copyFrom cX3_copyFrom 2 none, Cond.fieldLink RX3 9 "MouldShots$State" "drags" "[I", Cond.methodLink RX3 51 arraycopyName, Cond.native arraycopyName, Cond.static arraycopyName, Cond.initialized "java/lang/System", Cond.fieldLink RX3 15 "MouldShots$State" "speeds" "[I", Cond.fieldLink RX3 18 "MouldShots$State" "settings" "[I"]
def wsX5_openMould_r2 : List Cond := [Cond.fieldLink RX3 21 "MouldShots$State" "shut" "Z", Cond.fieldLink RX3 25 "MouldShots$State" "coresIn" "I", Cond.fieldLink RX3 29 "MouldShots$State" "loaded" "Z", Cond.fieldLink RX3 32 "MouldShots$State" "hot" "Z", Cond.fieldLink RX3 35 "MouldShots$State" "made" "I", Cond.fieldLink RX3 38 "MouldShots$State" "width" "I", Cond.fieldLink RX3 44 "MouldShots$State" "taught" "LMouldShots$Band;", Cond.instanceMethod yX0_copyFrom, Cond.initialized RX0, Cond.selects RX0 yX0_copyFrom yX0_copyFrom, Cond.code yX0_copyFrom cX0_copyFrom 2 none, Cond.fieldLink RX0 9 "MouldShots$Band" "teachers" "I", Cond.fieldLink RX0 15 "MouldShots$Band" "shortest" "I", Cond.fieldLink RX0 18 "MouldShots$Band" "longest" "I", Cond.fieldLink RX0 21 "MouldShots$Band" "least" "[I", Cond.methodLink RX0 28 arraycopyName, Cond.fieldLink RX0 25 "MouldShots$Band" "greatest" "[I"]
def wsX5_openMould : List Cond := .code yX5_openMould cX5_openMould 2 (some .int) :: ((wsX5_openMould_r1 ++ wsX5_openMould_r2) ++ wsX50 ++ wsX30 ++ wsX00)
def wsX5_mould_r1 : List Cond := [Cond.methodLink RX5 94 yX5_isFlag, Cond.static yX5_isFlag, Cond.initialized RX5, Cond.code yX5_isFlag cX5_isFlag 1 (some .boolean), Cond.methodLink RX5 97 yX5_shutMould, Cond.instanceMethod yX5_shutMould, Cond.selects RX5 yX5_shutMould yX5_shutMould, Cond.code yX5_shutMould cX5_shutMould 1 (some .int), Cond.fieldLink RX5 40 "MouldShots" "now" "LMouldShots$State;", Cond.methodLink RX5 107 yX5_startChange, Cond.instanceMethod yX5_startChange, Cond.selects RX5 yX5_startChange yX5_startChange, Cond.code yX5_startChange cX5_startChange 1 none, Cond.fieldLink RX5 32 "MouldShots" "at" "I", Cond.fieldLink RX5 28 "MouldShots" "states" "[LMouldShots$State;", Cond.fieldLink RX5 36 "MouldShots" "undoable" "I", Cond.methodLink RX5 196 Lib.Math.min.name, Cond.static Lib.Math.min.name, Cond.initialized "java/lang/Math", Cond.code Lib.Math.min.name Lib.Math.min.code 2 (some .int), Cond.instanceMethod yX3_copyFrom, Cond.initialized RX3, Cond.selects RX3 yX3_copyFrom yX3_copyFrom, Cond.code yX3_copyFrom cX3_copyFrom 2 none]
def wsX5_mould_r2 : List Cond := [Cond.fieldLink RX3 9 "MouldShots$State" "drags" "[I", Cond.methodLink RX3 51 arraycopyName, Cond.native arraycopyName, Cond.static arraycopyName, Cond.initialized "java/lang/System", Cond.fieldLink RX3 15 "MouldShots$State" "speeds" "[I", Cond.fieldLink RX3 18 "MouldShots$State" "settings" "[I", Cond.fieldLink RX3 21 "MouldShots$State" "shut" "Z", Cond.fieldLink RX3 25 "MouldShots$State" "coresIn" "I", Cond.fieldLink RX3 29 "MouldShots$State" "loaded" "Z", Cond.fieldLink RX3 32 "MouldShots$State" "hot" "Z", Cond.fieldLink RX3 35 "MouldShots$State" "made" "I", Cond.fieldLink RX3 38 "MouldShots$State" "width" "I", Cond.fieldLink RX3 44 "MouldShots$State" "taught" "LMouldShots$Band;", Cond.instanceMethod yX0_copyFrom, Cond.initialized RX0, Cond.selects RX0 yX0_copyFrom yX0_copyFrom, Cond.code yX0_copyFrom cX0_copyFrom 2 none, Cond.fieldLink RX0 9 "MouldShots$Band" "teachers" "I", Cond.fieldLink RX0 15 "MouldShots$Band" "shortest" "I", Cond.fieldLink RX0 18 "MouldShots$Band" "longest" "I", Cond.fieldLink RX0 21 "MouldShots$Band" "least" "[I", Cond.methodLink RX0 28 arraycopyName, Cond.fieldLink RX0 25 "MouldShots$Band" "greatest" "[I"]
def wsX5_mould_r3 : List Cond := [Cond.methodLink RX5 100 yX5_openMould, Cond.instanceMethod yX5_openMould, Cond.selects RX5 yX5_openMould yX5_openMould, Cond.code yX5_openMould cX5_openMould 2 (some .int)]
def wsX5_mould : List Cond := .code yX5_mould cX5_mould 2 (some .int) :: ((wsX5_mould_r1 ++ (wsX5_mould_r2 ++ wsX5_mould_r3)) ++ wsX50 ++ wsX30 ++ wsX00)
def wsX5_isCore : List Cond := .code yX5_isCore cX5_isCore 2 (some .boolean) :: ([.fieldLink RX5 19 "MouldShots" "plan" "LMouldShots$Plan;"] ++ wsX50 ++ wsX10)
def wsX5_outAheadOf : List Cond := .code yX5_outAheadOf cX5_outAheadOf 3 (some .int) :: ([.fieldLink RX5 19 "MouldShots" "plan" "LMouldShots$Plan;", .fieldLink RX5 40 "MouldShots" "now" "LMouldShots$State;", .methodLink RX5 119 yX5_isCore, .instanceMethod yX5_isCore, .selects RX5 yX5_isCore yX5_isCore, .initialized RX5, .code yX5_isCore cX5_isCore 2 (some .boolean), .instanceMethod yX3_isIn, .initialized RX3, .selects RX3 yX3_isIn yX3_isIn, .code yX3_isIn cX3_isIn 2 (some .boolean), .fieldLink RX3 25 "MouldShots$State" "coresIn" "I"] ++ wsX50 ++ wsX10 ++ wsX30)
def wsX5_inBehind : List Cond := .code yX5_inBehind cX5_inBehind 3 (some .int) :: ([.fieldLink RX5 19 "MouldShots" "plan" "LMouldShots$Plan;", .fieldLink RX5 40 "MouldShots" "now" "LMouldShots$State;", .instanceMethod yX3_isIn, .initialized RX3, .selects RX3 yX3_isIn yX3_isIn, .code yX3_isIn cX3_isIn 2 (some .boolean), .fieldLink RX3 25 "MouldShots$State" "coresIn" "I"] ++ wsX50 ++ wsX10 ++ wsX30)
def wsX5_barrier : List Cond := .code yX5_barrier cX5_barrier 5 (some .int) :: ([.fieldLink RX5 40 "MouldShots" "now" "LMouldShots$State;", .instanceMethod yX3_isIn, .initialized RX3, .selects RX3 yX3_isIn yX3_isIn, .code yX3_isIn cX3_isIn 2 (some .boolean), .fieldLink RX3 25 "MouldShots$State" "coresIn" "I", .methodLink RX5 135 yX5_outAheadOf, .instanceMethod yX5_outAheadOf, .selects RX5 yX5_outAheadOf yX5_outAheadOf, .initialized RX5, .code yX5_outAheadOf cX5_outAheadOf 3 (some .int), .fieldLink RX5 19 "MouldShots" "plan" "LMouldShots$Plan;", .methodLink RX5 119 yX5_isCore, .instanceMethod yX5_isCore, .selects RX5 yX5_isCore yX5_isCore, .code yX5_isCore cX5_isCore 2 (some .boolean), .methodLink RX5 138 yX5_inBehind, .instanceMethod yX5_inBehind, .selects RX5 yX5_inBehind yX5_inBehind, .code yX5_inBehind cX5_inBehind 3 (some .int)] ++ wsX50 ++ wsX30 ++ wsX10)
def wsJ6_bitCount_0f7a4 : List Cond := .code yJ6_bitCount_0f7a4 cJ6_bitCount_0f7a4 1 (some .int) :: ([.constant RJ6 265 (1431655765), .constant RJ6 266 (858993459), .constant RJ6 267 (252645135)])
def wsX5_core_r1 : List Cond := [Cond.fieldLink RX5 40 "MouldShots" "now" "LMouldShots$State;", Cond.methodLink RX5 119 yX5_isCore, Cond.instanceMethod yX5_isCore, Cond.selects RX5 yX5_isCore yX5_isCore, Cond.initialized RX5, Cond.code yX5_isCore cX5_isCore 2 (some .boolean), Cond.fieldLink RX5 19 "MouldShots" "plan" "LMouldShots$Plan;", Cond.methodLink RX5 94 yX5_isFlag, Cond.static yX5_isFlag, Cond.code yX5_isFlag cX5_isFlag 1 (some .boolean), Cond.methodLink RX5 122 yX5_barrier, Cond.instanceMethod yX5_barrier, Cond.selects RX5 yX5_barrier yX5_barrier, Cond.code yX5_barrier cX5_barrier 5 (some .int), Cond.instanceMethod yX3_isIn, Cond.initialized RX3, Cond.selects RX3 yX3_isIn yX3_isIn, Cond.code yX3_isIn cX3_isIn 2 (some .boolean), Cond.fieldLink RX3 25 "MouldShots$State" "coresIn" "I", Cond.methodLink RX5 135 yX5_outAheadOf, Cond.instanceMethod yX5_outAheadOf, Cond.selects RX5 yX5_outAheadOf yX5_outAheadOf, Cond.code yX5_outAheadOf cX5_outAheadOf 3 (some .int), Cond.methodLink RX5 138 yX5_inBehind]
def wsX5_core_r2 : List Cond := [Cond.instanceMethod yX5_inBehind, Cond.selects RX5 yX5_inBehind yX5_inBehind, Cond.code yX5_inBehind cX5_inBehind 3 (some .int), Cond.methodLink RX5 107 yX5_startChange, Cond.instanceMethod yX5_startChange, Cond.selects RX5 yX5_startChange yX5_startChange, Cond.code yX5_startChange cX5_startChange 1 none, Cond.fieldLink RX5 32 "MouldShots" "at" "I", Cond.fieldLink RX5 28 "MouldShots" "states" "[LMouldShots$State;", Cond.fieldLink RX5 36 "MouldShots" "undoable" "I", Cond.methodLink RX5 196 Lib.Math.min.name, Cond.static Lib.Math.min.name, Cond.initialized "java/lang/Math", Cond.code Lib.Math.min.name Lib.Math.min.code 2 (some .int), Cond.instanceMethod yX3_copyFrom, Cond.selects RX3 yX3_copyFrom yX3_copyFrom, Cond.code yX3_copyFrom cX3_copyFrom 2 none, Cond.fieldLink RX3 9 "MouldShots$State" "drags" "[I", Cond.methodLink RX3 51 arraycopyName, Cond.native arraycopyName, Cond.static arraycopyName, Cond.initialized "java/lang/System", Cond.fieldLink RX3 15 "MouldShots$State" "speeds" "[I", Cond.fieldLink RX3 18 "MouldShots$State" "settings" "[I"]
def wsX5_core_r3 : List Cond := [Cond.fieldLink RX3 21 "MouldShots$State" "shut" "Z", Cond.fieldLink RX3 29 "MouldShots$State" "loaded" "Z", Cond.fieldLink RX3 32 "MouldShots$State" "hot" "Z", Cond.fieldLink RX3 35 "MouldShots$State" "made" "I", Cond.fieldLink RX3 38 "MouldShots$State" "width" "I", Cond.fieldLink RX3 44 "MouldShots$State" "taught" "LMouldShots$Band;", Cond.instanceMethod yX0_copyFrom, Cond.initialized RX0, Cond.selects RX0 yX0_copyFrom yX0_copyFrom, Cond.code yX0_copyFrom cX0_copyFrom 2 none, Cond.fieldLink RX0 9 "MouldShots$Band" "teachers" "I", Cond.fieldLink RX0 15 "MouldShots$Band" "shortest" "I", Cond.fieldLink RX0 18 "MouldShots$Band" "longest" "I", Cond.fieldLink RX0 21 "MouldShots$Band" "least" "[I", Cond.methodLink RX0 28 arraycopyName, Cond.fieldLink RX0 25 "MouldShots$Band" "greatest" "[I", Cond.methodLink RX5 126 yJ6_bitCount_0f7a4, Cond.static yJ6_bitCount_0f7a4, Cond.initialized RJ6, Cond.code yJ6_bitCount_0f7a4 cJ6_bitCount_0f7a4 1 (some .int), Cond.constant RJ6 265 (1431655765), Cond.constant RJ6 266 (858993459), Cond.constant RJ6 267 (252645135)]
def wsX5_core : List Cond := .code yX5_core cX5_core 3 (some .int) :: ((wsX5_core_r1 ++ (wsX5_core_r2 ++ wsX5_core_r3)) ++ wsX50 ++ wsX30 ++ wsX10 ++ wsX00)
def wsX5_against_r1 : List Cond := [Cond.methodLink RX5 119 yX5_isCore, Cond.instanceMethod yX5_isCore, Cond.selects RX5 yX5_isCore yX5_isCore, Cond.initialized RX5, Cond.code yX5_isCore cX5_isCore 2 (some .boolean), Cond.fieldLink RX5 19 "MouldShots" "plan" "LMouldShots$Plan;", Cond.methodLink RX5 94 yX5_isFlag, Cond.static yX5_isFlag, Cond.code yX5_isFlag cX5_isFlag 1 (some .boolean), Cond.methodLink RX5 122 yX5_barrier, Cond.instanceMethod yX5_barrier, Cond.selects RX5 yX5_barrier yX5_barrier, Cond.code yX5_barrier cX5_barrier 5 (some .int), Cond.fieldLink RX5 40 "MouldShots" "now" "LMouldShots$State;", Cond.instanceMethod yX3_isIn, Cond.initialized RX3, Cond.selects RX3 yX3_isIn yX3_isIn, Cond.code yX3_isIn cX3_isIn 2 (some .boolean), Cond.fieldLink RX3 25 "MouldShots$State" "coresIn" "I", Cond.methodLink RX5 135 yX5_outAheadOf, Cond.instanceMethod yX5_outAheadOf, Cond.selects RX5 yX5_outAheadOf yX5_outAheadOf, Cond.code yX5_outAheadOf cX5_outAheadOf 3 (some .int), Cond.methodLink RX5 138 yX5_inBehind]
def wsX5_against_r2 : List Cond := [Cond.instanceMethod yX5_inBehind, Cond.selects RX5 yX5_inBehind yX5_inBehind, Cond.code yX5_inBehind cX5_inBehind 3 (some .int)]
def wsX5_against : List Cond := .code yX5_against cX5_against 3 (some .int) :: ((wsX5_against_r1 ++ wsX5_against_r2) ++ wsX50 ++ wsX10 ++ wsX30)
def wsX5_isCavity : List Cond := .code yX5_isCavity cX5_isCavity 2 (some .boolean) :: ([.fieldLink RX5 19 "MouldShots" "plan" "LMouldShots$Plan;"] ++ wsX50 ++ wsX10)
def wsX5_drag_r1 : List Cond := [Cond.fieldLink RX5 40 "MouldShots" "now" "LMouldShots$State;", Cond.methodLink RX5 148 yX5_isCavity, Cond.instanceMethod yX5_isCavity, Cond.selects RX5 yX5_isCavity yX5_isCavity, Cond.initialized RX5, Cond.code yX5_isCavity cX5_isCavity 2 (some .boolean), Cond.fieldLink RX5 19 "MouldShots" "plan" "LMouldShots$Plan;", Cond.methodLink RX5 107 yX5_startChange, Cond.instanceMethod yX5_startChange, Cond.selects RX5 yX5_startChange yX5_startChange, Cond.code yX5_startChange cX5_startChange 1 none, Cond.fieldLink RX5 32 "MouldShots" "at" "I", Cond.fieldLink RX5 28 "MouldShots" "states" "[LMouldShots$State;", Cond.fieldLink RX5 36 "MouldShots" "undoable" "I", Cond.methodLink RX5 196 Lib.Math.min.name, Cond.static Lib.Math.min.name, Cond.initialized "java/lang/Math", Cond.code Lib.Math.min.name Lib.Math.min.code 2 (some .int), Cond.instanceMethod yX3_copyFrom, Cond.initialized RX3, Cond.selects RX3 yX3_copyFrom yX3_copyFrom, Cond.code yX3_copyFrom cX3_copyFrom 2 none, Cond.fieldLink RX3 9 "MouldShots$State" "drags" "[I", Cond.methodLink RX3 51 arraycopyName]
def wsX5_drag_r2 : List Cond := [Cond.native arraycopyName, Cond.static arraycopyName, Cond.initialized "java/lang/System", Cond.fieldLink RX3 15 "MouldShots$State" "speeds" "[I", Cond.fieldLink RX3 18 "MouldShots$State" "settings" "[I", Cond.fieldLink RX3 21 "MouldShots$State" "shut" "Z", Cond.fieldLink RX3 25 "MouldShots$State" "coresIn" "I", Cond.fieldLink RX3 29 "MouldShots$State" "loaded" "Z", Cond.fieldLink RX3 32 "MouldShots$State" "hot" "Z", Cond.fieldLink RX3 35 "MouldShots$State" "made" "I", Cond.fieldLink RX3 38 "MouldShots$State" "width" "I", Cond.fieldLink RX3 44 "MouldShots$State" "taught" "LMouldShots$Band;", Cond.instanceMethod yX0_copyFrom, Cond.initialized RX0, Cond.selects RX0 yX0_copyFrom yX0_copyFrom, Cond.code yX0_copyFrom cX0_copyFrom 2 none, Cond.fieldLink RX0 9 "MouldShots$Band" "teachers" "I", Cond.fieldLink RX0 15 "MouldShots$Band" "shortest" "I", Cond.fieldLink RX0 18 "MouldShots$Band" "longest" "I", Cond.fieldLink RX0 21 "MouldShots$Band" "least" "[I", Cond.methodLink RX0 28 arraycopyName, Cond.fieldLink RX0 25 "MouldShots$Band" "greatest" "[I"]
def wsX5_drag : List Cond := .code yX5_drag cX5_drag 4 (some .int) :: ((wsX5_drag_r1 ++ wsX5_drag_r2) ++ wsX50 ++ wsX30 ++ wsX10 ++ wsX00)
def wsX5_speed_r1 : List Cond := [Cond.fieldLink RX5 19 "MouldShots" "plan" "LMouldShots$Plan;", Cond.fieldLink RX5 40 "MouldShots" "now" "LMouldShots$State;", Cond.methodLink RX5 107 yX5_startChange, Cond.instanceMethod yX5_startChange, Cond.selects RX5 yX5_startChange yX5_startChange, Cond.initialized RX5, Cond.code yX5_startChange cX5_startChange 1 none, Cond.fieldLink RX5 32 "MouldShots" "at" "I", Cond.fieldLink RX5 28 "MouldShots" "states" "[LMouldShots$State;", Cond.fieldLink RX5 36 "MouldShots" "undoable" "I", Cond.methodLink RX5 196 Lib.Math.min.name, Cond.static Lib.Math.min.name, Cond.initialized "java/lang/Math", Cond.code Lib.Math.min.name Lib.Math.min.code 2 (some .int), Cond.instanceMethod yX3_copyFrom, Cond.initialized RX3, Cond.selects RX3 yX3_copyFrom yX3_copyFrom, Cond.code yX3_copyFrom cX3_copyFrom 2 none, Cond.fieldLink RX3 9 "MouldShots$State" "drags" "[I", Cond.methodLink RX3 51 arraycopyName, Cond.native arraycopyName, Cond.static arraycopyName, Cond.initialized "java/lang/System", Cond.fieldLink RX3 15 "MouldShots$State" "speeds" "[I"]
def wsX5_speed_r2 : List Cond := [Cond.fieldLink RX3 18 "MouldShots$State" "settings" "[I", Cond.fieldLink RX3 21 "MouldShots$State" "shut" "Z", Cond.fieldLink RX3 25 "MouldShots$State" "coresIn" "I", Cond.fieldLink RX3 29 "MouldShots$State" "loaded" "Z", Cond.fieldLink RX3 32 "MouldShots$State" "hot" "Z", Cond.fieldLink RX3 35 "MouldShots$State" "made" "I", Cond.fieldLink RX3 38 "MouldShots$State" "width" "I", Cond.fieldLink RX3 44 "MouldShots$State" "taught" "LMouldShots$Band;", Cond.instanceMethod yX0_copyFrom, Cond.initialized RX0, Cond.selects RX0 yX0_copyFrom yX0_copyFrom, Cond.code yX0_copyFrom cX0_copyFrom 2 none, Cond.fieldLink RX0 9 "MouldShots$Band" "teachers" "I", Cond.fieldLink RX0 15 "MouldShots$Band" "shortest" "I", Cond.fieldLink RX0 18 "MouldShots$Band" "longest" "I", Cond.fieldLink RX0 21 "MouldShots$Band" "least" "[I", Cond.methodLink RX0 28 arraycopyName, Cond.fieldLink RX0 25 "MouldShots$Band" "greatest" "[I"]
def wsX5_speed : List Cond := .code yX5_speed cX5_speed 4 (some .int) :: ((wsX5_speed_r1 ++ wsX5_speed_r2) ++ wsX50 ++ wsX10 ++ wsX30 ++ wsX00)
def wsX5_tell_r1 : List Cond := [Cond.fieldLink RX5 160 "MouldShots" "LEAST_SETTING" "[I", Cond.fieldLink RX5 163 "MouldShots" "MOST_SETTING" "[I", Cond.fieldLink RX5 40 "MouldShots" "now" "LMouldShots$State;", Cond.methodLink RX5 107 yX5_startChange, Cond.instanceMethod yX5_startChange, Cond.selects RX5 yX5_startChange yX5_startChange, Cond.initialized RX5, Cond.code yX5_startChange cX5_startChange 1 none, Cond.fieldLink RX5 32 "MouldShots" "at" "I", Cond.fieldLink RX5 28 "MouldShots" "states" "[LMouldShots$State;", Cond.fieldLink RX5 36 "MouldShots" "undoable" "I", Cond.methodLink RX5 196 Lib.Math.min.name, Cond.static Lib.Math.min.name, Cond.initialized "java/lang/Math", Cond.code Lib.Math.min.name Lib.Math.min.code 2 (some .int), Cond.instanceMethod yX3_copyFrom, Cond.initialized RX3, Cond.selects RX3 yX3_copyFrom yX3_copyFrom, Cond.code yX3_copyFrom cX3_copyFrom 2 none, Cond.fieldLink RX3 9 "MouldShots$State" "drags" "[I", Cond.methodLink RX3 51 arraycopyName, Cond.native arraycopyName, Cond.static arraycopyName, Cond.initialized "java/lang/System"]
def wsX5_tell_r2 : List Cond := [Cond.fieldLink RX3 15 "MouldShots$State" "speeds" "[I", Cond.fieldLink RX3 18 "MouldShots$State" "settings" "[I", Cond.fieldLink RX3 21 "MouldShots$State" "shut" "Z", Cond.fieldLink RX3 25 "MouldShots$State" "coresIn" "I", Cond.fieldLink RX3 29 "MouldShots$State" "loaded" "Z", Cond.fieldLink RX3 32 "MouldShots$State" "hot" "Z", Cond.fieldLink RX3 35 "MouldShots$State" "made" "I", Cond.fieldLink RX3 38 "MouldShots$State" "width" "I", Cond.fieldLink RX3 44 "MouldShots$State" "taught" "LMouldShots$Band;", Cond.instanceMethod yX0_copyFrom, Cond.initialized RX0, Cond.selects RX0 yX0_copyFrom yX0_copyFrom, Cond.code yX0_copyFrom cX0_copyFrom 2 none, Cond.fieldLink RX0 9 "MouldShots$Band" "teachers" "I", Cond.fieldLink RX0 15 "MouldShots$Band" "shortest" "I", Cond.fieldLink RX0 18 "MouldShots$Band" "longest" "I", Cond.fieldLink RX0 21 "MouldShots$Band" "least" "[I", Cond.methodLink RX0 28 arraycopyName, Cond.fieldLink RX0 25 "MouldShots$Band" "greatest" "[I"]
def wsX5_tell : List Cond := .code yX5_tell cX5_tell 4 (some .int) :: ((wsX5_tell_r1 ++ wsX5_tell_r2) ++ wsX50 ++ wsX30 ++ wsX00)
def wsX5_isReady : List Cond := .code yX5_isReady cX5_isReady 1 (some .boolean) :: ([.fieldLink RX5 40 "MouldShots" "now" "LMouldShots$State;", .fieldLink RX5 19 "MouldShots" "plan" "LMouldShots$Plan;", .methodLink RX5 126 yJ6_bitCount_0f7a4, .static yJ6_bitCount_0f7a4, .initialized RJ6, .code yJ6_bitCount_0f7a4 cJ6_bitCount_0f7a4 1 (some .int), .constant RJ6 265 (1431655765), .constant RJ6 266 (858993459), .constant RJ6 267 (252645135)] ++ wsX50 ++ wsX30 ++ wsX10)
def wsX5_shoot_r1 : List Cond := [Cond.fieldLink RX5 40 "MouldShots" "now" "LMouldShots$State;", Cond.fieldLink RX5 46 "MouldShots" "shots" "[LMouldShots$Shot;", Cond.fieldLink RX5 19 "MouldShots" "plan" "LMouldShots$Plan;", Cond.methodLink RX5 169 yX5_isReady, Cond.instanceMethod yX5_isReady, Cond.selects RX5 yX5_isReady yX5_isReady, Cond.initialized RX5, Cond.code yX5_isReady cX5_isReady 1 (some .boolean), Cond.methodLink RX5 126 yJ6_bitCount_0f7a4, Cond.static yJ6_bitCount_0f7a4, Cond.initialized RJ6, Cond.code yJ6_bitCount_0f7a4 cJ6_bitCount_0f7a4 1 (some .int), Cond.constant RJ6 265 (1431655765), Cond.constant RJ6 266 (858993459), Cond.constant RJ6 267 (252645135), Cond.methodLink RX5 107 yX5_startChange, Cond.instanceMethod yX5_startChange, Cond.selects RX5 yX5_startChange yX5_startChange, Cond.code yX5_startChange cX5_startChange 1 none, Cond.fieldLink RX5 32 "MouldShots" "at" "I", Cond.fieldLink RX5 28 "MouldShots" "states" "[LMouldShots$State;", Cond.fieldLink RX5 36 "MouldShots" "undoable" "I", Cond.methodLink RX5 196 Lib.Math.min.name, Cond.static Lib.Math.min.name]
def wsX5_shoot_r2 : List Cond := [Cond.initialized "java/lang/Math", Cond.code Lib.Math.min.name Lib.Math.min.code 2 (some .int), Cond.instanceMethod yX3_copyFrom, Cond.initialized RX3, Cond.selects RX3 yX3_copyFrom yX3_copyFrom, Cond.code yX3_copyFrom cX3_copyFrom 2 none, Cond.fieldLink RX3 9 "MouldShots$State" "drags" "[I", Cond.methodLink RX3 51 arraycopyName, Cond.native arraycopyName, Cond.static arraycopyName, Cond.initialized "java/lang/System", Cond.fieldLink RX3 15 "MouldShots$State" "speeds" "[I", Cond.fieldLink RX3 18 "MouldShots$State" "settings" "[I", Cond.fieldLink RX3 21 "MouldShots$State" "shut" "Z", Cond.fieldLink RX3 25 "MouldShots$State" "coresIn" "I", Cond.fieldLink RX3 29 "MouldShots$State" "loaded" "Z", Cond.fieldLink RX3 32 "MouldShots$State" "hot" "Z", Cond.fieldLink RX3 35 "MouldShots$State" "made" "I", Cond.fieldLink RX3 38 "MouldShots$State" "width" "I", Cond.fieldLink RX3 44 "MouldShots$State" "taught" "LMouldShots$Band;", Cond.instanceMethod yX0_copyFrom, Cond.initialized RX0, Cond.selects RX0 yX0_copyFrom yX0_copyFrom, Cond.code yX0_copyFrom cX0_copyFrom 2 none]
def wsX5_shoot_r3 : List Cond := [Cond.fieldLink RX0 9 "MouldShots$Band" "teachers" "I", Cond.fieldLink RX0 15 "MouldShots$Band" "shortest" "I", Cond.fieldLink RX0 18 "MouldShots$Band" "longest" "I", Cond.fieldLink RX0 21 "MouldShots$Band" "least" "[I", Cond.methodLink RX0 28 arraycopyName, Cond.fieldLink RX0 25 "MouldShots$Band" "greatest" "[I", Cond.instanceMethod yX2_make, Cond.initialized RX2, Cond.selects RX2 yX2_make yX2_make, Cond.code yX2_make cX2_make 4 none, Cond.fieldLink RX2 34 "MouldShots$Shot" "coolTicks" "I", Cond.methodLink RX2 40 yX2_clear, Cond.instanceMethod yX2_clear, Cond.selects RX2 yX2_clear yX2_clear, Cond.code yX2_clear cX2_clear 2 none, Cond.fieldLink RX2 9 "MouldShots$Shot" "has" "[I", Cond.fieldLink RX2 15 "MouldShots$Shot" "firstAt" "[I", Cond.fieldLink RX2 18 "MouldShots$Shot" "fullAt" "[I", Cond.fieldLink RX2 21 "MouldShots$Shot" "pressures" "[I", Cond.fieldLink RX2 24 "MouldShots$Shot" "place" "I", Cond.fieldLink RX2 31 "MouldShots$Shot" "ticks" "I", Cond.fieldLink RX2 37 "MouldShots$Shot" "why" "I", Cond.methodLink RX2 43 yX2_fill, Cond.instanceMethod yX2_fill]
def wsX5_shoot_r4 : List Cond := [Cond.selects RX2 yX2_fill yX2_fill, Cond.code yX2_fill cX2_fill 8 none, Cond.methodLink RX2 60 Lib.Math.min.name, Cond.methodLink RX2 70 Lib.Math.max.name, Cond.static Lib.Math.max.name, Cond.code Lib.Math.max.name Lib.Math.max.code 2 (some .int), Cond.fieldLink RX2 28 "MouldShots$Shot" "fillTicks" "I", Cond.methodLink RX2 56 yX2_speedHere, Cond.instanceMethod yX2_speedHere, Cond.selects RX2 yX2_speedHere yX2_speedHere, Cond.code yX2_speedHere cX2_speedHere 6 (some .int), Cond.methodLink RX2 66 yX2_push, Cond.instanceMethod yX2_push, Cond.selects RX2 yX2_push yX2_push, Cond.code yX2_push cX2_push 5 (some .int), Cond.methodLink RX2 88 yX2_easiest, Cond.instanceMethod yX2_easiest, Cond.selects RX2 yX2_easiest yX2_easiest, Cond.code yX2_easiest cX2_easiest 8 (some .int), Cond.methodLink RX2 95 yX2_addMelt, Cond.instanceMethod yX2_addMelt, Cond.selects RX2 yX2_addMelt yX2_addMelt, Cond.code yX2_addMelt cX2_addMelt 3 none, Cond.methodLink RX2 73 yX2_whySwitch]
def wsX5_shoot_r5 : List Cond := [Cond.instanceMethod yX2_whySwitch, Cond.selects RX2 yX2_whySwitch yX2_whySwitch, Cond.code yX2_whySwitch cX2_whySwitch 2 (some .int), Cond.methodLink RX2 47 yX2_hold, Cond.instanceMethod yX2_hold, Cond.selects RX2 yX2_hold yX2_hold, Cond.code yX2_hold cX2_hold 8 none, Cond.methodLink RX2 105 yX2_isFrozen, Cond.instanceMethod yX2_isFrozen, Cond.selects RX2 yX2_isFrozen yX2_isFrozen, Cond.code yX2_isFrozen cX2_isFrozen 3 (some .boolean), Cond.instanceMethod yX2_whole, Cond.selects RX2 yX2_whole yX2_whole, Cond.code yX2_whole cX2_whole 1 (some .int)]
def wsX5_shoot : List Cond := .code yX5_shoot cX5_shoot 2 (some .int) :: ((wsX5_shoot_r1 ++ (wsX5_shoot_r2 ++ (wsX5_shoot_r3 ++ (wsX5_shoot_r4 ++ wsX5_shoot_r5)))) ++ wsX50 ++ wsX30 ++ wsX10 ++ wsX00 ++ wsX20)
def wsX5_keptShots : List Cond := .code yX5_keptShots cX5_keptShots 1 (some .int) :: ([.fieldLink RX5 40 "MouldShots" "now" "LMouldShots$State;", .methodLink RX5 196 Lib.Math.min.name, .static Lib.Math.min.name, .initialized "java/lang/Math", .code Lib.Math.min.name Lib.Math.min.code 2 (some .int)] ++ wsX50 ++ wsX30)
def wsJ9_floorMod_7cf53 : List Cond := .code yJ9_floorMod_7cf53 cJ9_floorMod_7cf53 3 (some .int) :: ([])
def wsX5_keptShot : List Cond := .code yX5_keptShot cX5_keptShot 2 (some (.object "MouldShots$Shot")) :: ([.fieldLink RX5 46 "MouldShots" "shots" "[LMouldShots$Shot;", .fieldLink RX5 40 "MouldShots" "now" "LMouldShots$State;", .methodLink RX5 182 yX5_keptShots, .instanceMethod yX5_keptShots, .selects RX5 yX5_keptShots yX5_keptShots, .initialized RX5, .code yX5_keptShots cX5_keptShots 1 (some .int), .methodLink RX5 196 Lib.Math.min.name, .static Lib.Math.min.name, .initialized "java/lang/Math", .code Lib.Math.min.name Lib.Math.min.code 2 (some .int), .methodLink RX5 291 yJ9_floorMod_7cf53, .static yJ9_floorMod_7cf53, .initialized RJ9, .code yJ9_floorMod_7cf53 cJ9_floorMod_7cf53 3 (some .int)] ++ wsX50 ++ wsX30)
def wsX5_waitCool_r1 : List Cond := [Cond.fieldLink RX5 40 "MouldShots" "now" "LMouldShots$State;", Cond.methodLink RX5 107 yX5_startChange, Cond.instanceMethod yX5_startChange, Cond.selects RX5 yX5_startChange yX5_startChange, Cond.initialized RX5, Cond.code yX5_startChange cX5_startChange 1 none, Cond.fieldLink RX5 32 "MouldShots" "at" "I", Cond.fieldLink RX5 28 "MouldShots" "states" "[LMouldShots$State;", Cond.fieldLink RX5 36 "MouldShots" "undoable" "I", Cond.methodLink RX5 196 Lib.Math.min.name, Cond.static Lib.Math.min.name, Cond.initialized "java/lang/Math", Cond.code Lib.Math.min.name Lib.Math.min.code 2 (some .int), Cond.instanceMethod yX3_copyFrom, Cond.initialized RX3, Cond.selects RX3 yX3_copyFrom yX3_copyFrom, Cond.code yX3_copyFrom cX3_copyFrom 2 none, Cond.fieldLink RX3 9 "MouldShots$State" "drags" "[I", Cond.methodLink RX3 51 arraycopyName, Cond.native arraycopyName, Cond.static arraycopyName, Cond.initialized "java/lang/System", Cond.fieldLink RX3 15 "MouldShots$State" "speeds" "[I", Cond.fieldLink RX3 18 "MouldShots$State" "settings" "[I"]
def wsX5_waitCool_r2 : List Cond := [Cond.fieldLink RX3 21 "MouldShots$State" "shut" "Z", Cond.fieldLink RX3 25 "MouldShots$State" "coresIn" "I", Cond.fieldLink RX3 29 "MouldShots$State" "loaded" "Z", Cond.fieldLink RX3 32 "MouldShots$State" "hot" "Z", Cond.fieldLink RX3 35 "MouldShots$State" "made" "I", Cond.fieldLink RX3 38 "MouldShots$State" "width" "I", Cond.fieldLink RX3 44 "MouldShots$State" "taught" "LMouldShots$Band;", Cond.instanceMethod yX0_copyFrom, Cond.initialized RX0, Cond.selects RX0 yX0_copyFrom yX0_copyFrom, Cond.code yX0_copyFrom cX0_copyFrom 2 none, Cond.fieldLink RX0 9 "MouldShots$Band" "teachers" "I", Cond.fieldLink RX0 15 "MouldShots$Band" "shortest" "I", Cond.fieldLink RX0 18 "MouldShots$Band" "longest" "I", Cond.fieldLink RX0 21 "MouldShots$Band" "least" "[I", Cond.methodLink RX0 28 arraycopyName, Cond.fieldLink RX0 25 "MouldShots$Band" "greatest" "[I", Cond.methodLink RX5 182 yX5_keptShots, Cond.instanceMethod yX5_keptShots, Cond.selects RX5 yX5_keptShots yX5_keptShots, Cond.code yX5_keptShots cX5_keptShots 1 (some .int), Cond.methodLink RX5 185 yX5_keptShot, Cond.instanceMethod yX5_keptShot, Cond.selects RX5 yX5_keptShot yX5_keptShot]
def wsX5_waitCool_r3 : List Cond := [Cond.code yX5_keptShot cX5_keptShot 2 (some (.object "MouldShots$Shot")), Cond.fieldLink RX5 46 "MouldShots" "shots" "[LMouldShots$Shot;", Cond.methodLink RX5 291 yJ9_floorMod_7cf53, Cond.static yJ9_floorMod_7cf53, Cond.initialized RJ9, Cond.code yJ9_floorMod_7cf53 cJ9_floorMod_7cf53 3 (some .int)]
def wsX5_waitCool : List Cond := .code yX5_waitCool cX5_waitCool 1 (some .int) :: ((wsX5_waitCool_r1 ++ (wsX5_waitCool_r2 ++ wsX5_waitCool_r3)) ++ wsX50 ++ wsX30 ++ wsX20 ++ wsX00)
def wsX5_undo : List Cond := .code yX5_undo cX5_undo 1 (some .int) :: ([.fieldLink RX5 36 "MouldShots" "undoable" "I", .fieldLink RX5 32 "MouldShots" "at" "I", .fieldLink RX5 28 "MouldShots" "states" "[LMouldShots$State;", .fieldLink RX5 40 "MouldShots" "now" "LMouldShots$State;"] ++ wsX50)
def wsX5_isShot : List Cond := .code yX5_isShot cX5_isShot 2 (some .boolean) :: ([.methodLink RX5 182 yX5_keptShots, .instanceMethod yX5_keptShots, .selects RX5 yX5_keptShots yX5_keptShots, .initialized RX5, .code yX5_keptShots cX5_keptShots 1 (some .int), .fieldLink RX5 40 "MouldShots" "now" "LMouldShots$State;", .methodLink RX5 196 Lib.Math.min.name, .static Lib.Math.min.name, .initialized "java/lang/Math", .code Lib.Math.min.name Lib.Math.min.code 2 (some .int)] ++ wsX50 ++ wsX30)
def wsX5_teach_r1 : List Cond := [Cond.fieldLink RX5 19 "MouldShots" "plan" "LMouldShots$Plan;", Cond.fieldLink RX5 40 "MouldShots" "now" "LMouldShots$State;", Cond.methodLink RX5 201 yX5_isShot, Cond.instanceMethod yX5_isShot, Cond.selects RX5 yX5_isShot yX5_isShot, Cond.initialized RX5, Cond.code yX5_isShot cX5_isShot 2 (some .boolean), Cond.methodLink RX5 182 yX5_keptShots, Cond.instanceMethod yX5_keptShots, Cond.selects RX5 yX5_keptShots yX5_keptShots, Cond.code yX5_keptShots cX5_keptShots 1 (some .int), Cond.methodLink RX5 196 Lib.Math.min.name, Cond.static Lib.Math.min.name, Cond.initialized "java/lang/Math", Cond.code Lib.Math.min.name Lib.Math.min.code 2 (some .int), Cond.methodLink RX5 185 yX5_keptShot, Cond.instanceMethod yX5_keptShot, Cond.selects RX5 yX5_keptShot yX5_keptShot, Cond.code yX5_keptShot cX5_keptShot 2 (some (.object "MouldShots$Shot")), Cond.fieldLink RX5 46 "MouldShots" "shots" "[LMouldShots$Shot;", Cond.methodLink RX5 291 yJ9_floorMod_7cf53, Cond.static yJ9_floorMod_7cf53, Cond.initialized RJ9, Cond.code yJ9_floorMod_7cf53 cJ9_floorMod_7cf53 3 (some .int)]
def wsX5_teach_r2 : List Cond := [Cond.instanceMethod yX2_isShort, Cond.initialized RX2, Cond.selects RX2 yX2_isShort yX2_isShort, Cond.code yX2_isShort cX2_isShort 3 (some .boolean), Cond.fieldLink RX2 9 "MouldShots$Shot" "has" "[I", Cond.methodLink RX5 107 yX5_startChange, Cond.instanceMethod yX5_startChange, Cond.selects RX5 yX5_startChange yX5_startChange, Cond.code yX5_startChange cX5_startChange 1 none, Cond.fieldLink RX5 32 "MouldShots" "at" "I", Cond.fieldLink RX5 28 "MouldShots" "states" "[LMouldShots$State;", Cond.fieldLink RX5 36 "MouldShots" "undoable" "I", Cond.instanceMethod yX3_copyFrom, Cond.initialized RX3, Cond.selects RX3 yX3_copyFrom yX3_copyFrom, Cond.code yX3_copyFrom cX3_copyFrom 2 none, Cond.fieldLink RX3 9 "MouldShots$State" "drags" "[I", Cond.methodLink RX3 51 arraycopyName, Cond.native arraycopyName, Cond.static arraycopyName, Cond.initialized "java/lang/System", Cond.fieldLink RX3 15 "MouldShots$State" "speeds" "[I", Cond.fieldLink RX3 18 "MouldShots$State" "settings" "[I", Cond.fieldLink RX3 21 "MouldShots$State" "shut" "Z"]
def wsX5_teach_r3 : List Cond := [Cond.fieldLink RX3 25 "MouldShots$State" "coresIn" "I", Cond.fieldLink RX3 29 "MouldShots$State" "loaded" "Z", Cond.fieldLink RX3 32 "MouldShots$State" "hot" "Z", Cond.fieldLink RX3 35 "MouldShots$State" "made" "I", Cond.fieldLink RX3 38 "MouldShots$State" "width" "I", Cond.fieldLink RX3 44 "MouldShots$State" "taught" "LMouldShots$Band;", Cond.instanceMethod yX0_copyFrom, Cond.initialized RX0, Cond.selects RX0 yX0_copyFrom yX0_copyFrom, Cond.code yX0_copyFrom cX0_copyFrom 2 none, Cond.fieldLink RX0 9 "MouldShots$Band" "teachers" "I", Cond.fieldLink RX0 15 "MouldShots$Band" "shortest" "I", Cond.fieldLink RX0 18 "MouldShots$Band" "longest" "I", Cond.fieldLink RX0 21 "MouldShots$Band" "least" "[I", Cond.methodLink RX0 28 arraycopyName, Cond.fieldLink RX0 25 "MouldShots$Band" "greatest" "[I", Cond.instanceMethod yX0_learn, Cond.selects RX0 yX0_learn yX0_learn, Cond.code yX0_learn cX0_learn 5 none, Cond.methodLink RX0 39 Lib.Math.min.name, Cond.methodLink RX0 45 Lib.Math.max.name, Cond.static Lib.Math.max.name, Cond.code Lib.Math.max.name Lib.Math.max.code 2 (some .int)]
def wsX5_teach : List Cond := .code yX5_teach cX5_teach 3 (some .int) :: ((wsX5_teach_r1 ++ (wsX5_teach_r2 ++ wsX5_teach_r3)) ++ wsX50 ++ wsX30 ++ wsX00 ++ wsX10 ++ wsX20)
def wsX5_forget_r1 : List Cond := [Cond.fieldLink RX5 40 "MouldShots" "now" "LMouldShots$State;", Cond.methodLink RX5 107 yX5_startChange, Cond.instanceMethod yX5_startChange, Cond.selects RX5 yX5_startChange yX5_startChange, Cond.initialized RX5, Cond.code yX5_startChange cX5_startChange 1 none, Cond.fieldLink RX5 32 "MouldShots" "at" "I", Cond.fieldLink RX5 28 "MouldShots" "states" "[LMouldShots$State;", Cond.fieldLink RX5 36 "MouldShots" "undoable" "I", Cond.methodLink RX5 196 Lib.Math.min.name, Cond.static Lib.Math.min.name, Cond.initialized "java/lang/Math", Cond.code Lib.Math.min.name Lib.Math.min.code 2 (some .int), Cond.instanceMethod yX3_copyFrom, Cond.initialized RX3, Cond.selects RX3 yX3_copyFrom yX3_copyFrom, Cond.code yX3_copyFrom cX3_copyFrom 2 none, Cond.fieldLink RX3 9 "MouldShots$State" "drags" "[I", Cond.methodLink RX3 51 arraycopyName, Cond.native arraycopyName, Cond.static arraycopyName, Cond.initialized "java/lang/System", Cond.fieldLink RX3 15 "MouldShots$State" "speeds" "[I", Cond.fieldLink RX3 18 "MouldShots$State" "settings" "[I"]
def wsX5_forget_r2 : List Cond := [Cond.fieldLink RX3 21 "MouldShots$State" "shut" "Z", Cond.fieldLink RX3 25 "MouldShots$State" "coresIn" "I", Cond.fieldLink RX3 29 "MouldShots$State" "loaded" "Z", Cond.fieldLink RX3 32 "MouldShots$State" "hot" "Z", Cond.fieldLink RX3 35 "MouldShots$State" "made" "I", Cond.fieldLink RX3 38 "MouldShots$State" "width" "I", Cond.fieldLink RX3 44 "MouldShots$State" "taught" "LMouldShots$Band;", Cond.instanceMethod yX0_copyFrom, Cond.initialized RX0, Cond.selects RX0 yX0_copyFrom yX0_copyFrom, Cond.code yX0_copyFrom cX0_copyFrom 2 none, Cond.fieldLink RX0 9 "MouldShots$Band" "teachers" "I", Cond.fieldLink RX0 15 "MouldShots$Band" "shortest" "I", Cond.fieldLink RX0 18 "MouldShots$Band" "longest" "I", Cond.fieldLink RX0 21 "MouldShots$Band" "least" "[I", Cond.methodLink RX0 28 arraycopyName, Cond.fieldLink RX0 25 "MouldShots$Band" "greatest" "[I", Cond.instanceMethod yX0_clear, Cond.selects RX0 yX0_clear yX0_clear, Cond.code yX0_clear cX0_clear 1 none]
def wsX5_forget : List Cond := .code yX5_forget cX5_forget 2 (some .int) :: ((wsX5_forget_r1 ++ wsX5_forget_r2) ++ wsX50 ++ wsX30 ++ wsX00)
def wsX5_wide_r1 : List Cond := [Cond.fieldLink RX5 40 "MouldShots" "now" "LMouldShots$State;", Cond.methodLink RX5 107 yX5_startChange, Cond.instanceMethod yX5_startChange, Cond.selects RX5 yX5_startChange yX5_startChange, Cond.initialized RX5, Cond.code yX5_startChange cX5_startChange 1 none, Cond.fieldLink RX5 32 "MouldShots" "at" "I", Cond.fieldLink RX5 28 "MouldShots" "states" "[LMouldShots$State;", Cond.fieldLink RX5 36 "MouldShots" "undoable" "I", Cond.methodLink RX5 196 Lib.Math.min.name, Cond.static Lib.Math.min.name, Cond.initialized "java/lang/Math", Cond.code Lib.Math.min.name Lib.Math.min.code 2 (some .int), Cond.instanceMethod yX3_copyFrom, Cond.initialized RX3, Cond.selects RX3 yX3_copyFrom yX3_copyFrom, Cond.code yX3_copyFrom cX3_copyFrom 2 none, Cond.fieldLink RX3 9 "MouldShots$State" "drags" "[I", Cond.methodLink RX3 51 arraycopyName, Cond.native arraycopyName, Cond.static arraycopyName, Cond.initialized "java/lang/System", Cond.fieldLink RX3 15 "MouldShots$State" "speeds" "[I", Cond.fieldLink RX3 18 "MouldShots$State" "settings" "[I"]
def wsX5_wide_r2 : List Cond := [Cond.fieldLink RX3 21 "MouldShots$State" "shut" "Z", Cond.fieldLink RX3 25 "MouldShots$State" "coresIn" "I", Cond.fieldLink RX3 29 "MouldShots$State" "loaded" "Z", Cond.fieldLink RX3 32 "MouldShots$State" "hot" "Z", Cond.fieldLink RX3 35 "MouldShots$State" "made" "I", Cond.fieldLink RX3 38 "MouldShots$State" "width" "I", Cond.fieldLink RX3 44 "MouldShots$State" "taught" "LMouldShots$Band;", Cond.instanceMethod yX0_copyFrom, Cond.initialized RX0, Cond.selects RX0 yX0_copyFrom yX0_copyFrom, Cond.code yX0_copyFrom cX0_copyFrom 2 none, Cond.fieldLink RX0 9 "MouldShots$Band" "teachers" "I", Cond.fieldLink RX0 15 "MouldShots$Band" "shortest" "I", Cond.fieldLink RX0 18 "MouldShots$Band" "longest" "I", Cond.fieldLink RX0 21 "MouldShots$Band" "least" "[I", Cond.methodLink RX0 28 arraycopyName, Cond.fieldLink RX0 25 "MouldShots$Band" "greatest" "[I"]
def wsX5_wide : List Cond := .code yX5_wide cX5_wide 3 (some .int) :: ((wsX5_wide_r1 ++ wsX5_wide_r2) ++ wsX50 ++ wsX30 ++ wsX00)
def wsX5_isTick : List Cond := .code yX5_isTick cX5_isTick 1 (some .boolean) :: ([])
def wsX5_band : List Cond := .code yX5_band cX5_band 3 (some .int) :: ([.fieldLink RX5 40 "MouldShots" "now" "LMouldShots$State;", .methodLink RX5 225 yX5_isTick, .static yX5_isTick, .initialized RX5, .code yX5_isTick cX5_isTick 1 (some .boolean), .methodLink RX5 94 yX5_isFlag, .static yX5_isFlag, .code yX5_isFlag cX5_isFlag 1 (some .boolean)] ++ wsX50 ++ wsX30 ++ wsX00)
def wsX5_isBad : List Cond := .code yX5_isBad cX5_isBad 2 (some .boolean) :: ([.fieldLink RX5 19 "MouldShots" "plan" "LMouldShots$Plan;", .fieldLink RX5 40 "MouldShots" "now" "LMouldShots$State;", .instanceMethod yX2_isFarOff, .initialized RX2, .selects RX2 yX2_isFarOff yX2_isFarOff, .code yX2_isFarOff cX2_isFarOff 3 (some .boolean), .fieldLink RX2 9 "MouldShots$Shot" "has" "[I", .methodLink RX2 122 Lib.Math.abs.name, .static Lib.Math.abs.name, .initialized "java/lang/Math", .code Lib.Math.abs.name Lib.Math.abs.code 1 (some .int), .instanceMethod yX0_rejects, .initialized RX0, .selects RX0 yX0_rejects yX0_rejects, .code yX0_rejects cX0_rejects 3 (some .boolean), .fieldLink RX0 9 "MouldShots$Band" "teachers" "I", .fieldLink RX0 15 "MouldShots$Band" "shortest" "I", .fieldLink RX0 18 "MouldShots$Band" "longest" "I", .methodLink RX0 51 yX0_amissIn, .instanceMethod yX0_amissIn, .selects RX0 yX0_amissIn yX0_amissIn, .code yX0_amissIn cX0_amissIn 6 (some .int), .fieldLink RX0 21 "MouldShots$Band" "least" "[I", .fieldLink RX0 25 "MouldShots$Band" "greatest" "[I"] ++ wsX50 ++ wsX30 ++ wsX10 ++ wsX20 ++ wsX00)
def wsX5_shot_r1 : List Cond := [Cond.fieldLink RX5 40 "MouldShots" "now" "LMouldShots$State;", Cond.methodLink RX5 201 yX5_isShot, Cond.instanceMethod yX5_isShot, Cond.selects RX5 yX5_isShot yX5_isShot, Cond.initialized RX5, Cond.code yX5_isShot cX5_isShot 2 (some .boolean), Cond.methodLink RX5 182 yX5_keptShots, Cond.instanceMethod yX5_keptShots, Cond.selects RX5 yX5_keptShots yX5_keptShots, Cond.code yX5_keptShots cX5_keptShots 1 (some .int), Cond.methodLink RX5 196 Lib.Math.min.name, Cond.static Lib.Math.min.name, Cond.initialized "java/lang/Math", Cond.code Lib.Math.min.name Lib.Math.min.code 2 (some .int), Cond.methodLink RX5 185 yX5_keptShot, Cond.instanceMethod yX5_keptShot, Cond.selects RX5 yX5_keptShot yX5_keptShot, Cond.code yX5_keptShot cX5_keptShot 2 (some (.object "MouldShots$Shot")), Cond.fieldLink RX5 46 "MouldShots" "shots" "[LMouldShots$Shot;", Cond.methodLink RX5 291 yJ9_floorMod_7cf53, Cond.static yJ9_floorMod_7cf53, Cond.initialized RJ9, Cond.code yJ9_floorMod_7cf53 cJ9_floorMod_7cf53 3 (some .int), Cond.instanceMethod yX0_amissIn]
def wsX5_shot_r2 : List Cond := [Cond.initialized RX0, Cond.selects RX0 yX0_amissIn yX0_amissIn, Cond.code yX0_amissIn cX0_amissIn 6 (some .int), Cond.fieldLink RX0 21 "MouldShots$Band" "least" "[I", Cond.fieldLink RX0 25 "MouldShots$Band" "greatest" "[I", Cond.methodLink RX5 241 yX5_isBad, Cond.instanceMethod yX5_isBad, Cond.selects RX5 yX5_isBad yX5_isBad, Cond.code yX5_isBad cX5_isBad 2 (some .boolean), Cond.fieldLink RX5 19 "MouldShots" "plan" "LMouldShots$Plan;", Cond.instanceMethod yX2_isFarOff, Cond.initialized RX2, Cond.selects RX2 yX2_isFarOff yX2_isFarOff, Cond.code yX2_isFarOff cX2_isFarOff 3 (some .boolean), Cond.fieldLink RX2 9 "MouldShots$Shot" "has" "[I", Cond.methodLink RX2 122 Lib.Math.abs.name, Cond.static Lib.Math.abs.name, Cond.code Lib.Math.abs.name Lib.Math.abs.code 1 (some .int), Cond.instanceMethod yX0_rejects, Cond.selects RX0 yX0_rejects yX0_rejects, Cond.code yX0_rejects cX0_rejects 3 (some .boolean), Cond.fieldLink RX0 9 "MouldShots$Band" "teachers" "I", Cond.fieldLink RX0 15 "MouldShots$Band" "shortest" "I", Cond.fieldLink RX0 18 "MouldShots$Band" "longest" "I"]
def wsX5_shot_r3 : List Cond := [Cond.methodLink RX0 51 yX0_amissIn, Cond.instanceMethod yX2_told, Cond.selects RX2 yX2_told yX2_told, Cond.code yX2_told cX2_told 2 (some .int), Cond.fieldLink RX2 28 "MouldShots$Shot" "fillTicks" "I", Cond.fieldLink RX2 31 "MouldShots$Shot" "ticks" "I", Cond.fieldLink RX2 37 "MouldShots$Shot" "why" "I", Cond.fieldLink RX2 24 "MouldShots$Shot" "place" "I", Cond.methodLink RX2 112 yX2_balance, Cond.instanceMethod yX2_balance, Cond.selects RX2 yX2_balance yX2_balance, Cond.code yX2_balance cX2_balance 4 (some .int), Cond.fieldLink RX2 18 "MouldShots$Shot" "fullAt" "[I", Cond.methodLink RX2 60 Lib.Math.min.name, Cond.methodLink RX2 70 Lib.Math.max.name, Cond.static Lib.Math.max.name, Cond.code Lib.Math.max.name Lib.Math.max.code 2 (some .int), Cond.methodLink RX2 116 yX2_whole, Cond.instanceMethod yX2_whole, Cond.selects RX2 yX2_whole yX2_whole, Cond.code yX2_whole cX2_whole 1 (some .int), Cond.fieldLink RX2 34 "MouldShots$Shot" "coolTicks" "I", Cond.methodLink RX2 119 yX2_greatestPressure, Cond.instanceMethod yX2_greatestPressure]
def wsX5_shot_r4 : List Cond := [Cond.selects RX2 yX2_greatestPressure yX2_greatestPressure, Cond.code yX2_greatestPressure cX2_greatestPressure 3 (some .int), Cond.fieldLink RX2 21 "MouldShots$Shot" "pressures" "[I"]
def wsX5_shot : List Cond := .code yX5_shot cX5_shot 4 (some .int) :: ((wsX5_shot_r1 ++ (wsX5_shot_r2 ++ (wsX5_shot_r3 ++ wsX5_shot_r4))) ++ wsX50 ++ wsX30 ++ wsX00 ++ wsX20 ++ wsX10)
def wsX5_curve_r1 : List Cond := [Cond.methodLink RX5 201 yX5_isShot, Cond.instanceMethod yX5_isShot, Cond.selects RX5 yX5_isShot yX5_isShot, Cond.initialized RX5, Cond.code yX5_isShot cX5_isShot 2 (some .boolean), Cond.methodLink RX5 182 yX5_keptShots, Cond.instanceMethod yX5_keptShots, Cond.selects RX5 yX5_keptShots yX5_keptShots, Cond.code yX5_keptShots cX5_keptShots 1 (some .int), Cond.fieldLink RX5 40 "MouldShots" "now" "LMouldShots$State;", Cond.methodLink RX5 196 Lib.Math.min.name, Cond.static Lib.Math.min.name, Cond.initialized "java/lang/Math", Cond.code Lib.Math.min.name Lib.Math.min.code 2 (some .int), Cond.methodLink RX5 225 yX5_isTick, Cond.static yX5_isTick, Cond.code yX5_isTick cX5_isTick 1 (some .boolean), Cond.methodLink RX5 185 yX5_keptShot, Cond.instanceMethod yX5_keptShot, Cond.selects RX5 yX5_keptShot yX5_keptShot, Cond.code yX5_keptShot cX5_keptShot 2 (some (.object "MouldShots$Shot")), Cond.fieldLink RX5 46 "MouldShots" "shots" "[LMouldShots$Shot;", Cond.methodLink RX5 291 yJ9_floorMod_7cf53, Cond.static yJ9_floorMod_7cf53]
def wsX5_curve_r2 : List Cond := [Cond.initialized RJ9, Cond.code yJ9_floorMod_7cf53 cJ9_floorMod_7cf53 3 (some .int)]
def wsX5_curve : List Cond := .code yX5_curve cX5_curve 4 (some .int) :: ((wsX5_curve_r1 ++ wsX5_curve_r2) ++ wsX20 ++ wsX50 ++ wsX30)
def wsX5_cavity : List Cond := .code yX5_cavity cX5_cavity 3 (some .int) :: ([.fieldLink RX5 19 "MouldShots" "plan" "LMouldShots$Plan;", .fieldLink RX5 40 "MouldShots" "now" "LMouldShots$State;", .methodLink RX5 148 yX5_isCavity, .instanceMethod yX5_isCavity, .selects RX5 yX5_isCavity yX5_isCavity, .initialized RX5, .code yX5_isCavity cX5_isCavity 2 (some .boolean)] ++ wsX50 ++ wsX10 ++ wsX30)
def wsX5_filled_r1 : List Cond := [Cond.fieldLink RX5 19 "MouldShots" "plan" "LMouldShots$Plan;", Cond.methodLink RX5 270 Lib.Math.max.name, Cond.static Lib.Math.max.name, Cond.initialized "java/lang/Math", Cond.code Lib.Math.max.name Lib.Math.max.code 2 (some .int), Cond.methodLink RX5 201 yX5_isShot, Cond.instanceMethod yX5_isShot, Cond.selects RX5 yX5_isShot yX5_isShot, Cond.initialized RX5, Cond.code yX5_isShot cX5_isShot 2 (some .boolean), Cond.methodLink RX5 182 yX5_keptShots, Cond.instanceMethod yX5_keptShots, Cond.selects RX5 yX5_keptShots yX5_keptShots, Cond.code yX5_keptShots cX5_keptShots 1 (some .int), Cond.fieldLink RX5 40 "MouldShots" "now" "LMouldShots$State;", Cond.methodLink RX5 196 Lib.Math.min.name, Cond.static Lib.Math.min.name, Cond.code Lib.Math.min.name Lib.Math.min.code 2 (some .int), Cond.methodLink RX5 148 yX5_isCavity, Cond.instanceMethod yX5_isCavity, Cond.selects RX5 yX5_isCavity yX5_isCavity, Cond.code yX5_isCavity cX5_isCavity 2 (some .boolean), Cond.methodLink RX5 185 yX5_keptShot, Cond.instanceMethod yX5_keptShot]
def wsX5_filled_r2 : List Cond := [Cond.selects RX5 yX5_keptShot yX5_keptShot, Cond.code yX5_keptShot cX5_keptShot 2 (some (.object "MouldShots$Shot")), Cond.fieldLink RX5 46 "MouldShots" "shots" "[LMouldShots$Shot;", Cond.methodLink RX5 291 yJ9_floorMod_7cf53, Cond.static yJ9_floorMod_7cf53, Cond.initialized RJ9, Cond.code yJ9_floorMod_7cf53 cJ9_floorMod_7cf53 3 (some .int)]
def wsX5_filled : List Cond := .code yX5_filled cX5_filled 7 (some .int) :: ((wsX5_filled_r1 ++ wsX5_filled_r2) ++ wsX20 ++ wsX50 ++ wsX10 ++ wsX30)
def wsX5_tried_r1 : List Cond := [Cond.fieldLink RX5 51 "MouldShots" "trial" "LMouldShots$Shot;", Cond.fieldLink RX5 19 "MouldShots" "plan" "LMouldShots$Plan;", Cond.fieldLink RX5 40 "MouldShots" "now" "LMouldShots$State;", Cond.instanceMethod yX2_make, Cond.initialized RX2, Cond.selects RX2 yX2_make yX2_make, Cond.code yX2_make cX2_make 4 none, Cond.fieldLink RX2 34 "MouldShots$Shot" "coolTicks" "I", Cond.methodLink RX2 40 yX2_clear, Cond.instanceMethod yX2_clear, Cond.selects RX2 yX2_clear yX2_clear, Cond.code yX2_clear cX2_clear 2 none, Cond.fieldLink RX2 9 "MouldShots$Shot" "has" "[I", Cond.fieldLink RX2 15 "MouldShots$Shot" "firstAt" "[I", Cond.fieldLink RX2 18 "MouldShots$Shot" "fullAt" "[I", Cond.fieldLink RX2 21 "MouldShots$Shot" "pressures" "[I", Cond.fieldLink RX2 24 "MouldShots$Shot" "place" "I", Cond.fieldLink RX2 31 "MouldShots$Shot" "ticks" "I", Cond.fieldLink RX2 37 "MouldShots$Shot" "why" "I", Cond.methodLink RX2 43 yX2_fill, Cond.instanceMethod yX2_fill, Cond.selects RX2 yX2_fill yX2_fill, Cond.code yX2_fill cX2_fill 8 none, Cond.methodLink RX2 60 Lib.Math.min.name]
def wsX5_tried_r2 : List Cond := [Cond.static Lib.Math.min.name, Cond.initialized "java/lang/Math", Cond.code Lib.Math.min.name Lib.Math.min.code 2 (some .int), Cond.methodLink RX2 70 Lib.Math.max.name, Cond.static Lib.Math.max.name, Cond.code Lib.Math.max.name Lib.Math.max.code 2 (some .int), Cond.fieldLink RX2 28 "MouldShots$Shot" "fillTicks" "I", Cond.methodLink RX2 56 yX2_speedHere, Cond.instanceMethod yX2_speedHere, Cond.selects RX2 yX2_speedHere yX2_speedHere, Cond.code yX2_speedHere cX2_speedHere 6 (some .int), Cond.methodLink RX2 66 yX2_push, Cond.instanceMethod yX2_push, Cond.selects RX2 yX2_push yX2_push, Cond.code yX2_push cX2_push 5 (some .int), Cond.methodLink RX2 88 yX2_easiest, Cond.instanceMethod yX2_easiest, Cond.selects RX2 yX2_easiest yX2_easiest, Cond.code yX2_easiest cX2_easiest 8 (some .int), Cond.methodLink RX2 95 yX2_addMelt, Cond.instanceMethod yX2_addMelt, Cond.selects RX2 yX2_addMelt yX2_addMelt, Cond.code yX2_addMelt cX2_addMelt 3 none, Cond.methodLink RX2 73 yX2_whySwitch]
def wsX5_tried_r3 : List Cond := [Cond.instanceMethod yX2_whySwitch, Cond.selects RX2 yX2_whySwitch yX2_whySwitch, Cond.code yX2_whySwitch cX2_whySwitch 2 (some .int), Cond.methodLink RX2 47 yX2_hold, Cond.instanceMethod yX2_hold, Cond.selects RX2 yX2_hold yX2_hold, Cond.code yX2_hold cX2_hold 8 none, Cond.methodLink RX2 105 yX2_isFrozen, Cond.instanceMethod yX2_isFrozen, Cond.selects RX2 yX2_isFrozen yX2_isFrozen, Cond.code yX2_isFrozen cX2_isFrozen 3 (some .boolean), Cond.instanceMethod yX2_told, Cond.selects RX2 yX2_told yX2_told, Cond.code yX2_told cX2_told 2 (some .int), Cond.methodLink RX2 112 yX2_balance, Cond.instanceMethod yX2_balance, Cond.selects RX2 yX2_balance yX2_balance, Cond.code yX2_balance cX2_balance 4 (some .int), Cond.methodLink RX2 116 yX2_whole, Cond.instanceMethod yX2_whole, Cond.selects RX2 yX2_whole yX2_whole, Cond.code yX2_whole cX2_whole 1 (some .int), Cond.methodLink RX2 119 yX2_greatestPressure, Cond.instanceMethod yX2_greatestPressure]
def wsX5_tried_r4 : List Cond := [Cond.selects RX2 yX2_greatestPressure yX2_greatestPressure, Cond.code yX2_greatestPressure cX2_greatestPressure 3 (some .int)]
def wsX5_tried : List Cond := .code yX5_tried cX5_tried 3 (some .int) :: ((wsX5_tried_r1 ++ (wsX5_tried_r2 ++ (wsX5_tried_r3 ++ wsX5_tried_r4))) ++ wsX50 ++ wsX30 ++ wsX20 ++ wsX10)
def wsX5_balanceWith_r1 : List Cond := [Cond.fieldLink RX5 51 "MouldShots" "trial" "LMouldShots$Shot;", Cond.fieldLink RX5 19 "MouldShots" "plan" "LMouldShots$Plan;", Cond.fieldLink RX5 40 "MouldShots" "now" "LMouldShots$State;", Cond.instanceMethod yX2_make, Cond.initialized RX2, Cond.selects RX2 yX2_make yX2_make, Cond.code yX2_make cX2_make 4 none, Cond.fieldLink RX2 34 "MouldShots$Shot" "coolTicks" "I", Cond.methodLink RX2 40 yX2_clear, Cond.instanceMethod yX2_clear, Cond.selects RX2 yX2_clear yX2_clear, Cond.code yX2_clear cX2_clear 2 none, Cond.fieldLink RX2 9 "MouldShots$Shot" "has" "[I", Cond.fieldLink RX2 15 "MouldShots$Shot" "firstAt" "[I", Cond.fieldLink RX2 18 "MouldShots$Shot" "fullAt" "[I", Cond.fieldLink RX2 21 "MouldShots$Shot" "pressures" "[I", Cond.fieldLink RX2 24 "MouldShots$Shot" "place" "I", Cond.fieldLink RX2 31 "MouldShots$Shot" "ticks" "I", Cond.fieldLink RX2 37 "MouldShots$Shot" "why" "I", Cond.methodLink RX2 43 yX2_fill, Cond.instanceMethod yX2_fill, Cond.selects RX2 yX2_fill yX2_fill, Cond.code yX2_fill cX2_fill 8 none, Cond.methodLink RX2 60 Lib.Math.min.name]
def wsX5_balanceWith_r2 : List Cond := [Cond.static Lib.Math.min.name, Cond.initialized "java/lang/Math", Cond.code Lib.Math.min.name Lib.Math.min.code 2 (some .int), Cond.methodLink RX2 70 Lib.Math.max.name, Cond.static Lib.Math.max.name, Cond.code Lib.Math.max.name Lib.Math.max.code 2 (some .int), Cond.fieldLink RX2 28 "MouldShots$Shot" "fillTicks" "I", Cond.methodLink RX2 56 yX2_speedHere, Cond.instanceMethod yX2_speedHere, Cond.selects RX2 yX2_speedHere yX2_speedHere, Cond.code yX2_speedHere cX2_speedHere 6 (some .int), Cond.methodLink RX2 66 yX2_push, Cond.instanceMethod yX2_push, Cond.selects RX2 yX2_push yX2_push, Cond.code yX2_push cX2_push 5 (some .int), Cond.methodLink RX2 88 yX2_easiest, Cond.instanceMethod yX2_easiest, Cond.selects RX2 yX2_easiest yX2_easiest, Cond.code yX2_easiest cX2_easiest 8 (some .int), Cond.methodLink RX2 95 yX2_addMelt, Cond.instanceMethod yX2_addMelt, Cond.selects RX2 yX2_addMelt yX2_addMelt, Cond.code yX2_addMelt cX2_addMelt 3 none, Cond.methodLink RX2 73 yX2_whySwitch]
def wsX5_balanceWith_r3 : List Cond := [Cond.instanceMethod yX2_whySwitch, Cond.selects RX2 yX2_whySwitch yX2_whySwitch, Cond.code yX2_whySwitch cX2_whySwitch 2 (some .int), Cond.methodLink RX2 47 yX2_hold, Cond.instanceMethod yX2_hold, Cond.selects RX2 yX2_hold yX2_hold, Cond.code yX2_hold cX2_hold 8 none, Cond.methodLink RX2 105 yX2_isFrozen, Cond.instanceMethod yX2_isFrozen, Cond.selects RX2 yX2_isFrozen yX2_isFrozen, Cond.code yX2_isFrozen cX2_isFrozen 3 (some .boolean), Cond.instanceMethod yX2_balance, Cond.selects RX2 yX2_balance yX2_balance, Cond.code yX2_balance cX2_balance 4 (some .int)]
def wsX5_balanceWith : List Cond := .code yX5_balanceWith cX5_balanceWith 2 (some .int) :: ((wsX5_balanceWith_r1 ++ (wsX5_balanceWith_r2 ++ wsX5_balanceWith_r3)) ++ wsX50 ++ wsX30 ++ wsX20 ++ wsX10)
def wsX5_even_r1 : List Cond := [Cond.methodLink RX5 94 yX5_isFlag, Cond.static yX5_isFlag, Cond.initialized RX5, Cond.code yX5_isFlag cX5_isFlag 1 (some .boolean), Cond.methodLink RX5 279 yX5_balanceWith, Cond.instanceMethod yX5_balanceWith, Cond.selects RX5 yX5_balanceWith yX5_balanceWith, Cond.code yX5_balanceWith cX5_balanceWith 2 (some .int), Cond.fieldLink RX5 51 "MouldShots" "trial" "LMouldShots$Shot;", Cond.fieldLink RX5 19 "MouldShots" "plan" "LMouldShots$Plan;", Cond.fieldLink RX5 40 "MouldShots" "now" "LMouldShots$State;", Cond.instanceMethod yX2_make, Cond.initialized RX2, Cond.selects RX2 yX2_make yX2_make, Cond.code yX2_make cX2_make 4 none, Cond.fieldLink RX2 34 "MouldShots$Shot" "coolTicks" "I", Cond.methodLink RX2 40 yX2_clear, Cond.instanceMethod yX2_clear, Cond.selects RX2 yX2_clear yX2_clear, Cond.code yX2_clear cX2_clear 2 none, Cond.fieldLink RX2 9 "MouldShots$Shot" "has" "[I", Cond.fieldLink RX2 15 "MouldShots$Shot" "firstAt" "[I", Cond.fieldLink RX2 18 "MouldShots$Shot" "fullAt" "[I", Cond.fieldLink RX2 21 "MouldShots$Shot" "pressures" "[I"]
def wsX5_even_r2 : List Cond := [Cond.fieldLink RX2 24 "MouldShots$Shot" "place" "I", Cond.fieldLink RX2 31 "MouldShots$Shot" "ticks" "I", Cond.fieldLink RX2 37 "MouldShots$Shot" "why" "I", Cond.methodLink RX2 43 yX2_fill, Cond.instanceMethod yX2_fill, Cond.selects RX2 yX2_fill yX2_fill, Cond.code yX2_fill cX2_fill 8 none, Cond.methodLink RX2 60 Lib.Math.min.name, Cond.static Lib.Math.min.name, Cond.initialized "java/lang/Math", Cond.code Lib.Math.min.name Lib.Math.min.code 2 (some .int), Cond.methodLink RX2 70 Lib.Math.max.name, Cond.static Lib.Math.max.name, Cond.code Lib.Math.max.name Lib.Math.max.code 2 (some .int), Cond.fieldLink RX2 28 "MouldShots$Shot" "fillTicks" "I", Cond.methodLink RX2 56 yX2_speedHere, Cond.instanceMethod yX2_speedHere, Cond.selects RX2 yX2_speedHere yX2_speedHere, Cond.code yX2_speedHere cX2_speedHere 6 (some .int), Cond.methodLink RX2 66 yX2_push, Cond.instanceMethod yX2_push, Cond.selects RX2 yX2_push yX2_push, Cond.code yX2_push cX2_push 5 (some .int), Cond.methodLink RX2 88 yX2_easiest]
def wsX5_even_r3 : List Cond := [Cond.instanceMethod yX2_easiest, Cond.selects RX2 yX2_easiest yX2_easiest, Cond.code yX2_easiest cX2_easiest 8 (some .int), Cond.methodLink RX2 95 yX2_addMelt, Cond.instanceMethod yX2_addMelt, Cond.selects RX2 yX2_addMelt yX2_addMelt, Cond.code yX2_addMelt cX2_addMelt 3 none, Cond.methodLink RX2 73 yX2_whySwitch, Cond.instanceMethod yX2_whySwitch, Cond.selects RX2 yX2_whySwitch yX2_whySwitch, Cond.code yX2_whySwitch cX2_whySwitch 2 (some .int), Cond.methodLink RX2 47 yX2_hold, Cond.instanceMethod yX2_hold, Cond.selects RX2 yX2_hold yX2_hold, Cond.code yX2_hold cX2_hold 8 none, Cond.methodLink RX2 105 yX2_isFrozen, Cond.instanceMethod yX2_isFrozen, Cond.selects RX2 yX2_isFrozen yX2_isFrozen, Cond.code yX2_isFrozen cX2_isFrozen 3 (some .boolean), Cond.instanceMethod yX2_balance, Cond.selects RX2 yX2_balance yX2_balance, Cond.code yX2_balance cX2_balance 4 (some .int)]
def wsX5_even : List Cond := .code yX5_even cX5_even 7 (some .int) :: ((wsX5_even_r1 ++ (wsX5_even_r2 ++ wsX5_even_r3)) ++ wsX50 ++ wsX30 ++ wsX20 ++ wsX10)
def wsX5_earlier : List Cond := .code yX5_earlier cX5_earlier 2 (some .int) :: ([.fieldLink RX5 19 "MouldShots" "plan" "LMouldShots$Plan;", .methodLink RX5 119 yX5_isCore, .instanceMethod yX5_isCore, .selects RX5 yX5_isCore yX5_isCore, .initialized RX5, .code yX5_isCore cX5_isCore 2 (some .boolean)] ++ wsX50 ++ wsX10)
def wsX5_order : List Cond := .code yX5_order cX5_order 2 (some .int) :: ([.fieldLink RX5 19 "MouldShots" "plan" "LMouldShots$Plan;", .instanceMethod yX1_coreInTurn, .initialized RX1, .selects RX1 yX1_coreInTurn yX1_coreInTurn, .code yX1_coreInTurn cX1_coreInTurn 5 (some .int), .fieldLink RX1 25 "MouldShots$Plan" "cores" "I", .methodLink RX1 62 yX1_nextIn, .instanceMethod yX1_nextIn, .selects RX1 yX1_nextIn yX1_nextIn, .code yX1_nextIn cX1_nextIn 4 (some .int), .fieldLink RX1 28 "MouldShots$Plan" "ahead" "[I"] ++ wsX50 ++ wsX10)
def wsX5_badShots_r1 : List Cond := [Cond.methodLink RX5 182 yX5_keptShots, Cond.instanceMethod yX5_keptShots, Cond.selects RX5 yX5_keptShots yX5_keptShots, Cond.initialized RX5, Cond.code yX5_keptShots cX5_keptShots 1 (some .int), Cond.fieldLink RX5 40 "MouldShots" "now" "LMouldShots$State;", Cond.methodLink RX5 196 Lib.Math.min.name, Cond.static Lib.Math.min.name, Cond.initialized "java/lang/Math", Cond.code Lib.Math.min.name Lib.Math.min.code 2 (some .int), Cond.methodLink RX5 185 yX5_keptShot, Cond.instanceMethod yX5_keptShot, Cond.selects RX5 yX5_keptShot yX5_keptShot, Cond.code yX5_keptShot cX5_keptShot 2 (some (.object "MouldShots$Shot")), Cond.fieldLink RX5 46 "MouldShots" "shots" "[LMouldShots$Shot;", Cond.methodLink RX5 291 yJ9_floorMod_7cf53, Cond.static yJ9_floorMod_7cf53, Cond.initialized RJ9, Cond.code yJ9_floorMod_7cf53 cJ9_floorMod_7cf53 3 (some .int), Cond.methodLink RX5 241 yX5_isBad, Cond.instanceMethod yX5_isBad, Cond.selects RX5 yX5_isBad yX5_isBad, Cond.code yX5_isBad cX5_isBad 2 (some .boolean), Cond.fieldLink RX5 19 "MouldShots" "plan" "LMouldShots$Plan;"]
def wsX5_badShots_r2 : List Cond := [Cond.instanceMethod yX2_isFarOff, Cond.initialized RX2, Cond.selects RX2 yX2_isFarOff yX2_isFarOff, Cond.code yX2_isFarOff cX2_isFarOff 3 (some .boolean), Cond.fieldLink RX2 9 "MouldShots$Shot" "has" "[I", Cond.methodLink RX2 122 Lib.Math.abs.name, Cond.static Lib.Math.abs.name, Cond.code Lib.Math.abs.name Lib.Math.abs.code 1 (some .int), Cond.instanceMethod yX0_rejects, Cond.initialized RX0, Cond.selects RX0 yX0_rejects yX0_rejects, Cond.code yX0_rejects cX0_rejects 3 (some .boolean), Cond.fieldLink RX0 9 "MouldShots$Band" "teachers" "I", Cond.fieldLink RX0 15 "MouldShots$Band" "shortest" "I", Cond.fieldLink RX0 18 "MouldShots$Band" "longest" "I", Cond.methodLink RX0 51 yX0_amissIn, Cond.instanceMethod yX0_amissIn, Cond.selects RX0 yX0_amissIn yX0_amissIn, Cond.code yX0_amissIn cX0_amissIn 6 (some .int), Cond.fieldLink RX0 21 "MouldShots$Band" "least" "[I", Cond.fieldLink RX0 25 "MouldShots$Band" "greatest" "[I"]
def wsX5_badShots : List Cond := .code yX5_badShots cX5_badShots 3 (some .int) :: ((wsX5_badShots_r1 ++ wsX5_badShots_r2) ++ wsX50 ++ wsX30 ++ wsX10 ++ wsX20 ++ wsX00)
def wsX5_count_r1 : List Cond := [Cond.fieldLink RX5 19 "MouldShots" "plan" "LMouldShots$Plan;", Cond.fieldLink RX5 40 "MouldShots" "now" "LMouldShots$State;", Cond.fieldLink RX5 36 "MouldShots" "undoable" "I", Cond.fieldLink RX5 12 "MouldShots" "text" "LMouldShots$Text;", Cond.methodLink RX5 126 yJ6_bitCount_0f7a4, Cond.static yJ6_bitCount_0f7a4, Cond.initialized RJ6, Cond.code yJ6_bitCount_0f7a4 cJ6_bitCount_0f7a4 1 (some .int), Cond.constant RJ6 265 (1431655765), Cond.constant RJ6 266 (858993459), Cond.constant RJ6 267 (252645135), Cond.methodLink RX5 182 yX5_keptShots, Cond.instanceMethod yX5_keptShots, Cond.selects RX5 yX5_keptShots yX5_keptShots, Cond.initialized RX5, Cond.code yX5_keptShots cX5_keptShots 1 (some .int), Cond.methodLink RX5 196 Lib.Math.min.name, Cond.static Lib.Math.min.name, Cond.initialized "java/lang/Math", Cond.code Lib.Math.min.name Lib.Math.min.code 2 (some .int), Cond.methodLink RX5 288 yX5_badShots, Cond.instanceMethod yX5_badShots, Cond.selects RX5 yX5_badShots yX5_badShots, Cond.code yX5_badShots cX5_badShots 3 (some .int)]
def wsX5_count_r2 : List Cond := [Cond.methodLink RX5 185 yX5_keptShot, Cond.instanceMethod yX5_keptShot, Cond.selects RX5 yX5_keptShot yX5_keptShot, Cond.code yX5_keptShot cX5_keptShot 2 (some (.object "MouldShots$Shot")), Cond.fieldLink RX5 46 "MouldShots" "shots" "[LMouldShots$Shot;", Cond.methodLink RX5 291 yJ9_floorMod_7cf53, Cond.static yJ9_floorMod_7cf53, Cond.initialized RJ9, Cond.code yJ9_floorMod_7cf53 cJ9_floorMod_7cf53 3 (some .int), Cond.methodLink RX5 241 yX5_isBad, Cond.instanceMethod yX5_isBad, Cond.selects RX5 yX5_isBad yX5_isBad, Cond.code yX5_isBad cX5_isBad 2 (some .boolean), Cond.instanceMethod yX2_isFarOff, Cond.initialized RX2, Cond.selects RX2 yX2_isFarOff yX2_isFarOff, Cond.code yX2_isFarOff cX2_isFarOff 3 (some .boolean), Cond.fieldLink RX2 9 "MouldShots$Shot" "has" "[I", Cond.methodLink RX2 122 Lib.Math.abs.name, Cond.static Lib.Math.abs.name, Cond.code Lib.Math.abs.name Lib.Math.abs.code 1 (some .int), Cond.instanceMethod yX0_rejects, Cond.initialized RX0, Cond.selects RX0 yX0_rejects yX0_rejects]
def wsX5_count_r3 : List Cond := [Cond.code yX0_rejects cX0_rejects 3 (some .boolean), Cond.fieldLink RX0 9 "MouldShots$Band" "teachers" "I", Cond.fieldLink RX0 15 "MouldShots$Band" "shortest" "I", Cond.fieldLink RX0 18 "MouldShots$Band" "longest" "I", Cond.methodLink RX0 51 yX0_amissIn, Cond.instanceMethod yX0_amissIn, Cond.selects RX0 yX0_amissIn yX0_amissIn, Cond.code yX0_amissIn cX0_amissIn 6 (some .int), Cond.fieldLink RX0 21 "MouldShots$Band" "least" "[I", Cond.fieldLink RX0 25 "MouldShots$Band" "greatest" "[I", Cond.methodLink RX5 169 yX5_isReady, Cond.instanceMethod yX5_isReady, Cond.selects RX5 yX5_isReady yX5_isReady, Cond.code yX5_isReady cX5_isReady 1 (some .boolean)]
def wsX5_count : List Cond := .code yX5_count cX5_count 2 (some .int) :: ((wsX5_count_r1 ++ (wsX5_count_r2 ++ wsX5_count_r3)) ++ wsX50 ++ wsX10 ++ wsX30 ++ wsX00 ++ wsX40 ++ wsX20)
def wsX6_clears : List Cond := .code yX6_clears cX6_clears 1 none :: ([.fieldLink RX6 64 "MouldShotsModel" "readCavities" "I", .fieldLink RX6 53 "MouldShotsModel" "readCores" "I", .fieldLink RX6 67 "MouldShotsModel" "readStages" "I", .fieldLink RX6 43 "MouldShotsModel" "readRule" "[I"] ++ wsX60)
def wsX6_cavityOf : List Cond := .code yX6_cavityOf cX6_cavityOf 4 none :: ([.fieldLink RX6 34 "MouldShotsModel" "readCavity" "[I", .fieldLink RX6 64 "MouldShotsModel" "readCavities" "I"] ++ wsX60)
def wsX6_stageOf : List Cond := .code yX6_stageOf cX6_stageOf 3 none :: ([.fieldLink RX6 40 "MouldShotsModel" "readStage" "[I", .fieldLink RX6 67 "MouldShotsModel" "readStages" "I"] ++ wsX60)
def wsX6_takes : List Cond := .code yX6_takes cX6_takes 2 none :: ([.fieldLink RX6 64 "MouldShotsModel" "readCavities" "I", .fieldLink RX6 70 "MouldShotsModel" "cavities" "I", .fieldLink RX6 53 "MouldShotsModel" "readCores" "I", .fieldLink RX6 73 "MouldShotsModel" "cores" "I", .fieldLink RX6 67 "MouldShotsModel" "readStages" "I", .fieldLink RX6 76 "MouldShotsModel" "stages" "I", .fieldLink RX6 25 "MouldShotsModel" "now" "[I", .fieldLink RX6 13 "MouldShotsModel" "volume" "[I", .fieldLink RX6 34 "MouldShotsModel" "readCavity" "[I", .fieldLink RX6 16 "MouldShotsModel" "freeze" "[I", .fieldLink RX6 19 "MouldShotsModel" "earlier" "[I", .fieldLink RX6 37 "MouldShotsModel" "readCore" "[I", .fieldLink RX6 22 "MouldShotsModel" "place" "[I", .fieldLink RX6 40 "MouldShotsModel" "readStage" "[I", .fieldLink RX6 43 "MouldShotsModel" "readRule" "[I", .fieldLink RX6 79 "MouldShotsModel" "changes" "I"] ++ wsX60)
def wsX6_init_r1 : List Cond := [Cond.methodLink RX6 1 objectInit, Cond.instanceMethod objectInit, Cond.code objectInit ⟨#[0xb1]⟩ 1 none, Cond.arrayClass .int, Cond.fieldLink RX6 7 "MouldShotsModel" "text" "[I", Cond.fieldLink RX6 13 "MouldShotsModel" "volume" "[I", Cond.fieldLink RX6 16 "MouldShotsModel" "freeze" "[I", Cond.fieldLink RX6 19 "MouldShotsModel" "earlier" "[I", Cond.fieldLink RX6 22 "MouldShotsModel" "place" "[I", Cond.fieldLink RX6 25 "MouldShotsModel" "now" "[I", Cond.fieldLink RX6 28 "MouldShotsModel" "was" "[I", Cond.fieldLink RX6 31 "MouldShotsModel" "one" "[I", Cond.fieldLink RX6 34 "MouldShotsModel" "readCavity" "[I", Cond.fieldLink RX6 37 "MouldShotsModel" "readCore" "[I", Cond.fieldLink RX6 40 "MouldShotsModel" "readStage" "[I", Cond.fieldLink RX6 43 "MouldShotsModel" "readRule" "[I", Cond.fieldLink RX6 53 "MouldShotsModel" "readCores" "I", Cond.methodLink RX6 46 yX6_clears, Cond.instanceMethod yX6_clears, Cond.selects RX6 yX6_clears yX6_clears, Cond.initialized RX6, Cond.code yX6_clears cX6_clears 1 none, Cond.fieldLink RX6 64 "MouldShotsModel" "readCavities" "I", Cond.fieldLink RX6 67 "MouldShotsModel" "readStages" "I"]
def wsX6_init_r2 : List Cond := [Cond.methodLink RX6 49 yX6_cavityOf, Cond.instanceMethod yX6_cavityOf, Cond.selects RX6 yX6_cavityOf yX6_cavityOf, Cond.code yX6_cavityOf cX6_cavityOf 4 none, Cond.methodLink RX6 57 yX6_stageOf, Cond.instanceMethod yX6_stageOf, Cond.selects RX6 yX6_stageOf yX6_stageOf, Cond.code yX6_stageOf cX6_stageOf 3 none, Cond.methodLink RX6 61 yX6_takes, Cond.instanceMethod yX6_takes, Cond.selects RX6 yX6_takes yX6_takes, Cond.code yX6_takes cX6_takes 2 none, Cond.fieldLink RX6 70 "MouldShotsModel" "cavities" "I", Cond.fieldLink RX6 73 "MouldShotsModel" "cores" "I", Cond.fieldLink RX6 76 "MouldShotsModel" "stages" "I", Cond.fieldLink RX6 79 "MouldShotsModel" "changes" "I"]
def wsX6_init : List Cond := .code yX6_init cX6_init 1 none :: ((wsX6_init_r1 ++ wsX6_init_r2) ++ wsX60)
def wsX6_isIn : List Cond := .code yX6_isIn cX6_isIn 3 (some .boolean) :: ([])
def wsX6_letterAt : List Cond := .code yX6_letterAt cX6_letterAt 2 (some .int) :: ([.fieldLink RX6 82 "MouldShotsModel" "length" "I", .fieldLink RX6 7 "MouldShotsModel" "text" "[I"] ++ wsX60)
def wsX6_number : List Cond := .code yX6_number cX6_number 4 (some .boolean) :: ([.fieldLink RX6 85 "MouldShotsModel" "value" "I", .fieldLink RX6 88 "MouldShotsModel" "ends" "I", .fieldLink RX6 7 "MouldShotsModel" "text" "[I", .methodLink RX6 91 yX6_letterAt, .instanceMethod yX6_letterAt, .selects RX6 yX6_letterAt yX6_letterAt, .initialized RX6, .code yX6_letterAt cX6_letterAt 2 (some .int), .fieldLink RX6 82 "MouldShotsModel" "length" "I", .methodLink RX6 95 yX6_isIn, .static yX6_isIn, .code yX6_isIn cX6_isIn 3 (some .boolean)] ++ wsX60)
def wsX6_more : List Cond := .code yX6_more cX6_more 3 (some .boolean) :: ([.fieldLink RX6 88 "MouldShotsModel" "ends" "I", .methodLink RX6 91 yX6_letterAt, .instanceMethod yX6_letterAt, .selects RX6 yX6_letterAt yX6_letterAt, .initialized RX6, .code yX6_letterAt cX6_letterAt 2 (some .int), .fieldLink RX6 82 "MouldShotsModel" "length" "I", .fieldLink RX6 7 "MouldShotsModel" "text" "[I", .methodLink RX6 99 yX6_number, .instanceMethod yX6_number, .selects RX6 yX6_number yX6_number, .code yX6_number cX6_number 4 (some .boolean), .fieldLink RX6 85 "MouldShotsModel" "value" "I", .methodLink RX6 95 yX6_isIn, .static yX6_isIn, .code yX6_isIn cX6_isIn 3 (some .boolean)] ++ wsX60)
def wsX6_readsCavity_r1 : List Cond := [Cond.fieldLink RX6 64 "MouldShotsModel" "readCavities" "I", Cond.fieldLink RX6 85 "MouldShotsModel" "value" "I", Cond.methodLink RX6 99 yX6_number, Cond.instanceMethod yX6_number, Cond.selects RX6 yX6_number yX6_number, Cond.initialized RX6, Cond.code yX6_number cX6_number 4 (some .boolean), Cond.fieldLink RX6 88 "MouldShotsModel" "ends" "I", Cond.fieldLink RX6 7 "MouldShotsModel" "text" "[I", Cond.methodLink RX6 91 yX6_letterAt, Cond.instanceMethod yX6_letterAt, Cond.selects RX6 yX6_letterAt yX6_letterAt, Cond.code yX6_letterAt cX6_letterAt 2 (some .int), Cond.fieldLink RX6 82 "MouldShotsModel" "length" "I", Cond.methodLink RX6 95 yX6_isIn, Cond.static yX6_isIn, Cond.code yX6_isIn cX6_isIn 3 (some .boolean), Cond.methodLink RX6 102 yX6_more, Cond.instanceMethod yX6_more, Cond.selects RX6 yX6_more yX6_more, Cond.code yX6_more cX6_more 3 (some .boolean), Cond.methodLink RX6 49 yX6_cavityOf, Cond.instanceMethod yX6_cavityOf, Cond.selects RX6 yX6_cavityOf yX6_cavityOf]
def wsX6_readsCavity_r2 : List Cond := [Cond.code yX6_cavityOf cX6_cavityOf 4 none, Cond.fieldLink RX6 34 "MouldShotsModel" "readCavity" "[I"]
def wsX6_readsCavity : List Cond := .code yX6_readsCavity cX6_readsCavity 5 (some .boolean) :: ((wsX6_readsCavity_r1 ++ wsX6_readsCavity_r2) ++ wsX60)
def wsX6_readsCore : List Cond := .code yX6_readsCore cX6_readsCore 3 (some .boolean) :: ([.fieldLink RX6 53 "MouldShotsModel" "readCores" "I", .fieldLink RX6 85 "MouldShotsModel" "value" "I", .fieldLink RX6 37 "MouldShotsModel" "readCore" "[I", .methodLink RX6 99 yX6_number, .instanceMethod yX6_number, .selects RX6 yX6_number yX6_number, .initialized RX6, .code yX6_number cX6_number 4 (some .boolean), .fieldLink RX6 88 "MouldShotsModel" "ends" "I", .fieldLink RX6 7 "MouldShotsModel" "text" "[I", .methodLink RX6 91 yX6_letterAt, .instanceMethod yX6_letterAt, .selects RX6 yX6_letterAt yX6_letterAt, .code yX6_letterAt cX6_letterAt 2 (some .int), .fieldLink RX6 82 "MouldShotsModel" "length" "I", .methodLink RX6 95 yX6_isIn, .static yX6_isIn, .code yX6_isIn cX6_isIn 3 (some .boolean)] ++ wsX60)
def wsX6_readsStage_r1 : List Cond := [Cond.fieldLink RX6 67 "MouldShotsModel" "readStages" "I", Cond.fieldLink RX6 40 "MouldShotsModel" "readStage" "[I", Cond.fieldLink RX6 85 "MouldShotsModel" "value" "I", Cond.methodLink RX6 99 yX6_number, Cond.instanceMethod yX6_number, Cond.selects RX6 yX6_number yX6_number, Cond.initialized RX6, Cond.code yX6_number cX6_number 4 (some .boolean), Cond.fieldLink RX6 88 "MouldShotsModel" "ends" "I", Cond.fieldLink RX6 7 "MouldShotsModel" "text" "[I", Cond.methodLink RX6 91 yX6_letterAt, Cond.instanceMethod yX6_letterAt, Cond.selects RX6 yX6_letterAt yX6_letterAt, Cond.code yX6_letterAt cX6_letterAt 2 (some .int), Cond.fieldLink RX6 82 "MouldShotsModel" "length" "I", Cond.methodLink RX6 95 yX6_isIn, Cond.static yX6_isIn, Cond.code yX6_isIn cX6_isIn 3 (some .boolean), Cond.methodLink RX6 102 yX6_more, Cond.instanceMethod yX6_more, Cond.selects RX6 yX6_more yX6_more, Cond.code yX6_more cX6_more 3 (some .boolean), Cond.methodLink RX6 57 yX6_stageOf, Cond.instanceMethod yX6_stageOf]
def wsX6_readsStage_r2 : List Cond := [Cond.selects RX6 yX6_stageOf yX6_stageOf, Cond.code yX6_stageOf cX6_stageOf 3 none]
def wsX6_readsStage : List Cond := .code yX6_readsStage cX6_readsStage 5 (some .boolean) :: ((wsX6_readsStage_r1 ++ wsX6_readsStage_r2) ++ wsX60)
def wsX6_lowOf : List Cond := .code yX6_lowOf cX6_lowOf 1 (some .int) :: ([])
def wsX6_highOf : List Cond := .code yX6_highOf cX6_highOf 1 (some .int) :: ([])
def wsX6_readsRules_r1 : List Cond := [Cond.fieldLink RX6 43 "MouldShotsModel" "readRule" "[I", Cond.fieldLink RX6 85 "MouldShotsModel" "value" "I", Cond.methodLink RX6 106 yX6_lowOf, Cond.static yX6_lowOf, Cond.initialized RX6, Cond.code yX6_lowOf cX6_lowOf 1 (some .int), Cond.methodLink RX6 109 yX6_highOf, Cond.static yX6_highOf, Cond.code yX6_highOf cX6_highOf 1 (some .int), Cond.methodLink RX6 99 yX6_number, Cond.instanceMethod yX6_number, Cond.selects RX6 yX6_number yX6_number, Cond.code yX6_number cX6_number 4 (some .boolean), Cond.fieldLink RX6 88 "MouldShotsModel" "ends" "I", Cond.fieldLink RX6 7 "MouldShotsModel" "text" "[I", Cond.methodLink RX6 91 yX6_letterAt, Cond.instanceMethod yX6_letterAt, Cond.selects RX6 yX6_letterAt yX6_letterAt, Cond.code yX6_letterAt cX6_letterAt 2 (some .int), Cond.fieldLink RX6 82 "MouldShotsModel" "length" "I", Cond.methodLink RX6 95 yX6_isIn, Cond.static yX6_isIn, Cond.code yX6_isIn cX6_isIn 3 (some .boolean), Cond.methodLink RX6 102 yX6_more]
def wsX6_readsRules_r2 : List Cond := [Cond.instanceMethod yX6_more, Cond.selects RX6 yX6_more yX6_more, Cond.code yX6_more cX6_more 3 (some .boolean)]
def wsX6_readsRules : List Cond := .code yX6_readsRules cX6_readsRules 5 (some .boolean) :: ((wsX6_readsRules_r1 ++ wsX6_readsRules_r2) ++ wsX60)
def wsX6_readsItem_r1 : List Cond := [Cond.methodLink RX6 112 yX6_readsCavity, Cond.instanceMethod yX6_readsCavity, Cond.selects RX6 yX6_readsCavity yX6_readsCavity, Cond.initialized RX6, Cond.code yX6_readsCavity cX6_readsCavity 5 (some .boolean), Cond.fieldLink RX6 64 "MouldShotsModel" "readCavities" "I", Cond.fieldLink RX6 85 "MouldShotsModel" "value" "I", Cond.methodLink RX6 99 yX6_number, Cond.instanceMethod yX6_number, Cond.selects RX6 yX6_number yX6_number, Cond.code yX6_number cX6_number 4 (some .boolean), Cond.fieldLink RX6 88 "MouldShotsModel" "ends" "I", Cond.fieldLink RX6 7 "MouldShotsModel" "text" "[I", Cond.methodLink RX6 91 yX6_letterAt, Cond.instanceMethod yX6_letterAt, Cond.selects RX6 yX6_letterAt yX6_letterAt, Cond.code yX6_letterAt cX6_letterAt 2 (some .int), Cond.fieldLink RX6 82 "MouldShotsModel" "length" "I", Cond.methodLink RX6 95 yX6_isIn, Cond.static yX6_isIn, Cond.code yX6_isIn cX6_isIn 3 (some .boolean), Cond.methodLink RX6 102 yX6_more, Cond.instanceMethod yX6_more, Cond.selects RX6 yX6_more yX6_more]
def wsX6_readsItem_r2 : List Cond := [Cond.code yX6_more cX6_more 3 (some .boolean), Cond.methodLink RX6 49 yX6_cavityOf, Cond.instanceMethod yX6_cavityOf, Cond.selects RX6 yX6_cavityOf yX6_cavityOf, Cond.code yX6_cavityOf cX6_cavityOf 4 none, Cond.fieldLink RX6 34 "MouldShotsModel" "readCavity" "[I", Cond.methodLink RX6 116 yX6_readsCore, Cond.instanceMethod yX6_readsCore, Cond.selects RX6 yX6_readsCore yX6_readsCore, Cond.code yX6_readsCore cX6_readsCore 3 (some .boolean), Cond.fieldLink RX6 53 "MouldShotsModel" "readCores" "I", Cond.fieldLink RX6 37 "MouldShotsModel" "readCore" "[I", Cond.methodLink RX6 119 yX6_readsStage, Cond.instanceMethod yX6_readsStage, Cond.selects RX6 yX6_readsStage yX6_readsStage, Cond.code yX6_readsStage cX6_readsStage 5 (some .boolean), Cond.fieldLink RX6 67 "MouldShotsModel" "readStages" "I", Cond.fieldLink RX6 40 "MouldShotsModel" "readStage" "[I", Cond.methodLink RX6 57 yX6_stageOf, Cond.instanceMethod yX6_stageOf, Cond.selects RX6 yX6_stageOf yX6_stageOf, Cond.code yX6_stageOf cX6_stageOf 3 none, Cond.methodLink RX6 122 yX6_readsRules, Cond.instanceMethod yX6_readsRules]
def wsX6_readsItem_r3 : List Cond := [Cond.selects RX6 yX6_readsRules yX6_readsRules, Cond.code yX6_readsRules cX6_readsRules 5 (some .boolean), Cond.fieldLink RX6 43 "MouldShotsModel" "readRule" "[I", Cond.methodLink RX6 106 yX6_lowOf, Cond.static yX6_lowOf, Cond.code yX6_lowOf cX6_lowOf 1 (some .int), Cond.methodLink RX6 109 yX6_highOf, Cond.static yX6_highOf, Cond.code yX6_highOf cX6_highOf 1 (some .int)]
def wsX6_readsItem : List Cond := .code yX6_readsItem cX6_readsItem 3 (some .boolean) :: ((wsX6_readsItem_r1 ++ (wsX6_readsItem_r2 ++ wsX6_readsItem_r3)) ++ wsX60)
def wsX6_reads_r1 : List Cond := [Cond.fieldLink RX6 82 "MouldShotsModel" "length" "I", Cond.fieldLink RX6 7 "MouldShotsModel" "text" "[I", Cond.fieldLink RX6 88 "MouldShotsModel" "ends" "I", Cond.methodLink RX6 46 yX6_clears, Cond.instanceMethod yX6_clears, Cond.selects RX6 yX6_clears yX6_clears, Cond.initialized RX6, Cond.code yX6_clears cX6_clears 1 none, Cond.fieldLink RX6 64 "MouldShotsModel" "readCavities" "I", Cond.fieldLink RX6 53 "MouldShotsModel" "readCores" "I", Cond.fieldLink RX6 67 "MouldShotsModel" "readStages" "I", Cond.fieldLink RX6 43 "MouldShotsModel" "readRule" "[I", Cond.methodLink RX6 125 yX6_readsItem, Cond.instanceMethod yX6_readsItem, Cond.selects RX6 yX6_readsItem yX6_readsItem, Cond.code yX6_readsItem cX6_readsItem 3 (some .boolean), Cond.methodLink RX6 112 yX6_readsCavity, Cond.instanceMethod yX6_readsCavity, Cond.selects RX6 yX6_readsCavity yX6_readsCavity, Cond.code yX6_readsCavity cX6_readsCavity 5 (some .boolean), Cond.fieldLink RX6 85 "MouldShotsModel" "value" "I", Cond.methodLink RX6 99 yX6_number, Cond.instanceMethod yX6_number, Cond.selects RX6 yX6_number yX6_number]
def wsX6_reads_r2 : List Cond := [Cond.code yX6_number cX6_number 4 (some .boolean), Cond.methodLink RX6 91 yX6_letterAt, Cond.instanceMethod yX6_letterAt, Cond.selects RX6 yX6_letterAt yX6_letterAt, Cond.code yX6_letterAt cX6_letterAt 2 (some .int), Cond.methodLink RX6 95 yX6_isIn, Cond.static yX6_isIn, Cond.code yX6_isIn cX6_isIn 3 (some .boolean), Cond.methodLink RX6 102 yX6_more, Cond.instanceMethod yX6_more, Cond.selects RX6 yX6_more yX6_more, Cond.code yX6_more cX6_more 3 (some .boolean), Cond.methodLink RX6 49 yX6_cavityOf, Cond.instanceMethod yX6_cavityOf, Cond.selects RX6 yX6_cavityOf yX6_cavityOf, Cond.code yX6_cavityOf cX6_cavityOf 4 none, Cond.fieldLink RX6 34 "MouldShotsModel" "readCavity" "[I", Cond.methodLink RX6 116 yX6_readsCore, Cond.instanceMethod yX6_readsCore, Cond.selects RX6 yX6_readsCore yX6_readsCore, Cond.code yX6_readsCore cX6_readsCore 3 (some .boolean), Cond.fieldLink RX6 37 "MouldShotsModel" "readCore" "[I", Cond.methodLink RX6 119 yX6_readsStage, Cond.instanceMethod yX6_readsStage]
def wsX6_reads_r3 : List Cond := [Cond.selects RX6 yX6_readsStage yX6_readsStage, Cond.code yX6_readsStage cX6_readsStage 5 (some .boolean), Cond.fieldLink RX6 40 "MouldShotsModel" "readStage" "[I", Cond.methodLink RX6 57 yX6_stageOf, Cond.instanceMethod yX6_stageOf, Cond.selects RX6 yX6_stageOf yX6_stageOf, Cond.code yX6_stageOf cX6_stageOf 3 none, Cond.methodLink RX6 122 yX6_readsRules, Cond.instanceMethod yX6_readsRules, Cond.selects RX6 yX6_readsRules yX6_readsRules, Cond.code yX6_readsRules cX6_readsRules 5 (some .boolean), Cond.methodLink RX6 106 yX6_lowOf, Cond.static yX6_lowOf, Cond.code yX6_lowOf cX6_lowOf 1 (some .int), Cond.methodLink RX6 109 yX6_highOf, Cond.static yX6_highOf, Cond.code yX6_highOf cX6_highOf 1 (some .int)]
def wsX6_reads : List Cond := .code yX6_reads cX6_reads 2 (some .int) :: ((wsX6_reads_r1 ++ (wsX6_reads_r2 ++ wsX6_reads_r3)) ++ wsX60)
def wsX6_areCores : List Cond := .code yX6_areCores cX6_areCores 4 (some .boolean) :: ([.fieldLink RX6 53 "MouldShotsModel" "readCores" "I", .fieldLink RX6 37 "MouldShotsModel" "readCore" "[I"] ++ wsX60)
def wsX6_write : List Cond := .code yX6_write cX6_write 2 (some .int) :: ([.fieldLink RX6 82 "MouldShotsModel" "length" "I", .fieldLink RX6 7 "MouldShotsModel" "text" "[I"] ++ wsX60)
def wsX6_wipe : List Cond := .code yX6_wipe cX6_wipe 2 (some .int) :: ([.fieldLink RX6 82 "MouldShotsModel" "length" "I"] ++ wsX60)
def wsX6_fault_r1 : List Cond := [Cond.methodLink RX6 128 yX6_reads, Cond.instanceMethod yX6_reads, Cond.selects RX6 yX6_reads yX6_reads, Cond.initialized RX6, Cond.code yX6_reads cX6_reads 2 (some .int), Cond.fieldLink RX6 82 "MouldShotsModel" "length" "I", Cond.fieldLink RX6 7 "MouldShotsModel" "text" "[I", Cond.fieldLink RX6 88 "MouldShotsModel" "ends" "I", Cond.methodLink RX6 46 yX6_clears, Cond.instanceMethod yX6_clears, Cond.selects RX6 yX6_clears yX6_clears, Cond.code yX6_clears cX6_clears 1 none, Cond.fieldLink RX6 64 "MouldShotsModel" "readCavities" "I", Cond.fieldLink RX6 53 "MouldShotsModel" "readCores" "I", Cond.fieldLink RX6 67 "MouldShotsModel" "readStages" "I", Cond.fieldLink RX6 43 "MouldShotsModel" "readRule" "[I", Cond.methodLink RX6 125 yX6_readsItem, Cond.instanceMethod yX6_readsItem, Cond.selects RX6 yX6_readsItem yX6_readsItem, Cond.code yX6_readsItem cX6_readsItem 3 (some .boolean), Cond.methodLink RX6 112 yX6_readsCavity, Cond.instanceMethod yX6_readsCavity, Cond.selects RX6 yX6_readsCavity yX6_readsCavity, Cond.code yX6_readsCavity cX6_readsCavity 5 (some .boolean)]
def wsX6_fault_r2 : List Cond := [Cond.fieldLink RX6 85 "MouldShotsModel" "value" "I", Cond.methodLink RX6 99 yX6_number, Cond.instanceMethod yX6_number, Cond.selects RX6 yX6_number yX6_number, Cond.code yX6_number cX6_number 4 (some .boolean), Cond.methodLink RX6 91 yX6_letterAt, Cond.instanceMethod yX6_letterAt, Cond.selects RX6 yX6_letterAt yX6_letterAt, Cond.code yX6_letterAt cX6_letterAt 2 (some .int), Cond.methodLink RX6 95 yX6_isIn, Cond.static yX6_isIn, Cond.code yX6_isIn cX6_isIn 3 (some .boolean), Cond.methodLink RX6 102 yX6_more, Cond.instanceMethod yX6_more, Cond.selects RX6 yX6_more yX6_more, Cond.code yX6_more cX6_more 3 (some .boolean), Cond.methodLink RX6 49 yX6_cavityOf, Cond.instanceMethod yX6_cavityOf, Cond.selects RX6 yX6_cavityOf yX6_cavityOf, Cond.code yX6_cavityOf cX6_cavityOf 4 none, Cond.fieldLink RX6 34 "MouldShotsModel" "readCavity" "[I", Cond.methodLink RX6 116 yX6_readsCore, Cond.instanceMethod yX6_readsCore, Cond.selects RX6 yX6_readsCore yX6_readsCore]
def wsX6_fault_r3 : List Cond := [Cond.code yX6_readsCore cX6_readsCore 3 (some .boolean), Cond.fieldLink RX6 37 "MouldShotsModel" "readCore" "[I", Cond.methodLink RX6 119 yX6_readsStage, Cond.instanceMethod yX6_readsStage, Cond.selects RX6 yX6_readsStage yX6_readsStage, Cond.code yX6_readsStage cX6_readsStage 5 (some .boolean), Cond.fieldLink RX6 40 "MouldShotsModel" "readStage" "[I", Cond.methodLink RX6 57 yX6_stageOf, Cond.instanceMethod yX6_stageOf, Cond.selects RX6 yX6_stageOf yX6_stageOf, Cond.code yX6_stageOf cX6_stageOf 3 none, Cond.methodLink RX6 122 yX6_readsRules, Cond.instanceMethod yX6_readsRules, Cond.selects RX6 yX6_readsRules yX6_readsRules, Cond.code yX6_readsRules cX6_readsRules 5 (some .boolean), Cond.methodLink RX6 106 yX6_lowOf, Cond.static yX6_lowOf, Cond.code yX6_lowOf cX6_lowOf 1 (some .int), Cond.methodLink RX6 109 yX6_highOf, Cond.static yX6_highOf, Cond.code yX6_highOf cX6_highOf 1 (some .int)]
def wsX6_fault : List Cond := .code yX6_fault cX6_fault 1 (some .int) :: ((wsX6_fault_r1 ++ (wsX6_fault_r2 ++ wsX6_fault_r3)) ++ wsX60)
def wsX6_lay_r1 : List Cond := [Cond.fieldLink RX6 64 "MouldShotsModel" "readCavities" "I", Cond.fieldLink RX6 67 "MouldShotsModel" "readStages" "I", Cond.fieldLink RX6 70 "MouldShotsModel" "cavities" "I", Cond.methodLink RX6 128 yX6_reads, Cond.instanceMethod yX6_reads, Cond.selects RX6 yX6_reads yX6_reads, Cond.initialized RX6, Cond.code yX6_reads cX6_reads 2 (some .int), Cond.fieldLink RX6 82 "MouldShotsModel" "length" "I", Cond.fieldLink RX6 7 "MouldShotsModel" "text" "[I", Cond.fieldLink RX6 88 "MouldShotsModel" "ends" "I", Cond.methodLink RX6 46 yX6_clears, Cond.instanceMethod yX6_clears, Cond.selects RX6 yX6_clears yX6_clears, Cond.code yX6_clears cX6_clears 1 none, Cond.fieldLink RX6 53 "MouldShotsModel" "readCores" "I", Cond.fieldLink RX6 43 "MouldShotsModel" "readRule" "[I", Cond.methodLink RX6 125 yX6_readsItem, Cond.instanceMethod yX6_readsItem, Cond.selects RX6 yX6_readsItem yX6_readsItem, Cond.code yX6_readsItem cX6_readsItem 3 (some .boolean), Cond.methodLink RX6 112 yX6_readsCavity, Cond.instanceMethod yX6_readsCavity, Cond.selects RX6 yX6_readsCavity yX6_readsCavity]
def wsX6_lay_r2 : List Cond := [Cond.code yX6_readsCavity cX6_readsCavity 5 (some .boolean), Cond.fieldLink RX6 85 "MouldShotsModel" "value" "I", Cond.methodLink RX6 99 yX6_number, Cond.instanceMethod yX6_number, Cond.selects RX6 yX6_number yX6_number, Cond.code yX6_number cX6_number 4 (some .boolean), Cond.methodLink RX6 91 yX6_letterAt, Cond.instanceMethod yX6_letterAt, Cond.selects RX6 yX6_letterAt yX6_letterAt, Cond.code yX6_letterAt cX6_letterAt 2 (some .int), Cond.methodLink RX6 95 yX6_isIn, Cond.static yX6_isIn, Cond.code yX6_isIn cX6_isIn 3 (some .boolean), Cond.methodLink RX6 102 yX6_more, Cond.instanceMethod yX6_more, Cond.selects RX6 yX6_more yX6_more, Cond.code yX6_more cX6_more 3 (some .boolean), Cond.methodLink RX6 49 yX6_cavityOf, Cond.instanceMethod yX6_cavityOf, Cond.selects RX6 yX6_cavityOf yX6_cavityOf, Cond.code yX6_cavityOf cX6_cavityOf 4 none, Cond.fieldLink RX6 34 "MouldShotsModel" "readCavity" "[I", Cond.methodLink RX6 116 yX6_readsCore, Cond.instanceMethod yX6_readsCore]
def wsX6_lay_r3 : List Cond := [Cond.selects RX6 yX6_readsCore yX6_readsCore, Cond.code yX6_readsCore cX6_readsCore 3 (some .boolean), Cond.fieldLink RX6 37 "MouldShotsModel" "readCore" "[I", Cond.methodLink RX6 119 yX6_readsStage, Cond.instanceMethod yX6_readsStage, Cond.selects RX6 yX6_readsStage yX6_readsStage, Cond.code yX6_readsStage cX6_readsStage 5 (some .boolean), Cond.fieldLink RX6 40 "MouldShotsModel" "readStage" "[I", Cond.methodLink RX6 57 yX6_stageOf, Cond.instanceMethod yX6_stageOf, Cond.selects RX6 yX6_stageOf yX6_stageOf, Cond.code yX6_stageOf cX6_stageOf 3 none, Cond.methodLink RX6 122 yX6_readsRules, Cond.instanceMethod yX6_readsRules, Cond.selects RX6 yX6_readsRules yX6_readsRules, Cond.code yX6_readsRules cX6_readsRules 5 (some .boolean), Cond.methodLink RX6 106 yX6_lowOf, Cond.static yX6_lowOf, Cond.code yX6_lowOf cX6_lowOf 1 (some .int), Cond.methodLink RX6 109 yX6_highOf, Cond.static yX6_highOf, Cond.code yX6_highOf cX6_highOf 1 (some .int), Cond.methodLink RX6 132 yX6_areCores, Cond.instanceMethod yX6_areCores]
def wsX6_lay_r4 : List Cond := [Cond.selects RX6 yX6_areCores yX6_areCores, Cond.code yX6_areCores cX6_areCores 4 (some .boolean), Cond.methodLink RX6 61 yX6_takes, Cond.instanceMethod yX6_takes, Cond.selects RX6 yX6_takes yX6_takes, Cond.code yX6_takes cX6_takes 2 none, Cond.fieldLink RX6 73 "MouldShotsModel" "cores" "I", Cond.fieldLink RX6 76 "MouldShotsModel" "stages" "I", Cond.fieldLink RX6 25 "MouldShotsModel" "now" "[I", Cond.fieldLink RX6 13 "MouldShotsModel" "volume" "[I", Cond.fieldLink RX6 16 "MouldShotsModel" "freeze" "[I", Cond.fieldLink RX6 19 "MouldShotsModel" "earlier" "[I", Cond.fieldLink RX6 22 "MouldShotsModel" "place" "[I", Cond.fieldLink RX6 79 "MouldShotsModel" "changes" "I"]
def wsX6_lay : List Cond := .code yX6_lay cX6_lay 1 (some .int) :: ((wsX6_lay_r1 ++ (wsX6_lay_r2 ++ (wsX6_lay_r3 ++ wsX6_lay_r4))) ++ wsX60)
def wsX6_easiest : List Cond := .code yX6_easiest cX6_easiest 5 (some .int) :: ([.fieldLink RX6 70 "MouldShotsModel" "cavities" "I", .fieldLink RX6 31 "MouldShotsModel" "one" "[I", .fieldLink RX6 13 "MouldShotsModel" "volume" "[I", .fieldLink RX6 25 "MouldShotsModel" "now" "[I"] ++ wsX60)
def wsX6_comes : List Cond := .code yX6_comes cX6_comes 3 none :: ([.fieldLink RX6 31 "MouldShotsModel" "one" "[I", .fieldLink RX6 13 "MouldShotsModel" "volume" "[I"] ++ wsX60)
def wsX6_speedAt : List Cond := .code yX6_speedAt cX6_speedAt 4 (some .int) :: ([.fieldLink RX6 76 "MouldShotsModel" "stages" "I", .fieldLink RX6 22 "MouldShotsModel" "place" "[I", .fieldLink RX6 136 "MouldShotsModel" "screw" "I", .fieldLink RX6 25 "MouldShotsModel" "now" "[I"] ++ wsX60)
def wsX6_fills : List Cond := .code yX6_fills cX6_fills 8 (some .int) :: ([.fieldLink RX6 136 "MouldShotsModel" "screw" "I", .fieldLink RX6 31 "MouldShotsModel" "one" "[I", .fieldLink RX6 13 "MouldShotsModel" "volume" "[I", .fieldLink RX6 25 "MouldShotsModel" "now" "[I", .methodLink RX6 139 yX6_speedAt, .instanceMethod yX6_speedAt, .selects RX6 yX6_speedAt yX6_speedAt, .initialized RX6, .code yX6_speedAt cX6_speedAt 4 (some .int), .fieldLink RX6 76 "MouldShotsModel" "stages" "I", .fieldLink RX6 22 "MouldShotsModel" "place" "[I", .methodLink RX6 142 yX6_easiest, .instanceMethod yX6_easiest, .selects RX6 yX6_easiest yX6_easiest, .code yX6_easiest cX6_easiest 5 (some .int), .fieldLink RX6 70 "MouldShotsModel" "cavities" "I", .methodLink RX6 145 yX6_comes, .instanceMethod yX6_comes, .selects RX6 yX6_comes yX6_comes, .code yX6_comes cX6_comes 3 none] ++ wsX60)
def wsX6_why : List Cond := .code yX6_why cX6_why 3 (some .int) :: ([.fieldLink RX6 136 "MouldShotsModel" "screw" "I", .fieldLink RX6 25 "MouldShotsModel" "now" "[I"] ++ wsX60)
def wsX6_holds : List Cond := .code yX6_holds cX6_holds 4 none :: ([.fieldLink RX6 70 "MouldShotsModel" "cavities" "I", .fieldLink RX6 31 "MouldShotsModel" "one" "[I", .fieldLink RX6 16 "MouldShotsModel" "freeze" "[I", .fieldLink RX6 25 "MouldShotsModel" "now" "[I", .fieldLink RX6 136 "MouldShotsModel" "screw" "I", .methodLink RX6 145 yX6_comes, .instanceMethod yX6_comes, .selects RX6 yX6_comes yX6_comes, .initialized RX6, .code yX6_comes cX6_comes 3 none, .fieldLink RX6 13 "MouldShotsModel" "volume" "[I"] ++ wsX60)
def wsX6_tries_r1 : List Cond := [Cond.fieldLink RX6 31 "MouldShotsModel" "one" "[I", Cond.fieldLink RX6 136 "MouldShotsModel" "screw" "I", Cond.fieldLink RX6 25 "MouldShotsModel" "now" "[I", Cond.fieldLink RX6 70 "MouldShotsModel" "cavities" "I", Cond.methodLink RX6 148 yX6_fills, Cond.instanceMethod yX6_fills, Cond.selects RX6 yX6_fills yX6_fills, Cond.initialized RX6, Cond.code yX6_fills cX6_fills 8 (some .int), Cond.fieldLink RX6 13 "MouldShotsModel" "volume" "[I", Cond.methodLink RX6 139 yX6_speedAt, Cond.instanceMethod yX6_speedAt, Cond.selects RX6 yX6_speedAt yX6_speedAt, Cond.code yX6_speedAt cX6_speedAt 4 (some .int), Cond.fieldLink RX6 76 "MouldShotsModel" "stages" "I", Cond.fieldLink RX6 22 "MouldShotsModel" "place" "[I", Cond.methodLink RX6 142 yX6_easiest, Cond.instanceMethod yX6_easiest, Cond.selects RX6 yX6_easiest yX6_easiest, Cond.code yX6_easiest cX6_easiest 5 (some .int), Cond.methodLink RX6 145 yX6_comes, Cond.instanceMethod yX6_comes, Cond.selects RX6 yX6_comes yX6_comes, Cond.code yX6_comes cX6_comes 3 none]
def wsX6_tries_r2 : List Cond := [Cond.methodLink RX6 152 yX6_why, Cond.instanceMethod yX6_why, Cond.selects RX6 yX6_why yX6_why, Cond.code yX6_why cX6_why 3 (some .int), Cond.methodLink RX6 155 yX6_holds, Cond.instanceMethod yX6_holds, Cond.selects RX6 yX6_holds yX6_holds, Cond.code yX6_holds cX6_holds 4 none, Cond.fieldLink RX6 16 "MouldShotsModel" "freeze" "[I"]
def wsX6_tries : List Cond := .code yX6_tries cX6_tries 8 none :: ((wsX6_tries_r1 ++ wsX6_tries_r2) ++ wsX60)
def wsX6_told : List Cond := .code yX6_told cX6_told 5 (some .int) :: ([])
def wsX6_keeps : List Cond := .code yX6_keeps cX6_keeps 2 none :: ([.fieldLink RX6 79 "MouldShotsModel" "changes" "I", .fieldLink RX6 28 "MouldShotsModel" "was" "[I", .fieldLink RX6 25 "MouldShotsModel" "now" "[I"] ++ wsX60)
def wsX6_undo : List Cond := .code yX6_undo cX6_undo 2 (some .int) :: ([.fieldLink RX6 79 "MouldShotsModel" "changes" "I", .fieldLink RX6 25 "MouldShotsModel" "now" "[I", .fieldLink RX6 28 "MouldShotsModel" "was" "[I"] ++ wsX60)
def wsX6_becomes : List Cond := .code yX6_becomes cX6_becomes 4 (some .int) :: ([.fieldLink RX6 25 "MouldShotsModel" "now" "[I", .methodLink RX6 159 yX6_keeps, .instanceMethod yX6_keeps, .selects RX6 yX6_keeps yX6_keeps, .initialized RX6, .code yX6_keeps cX6_keeps 2 none, .fieldLink RX6 79 "MouldShotsModel" "changes" "I", .fieldLink RX6 28 "MouldShotsModel" "was" "[I"] ++ wsX60)
def wsX6_bits : List Cond := .code yX6_bits cX6_bits 3 (some .int) :: ([])
def wsX6_isCore : List Cond := .code yX6_isCore cX6_isCore 2 (some .boolean) :: ([.fieldLink RX6 73 "MouldShotsModel" "cores" "I", .methodLink RX6 95 yX6_isIn, .static yX6_isIn, .initialized RX6, .code yX6_isIn cX6_isIn 3 (some .boolean)] ++ wsX60)
def wsX6_isCavity : List Cond := .code yX6_isCavity cX6_isCavity 2 (some .boolean) :: ([.fieldLink RX6 70 "MouldShotsModel" "cavities" "I", .methodLink RX6 95 yX6_isIn, .static yX6_isIn, .initialized RX6, .code yX6_isIn cX6_isIn 3 (some .boolean)] ++ wsX60)
def wsX6_isShot : List Cond := .code yX6_isShot cX6_isShot 2 (some .boolean) :: ([.fieldLink RX6 25 "MouldShotsModel" "now" "[I", .methodLink RX6 95 yX6_isIn, .static yX6_isIn, .initialized RX6, .code yX6_isIn cX6_isIn 3 (some .boolean)] ++ wsX60)
def wsX6_mould : List Cond := .code yX6_mould cX6_mould 3 (some .int) :: ([.fieldLink RX6 25 "MouldShotsModel" "now" "[I", .methodLink RX6 95 yX6_isIn, .static yX6_isIn, .initialized RX6, .code yX6_isIn cX6_isIn 3 (some .boolean), .methodLink RX6 159 yX6_keeps, .instanceMethod yX6_keeps, .selects RX6 yX6_keeps yX6_keeps, .code yX6_keeps cX6_keeps 2 none, .fieldLink RX6 79 "MouldShotsModel" "changes" "I", .fieldLink RX6 28 "MouldShotsModel" "was" "[I"] ++ wsX60)
def wsX6_against1 : List Cond := .code yX6_against1 cX6_against1 4 (some .int) :: ([.fieldLink RX6 25 "MouldShotsModel" "now" "[I", .fieldLink RX6 19 "MouldShotsModel" "earlier" "[I", .fieldLink RX6 73 "MouldShotsModel" "cores" "I"] ++ wsX60)
def wsX6_against : List Cond := .code yX6_against cX6_against 3 (some .int) :: ([.methodLink RX6 162 yX6_isCore, .instanceMethod yX6_isCore, .selects RX6 yX6_isCore yX6_isCore, .initialized RX6, .code yX6_isCore cX6_isCore 2 (some .boolean), .fieldLink RX6 73 "MouldShotsModel" "cores" "I", .methodLink RX6 95 yX6_isIn, .static yX6_isIn, .code yX6_isIn cX6_isIn 3 (some .boolean), .methodLink RX6 165 yX6_against1, .instanceMethod yX6_against1, .selects RX6 yX6_against1 yX6_against1, .code yX6_against1 cX6_against1 4 (some .int), .fieldLink RX6 25 "MouldShotsModel" "now" "[I", .fieldLink RX6 19 "MouldShotsModel" "earlier" "[I"] ++ wsX60)
def wsX6_core : List Cond := .code yX6_core cX6_core 3 (some .int) :: ([.fieldLink RX6 25 "MouldShotsModel" "now" "[I", .methodLink RX6 162 yX6_isCore, .instanceMethod yX6_isCore, .selects RX6 yX6_isCore yX6_isCore, .initialized RX6, .code yX6_isCore cX6_isCore 2 (some .boolean), .fieldLink RX6 73 "MouldShotsModel" "cores" "I", .methodLink RX6 95 yX6_isIn, .static yX6_isIn, .code yX6_isIn cX6_isIn 3 (some .boolean), .methodLink RX6 165 yX6_against1, .instanceMethod yX6_against1, .selects RX6 yX6_against1 yX6_against1, .code yX6_against1 cX6_against1 4 (some .int), .fieldLink RX6 19 "MouldShotsModel" "earlier" "[I", .methodLink RX6 159 yX6_keeps, .instanceMethod yX6_keeps, .selects RX6 yX6_keeps yX6_keeps, .code yX6_keeps cX6_keeps 2 none, .fieldLink RX6 79 "MouldShotsModel" "changes" "I", .fieldLink RX6 28 "MouldShotsModel" "was" "[I", .methodLink RX6 168 yX6_bits, .static yX6_bits, .code yX6_bits cX6_bits 3 (some .int)] ++ wsX60)
def wsX6_drag : List Cond := .code yX6_drag cX6_drag 3 (some .int) :: ([.methodLink RX6 171 yX6_isCavity, .instanceMethod yX6_isCavity, .selects RX6 yX6_isCavity yX6_isCavity, .initialized RX6, .code yX6_isCavity cX6_isCavity 2 (some .boolean), .fieldLink RX6 70 "MouldShotsModel" "cavities" "I", .methodLink RX6 95 yX6_isIn, .static yX6_isIn, .code yX6_isIn cX6_isIn 3 (some .boolean), .methodLink RX6 174 yX6_becomes, .instanceMethod yX6_becomes, .selects RX6 yX6_becomes yX6_becomes, .code yX6_becomes cX6_becomes 4 (some .int), .fieldLink RX6 25 "MouldShotsModel" "now" "[I", .methodLink RX6 159 yX6_keeps, .instanceMethod yX6_keeps, .selects RX6 yX6_keeps yX6_keeps, .code yX6_keeps cX6_keeps 2 none, .fieldLink RX6 79 "MouldShotsModel" "changes" "I", .fieldLink RX6 28 "MouldShotsModel" "was" "[I"] ++ wsX60)
def wsX6_speed : List Cond := .code yX6_speed cX6_speed 3 (some .int) :: ([.fieldLink RX6 76 "MouldShotsModel" "stages" "I", .methodLink RX6 95 yX6_isIn, .static yX6_isIn, .initialized RX6, .code yX6_isIn cX6_isIn 3 (some .boolean), .methodLink RX6 174 yX6_becomes, .instanceMethod yX6_becomes, .selects RX6 yX6_becomes yX6_becomes, .code yX6_becomes cX6_becomes 4 (some .int), .fieldLink RX6 25 "MouldShotsModel" "now" "[I", .methodLink RX6 159 yX6_keeps, .instanceMethod yX6_keeps, .selects RX6 yX6_keeps yX6_keeps, .code yX6_keeps cX6_keeps 2 none, .fieldLink RX6 79 "MouldShotsModel" "changes" "I", .fieldLink RX6 28 "MouldShotsModel" "was" "[I"] ++ wsX60)
def wsX6_tell : List Cond := .code yX6_tell cX6_tell 3 (some .int) :: ([.methodLink RX6 95 yX6_isIn, .static yX6_isIn, .initialized RX6, .code yX6_isIn cX6_isIn 3 (some .boolean), .methodLink RX6 106 yX6_lowOf, .static yX6_lowOf, .code yX6_lowOf cX6_lowOf 1 (some .int), .methodLink RX6 109 yX6_highOf, .static yX6_highOf, .code yX6_highOf cX6_highOf 1 (some .int), .methodLink RX6 174 yX6_becomes, .instanceMethod yX6_becomes, .selects RX6 yX6_becomes yX6_becomes, .code yX6_becomes cX6_becomes 4 (some .int), .fieldLink RX6 25 "MouldShotsModel" "now" "[I", .methodLink RX6 159 yX6_keeps, .instanceMethod yX6_keeps, .selects RX6 yX6_keeps yX6_keeps, .code yX6_keeps cX6_keeps 2 none, .fieldLink RX6 79 "MouldShotsModel" "changes" "I", .fieldLink RX6 28 "MouldShotsModel" "was" "[I"] ++ wsX60)
def wsX6_isReady : List Cond := .code yX6_isReady cX6_isReady 1 (some .boolean) :: ([.fieldLink RX6 25 "MouldShotsModel" "now" "[I", .fieldLink RX6 73 "MouldShotsModel" "cores" "I"] ++ wsX60)
def wsX6_shoot_r1 : List Cond := [Cond.fieldLink RX6 25 "MouldShotsModel" "now" "[I", Cond.fieldLink RX6 31 "MouldShotsModel" "one" "[I", Cond.methodLink RX6 177 yX6_isReady, Cond.instanceMethod yX6_isReady, Cond.selects RX6 yX6_isReady yX6_isReady, Cond.initialized RX6, Cond.code yX6_isReady cX6_isReady 1 (some .boolean), Cond.fieldLink RX6 73 "MouldShotsModel" "cores" "I", Cond.methodLink RX6 159 yX6_keeps, Cond.instanceMethod yX6_keeps, Cond.selects RX6 yX6_keeps yX6_keeps, Cond.code yX6_keeps cX6_keeps 2 none, Cond.fieldLink RX6 79 "MouldShotsModel" "changes" "I", Cond.fieldLink RX6 28 "MouldShotsModel" "was" "[I", Cond.methodLink RX6 180 yX6_tries, Cond.instanceMethod yX6_tries, Cond.selects RX6 yX6_tries yX6_tries, Cond.code yX6_tries cX6_tries 8 none, Cond.fieldLink RX6 136 "MouldShotsModel" "screw" "I", Cond.fieldLink RX6 70 "MouldShotsModel" "cavities" "I", Cond.methodLink RX6 148 yX6_fills, Cond.instanceMethod yX6_fills, Cond.selects RX6 yX6_fills yX6_fills, Cond.code yX6_fills cX6_fills 8 (some .int)]
def wsX6_shoot_r2 : List Cond := [Cond.fieldLink RX6 13 "MouldShotsModel" "volume" "[I", Cond.methodLink RX6 139 yX6_speedAt, Cond.instanceMethod yX6_speedAt, Cond.selects RX6 yX6_speedAt yX6_speedAt, Cond.code yX6_speedAt cX6_speedAt 4 (some .int), Cond.fieldLink RX6 76 "MouldShotsModel" "stages" "I", Cond.fieldLink RX6 22 "MouldShotsModel" "place" "[I", Cond.methodLink RX6 142 yX6_easiest, Cond.instanceMethod yX6_easiest, Cond.selects RX6 yX6_easiest yX6_easiest, Cond.code yX6_easiest cX6_easiest 5 (some .int), Cond.methodLink RX6 145 yX6_comes, Cond.instanceMethod yX6_comes, Cond.selects RX6 yX6_comes yX6_comes, Cond.code yX6_comes cX6_comes 3 none, Cond.methodLink RX6 152 yX6_why, Cond.instanceMethod yX6_why, Cond.selects RX6 yX6_why yX6_why, Cond.code yX6_why cX6_why 3 (some .int), Cond.methodLink RX6 155 yX6_holds, Cond.instanceMethod yX6_holds, Cond.selects RX6 yX6_holds yX6_holds, Cond.code yX6_holds cX6_holds 4 none, Cond.fieldLink RX6 16 "MouldShotsModel" "freeze" "[I"]
def wsX6_shoot : List Cond := .code yX6_shoot cX6_shoot 2 (some .int) :: ((wsX6_shoot_r1 ++ wsX6_shoot_r2) ++ wsX60)
def wsX6_waitCool : List Cond := .code yX6_waitCool cX6_waitCool 1 (some .int) :: ([.fieldLink RX6 25 "MouldShotsModel" "now" "[I", .methodLink RX6 159 yX6_keeps, .instanceMethod yX6_keeps, .selects RX6 yX6_keeps yX6_keeps, .initialized RX6, .code yX6_keeps cX6_keeps 2 none, .fieldLink RX6 79 "MouldShotsModel" "changes" "I", .fieldLink RX6 28 "MouldShotsModel" "was" "[I"] ++ wsX60)
def wsX6_shortBy : List Cond := .code yX6_shortBy cX6_shortBy 4 (some .int) :: ([.fieldLink RX6 13 "MouldShotsModel" "volume" "[I", .fieldLink RX6 25 "MouldShotsModel" "now" "[I"] ++ wsX60)
def wsX6_overBy : List Cond := .code yX6_overBy cX6_overBy 4 (some .int) :: ([.fieldLink RX6 25 "MouldShotsModel" "now" "[I", .fieldLink RX6 13 "MouldShotsModel" "volume" "[I"] ++ wsX60)
def wsX6_isShort : List Cond := .code yX6_isShort cX6_isShort 4 (some .boolean) :: ([.fieldLink RX6 70 "MouldShotsModel" "cavities" "I", .methodLink RX6 183 yX6_shortBy, .instanceMethod yX6_shortBy, .selects RX6 yX6_shortBy yX6_shortBy, .initialized RX6, .code yX6_shortBy cX6_shortBy 4 (some .int), .fieldLink RX6 13 "MouldShotsModel" "volume" "[I", .fieldLink RX6 25 "MouldShotsModel" "now" "[I"] ++ wsX60)
def wsX6_teach_r1 : List Cond := [Cond.fieldLink RX6 25 "MouldShotsModel" "now" "[I", Cond.methodLink RX6 186 yX6_isShot, Cond.instanceMethod yX6_isShot, Cond.selects RX6 yX6_isShot yX6_isShot, Cond.initialized RX6, Cond.code yX6_isShot cX6_isShot 2 (some .boolean), Cond.methodLink RX6 95 yX6_isIn, Cond.static yX6_isIn, Cond.code yX6_isIn cX6_isIn 3 (some .boolean), Cond.methodLink RX6 189 yX6_isShort, Cond.instanceMethod yX6_isShort, Cond.selects RX6 yX6_isShort yX6_isShort, Cond.code yX6_isShort cX6_isShort 4 (some .boolean), Cond.fieldLink RX6 70 "MouldShotsModel" "cavities" "I", Cond.methodLink RX6 183 yX6_shortBy, Cond.instanceMethod yX6_shortBy, Cond.selects RX6 yX6_shortBy yX6_shortBy, Cond.code yX6_shortBy cX6_shortBy 4 (some .int), Cond.fieldLink RX6 13 "MouldShotsModel" "volume" "[I", Cond.methodLink RX6 159 yX6_keeps, Cond.instanceMethod yX6_keeps, Cond.selects RX6 yX6_keeps yX6_keeps, Cond.code yX6_keeps cX6_keeps 2 none, Cond.fieldLink RX6 79 "MouldShotsModel" "changes" "I"]
def wsX6_teach_r2 : List Cond := [Cond.fieldLink RX6 28 "MouldShotsModel" "was" "[I"]
def wsX6_teach : List Cond := .code yX6_teach cX6_teach 5 (some .int) :: ((wsX6_teach_r1 ++ wsX6_teach_r2) ++ wsX60)
def wsX6_forget : List Cond := .code yX6_forget cX6_forget 2 (some .int) :: ([.fieldLink RX6 25 "MouldShotsModel" "now" "[I", .methodLink RX6 159 yX6_keeps, .instanceMethod yX6_keeps, .selects RX6 yX6_keeps yX6_keeps, .initialized RX6, .code yX6_keeps cX6_keeps 2 none, .fieldLink RX6 79 "MouldShotsModel" "changes" "I", .fieldLink RX6 28 "MouldShotsModel" "was" "[I"] ++ wsX60)
def wsX6_wide : List Cond := .code yX6_wide cX6_wide 2 (some .int) :: ([.methodLink RX6 95 yX6_isIn, .static yX6_isIn, .initialized RX6, .code yX6_isIn cX6_isIn 3 (some .boolean), .methodLink RX6 174 yX6_becomes, .instanceMethod yX6_becomes, .selects RX6 yX6_becomes yX6_becomes, .code yX6_becomes cX6_becomes 4 (some .int), .fieldLink RX6 25 "MouldShotsModel" "now" "[I", .methodLink RX6 159 yX6_keeps, .instanceMethod yX6_keeps, .selects RX6 yX6_keeps yX6_keeps, .code yX6_keeps cX6_keeps 2 none, .fieldLink RX6 79 "MouldShotsModel" "changes" "I", .fieldLink RX6 28 "MouldShotsModel" "was" "[I"] ++ wsX60)
def wsX6_band : List Cond := .code yX6_band cX6_band 3 (some .int) :: ([.fieldLink RX6 25 "MouldShotsModel" "now" "[I", .methodLink RX6 95 yX6_isIn, .static yX6_isIn, .initialized RX6, .code yX6_isIn cX6_isIn 3 (some .boolean)] ++ wsX60)
def wsX6_amiss : List Cond := .code yX6_amiss cX6_amiss 5 (some .int) :: ([.fieldLink RX6 25 "MouldShotsModel" "now" "[I"] ++ wsX60)
def wsX6_isBad : List Cond := .code yX6_isBad cX6_isBad 4 (some .boolean) :: ([.fieldLink RX6 70 "MouldShotsModel" "cavities" "I", .fieldLink RX6 25 "MouldShotsModel" "now" "[I", .methodLink RX6 192 yX6_overBy, .instanceMethod yX6_overBy, .selects RX6 yX6_overBy yX6_overBy, .initialized RX6, .code yX6_overBy cX6_overBy 4 (some .int), .fieldLink RX6 13 "MouldShotsModel" "volume" "[I", .methodLink RX6 183 yX6_shortBy, .instanceMethod yX6_shortBy, .selects RX6 yX6_shortBy yX6_shortBy, .code yX6_shortBy cX6_shortBy 4 (some .int), .methodLink RX6 195 yX6_amiss, .instanceMethod yX6_amiss, .selects RX6 yX6_amiss yX6_amiss, .code yX6_amiss cX6_amiss 5 (some .int)] ++ wsX60)
def wsX6_shot_r1 : List Cond := [Cond.fieldLink RX6 25 "MouldShotsModel" "now" "[I", Cond.methodLink RX6 186 yX6_isShot, Cond.instanceMethod yX6_isShot, Cond.selects RX6 yX6_isShot yX6_isShot, Cond.initialized RX6, Cond.code yX6_isShot cX6_isShot 2 (some .boolean), Cond.methodLink RX6 95 yX6_isIn, Cond.static yX6_isIn, Cond.code yX6_isIn cX6_isIn 3 (some .boolean), Cond.methodLink RX6 198 yX6_told, Cond.static yX6_told, Cond.code yX6_told cX6_told 5 (some .int), Cond.methodLink RX6 202 yX6_isBad, Cond.instanceMethod yX6_isBad, Cond.selects RX6 yX6_isBad yX6_isBad, Cond.code yX6_isBad cX6_isBad 4 (some .boolean), Cond.fieldLink RX6 70 "MouldShotsModel" "cavities" "I", Cond.methodLink RX6 192 yX6_overBy, Cond.instanceMethod yX6_overBy, Cond.selects RX6 yX6_overBy yX6_overBy, Cond.code yX6_overBy cX6_overBy 4 (some .int), Cond.fieldLink RX6 13 "MouldShotsModel" "volume" "[I", Cond.methodLink RX6 183 yX6_shortBy, Cond.instanceMethod yX6_shortBy]
def wsX6_shot_r2 : List Cond := [Cond.selects RX6 yX6_shortBy yX6_shortBy, Cond.code yX6_shortBy cX6_shortBy 4 (some .int), Cond.methodLink RX6 195 yX6_amiss, Cond.instanceMethod yX6_amiss, Cond.selects RX6 yX6_amiss yX6_amiss, Cond.code yX6_amiss cX6_amiss 5 (some .int)]
def wsX6_shot : List Cond := .code yX6_shot cX6_shot 3 (some .int) :: ((wsX6_shot_r1 ++ wsX6_shot_r2) ++ wsX60)
def wsX6_curve : List Cond := .code yX6_curve cX6_curve 3 (some .int) :: ([.fieldLink RX6 25 "MouldShotsModel" "now" "[I", .methodLink RX6 186 yX6_isShot, .instanceMethod yX6_isShot, .selects RX6 yX6_isShot yX6_isShot, .initialized RX6, .code yX6_isShot cX6_isShot 2 (some .boolean), .methodLink RX6 95 yX6_isIn, .static yX6_isIn, .code yX6_isIn cX6_isIn 3 (some .boolean)] ++ wsX60)
def wsX6_cavity : List Cond := .code yX6_cavity cX6_cavity 3 (some .int) :: ([.fieldLink RX6 13 "MouldShotsModel" "volume" "[I", .fieldLink RX6 25 "MouldShotsModel" "now" "[I", .fieldLink RX6 16 "MouldShotsModel" "freeze" "[I", .methodLink RX6 171 yX6_isCavity, .instanceMethod yX6_isCavity, .selects RX6 yX6_isCavity yX6_isCavity, .initialized RX6, .code yX6_isCavity cX6_isCavity 2 (some .boolean), .fieldLink RX6 70 "MouldShotsModel" "cavities" "I", .methodLink RX6 95 yX6_isIn, .static yX6_isIn, .code yX6_isIn cX6_isIn 3 (some .boolean)] ++ wsX60)
def wsX6_filled : List Cond := .code yX6_filled cX6_filled 4 (some .int) :: ([.fieldLink RX6 25 "MouldShotsModel" "now" "[I", .methodLink RX6 186 yX6_isShot, .instanceMethod yX6_isShot, .selects RX6 yX6_isShot yX6_isShot, .initialized RX6, .code yX6_isShot cX6_isShot 2 (some .boolean), .methodLink RX6 95 yX6_isIn, .static yX6_isIn, .code yX6_isIn cX6_isIn 3 (some .boolean), .methodLink RX6 171 yX6_isCavity, .instanceMethod yX6_isCavity, .selects RX6 yX6_isCavity yX6_isCavity, .code yX6_isCavity cX6_isCavity 2 (some .boolean), .fieldLink RX6 70 "MouldShotsModel" "cavities" "I", .methodLink RX6 183 yX6_shortBy, .instanceMethod yX6_shortBy, .selects RX6 yX6_shortBy yX6_shortBy, .code yX6_shortBy cX6_shortBy 4 (some .int), .fieldLink RX6 13 "MouldShotsModel" "volume" "[I", .methodLink RX6 192 yX6_overBy, .instanceMethod yX6_overBy, .selects RX6 yX6_overBy yX6_overBy, .code yX6_overBy cX6_overBy 4 (some .int)] ++ wsX60)
def wsX6_tried_r1 : List Cond := [Cond.fieldLink RX6 31 "MouldShotsModel" "one" "[I", Cond.methodLink RX6 95 yX6_isIn, Cond.static yX6_isIn, Cond.initialized RX6, Cond.code yX6_isIn cX6_isIn 3 (some .boolean), Cond.methodLink RX6 180 yX6_tries, Cond.instanceMethod yX6_tries, Cond.selects RX6 yX6_tries yX6_tries, Cond.code yX6_tries cX6_tries 8 none, Cond.fieldLink RX6 136 "MouldShotsModel" "screw" "I", Cond.fieldLink RX6 25 "MouldShotsModel" "now" "[I", Cond.fieldLink RX6 70 "MouldShotsModel" "cavities" "I", Cond.methodLink RX6 148 yX6_fills, Cond.instanceMethod yX6_fills, Cond.selects RX6 yX6_fills yX6_fills, Cond.code yX6_fills cX6_fills 8 (some .int), Cond.fieldLink RX6 13 "MouldShotsModel" "volume" "[I", Cond.methodLink RX6 139 yX6_speedAt, Cond.instanceMethod yX6_speedAt, Cond.selects RX6 yX6_speedAt yX6_speedAt, Cond.code yX6_speedAt cX6_speedAt 4 (some .int), Cond.fieldLink RX6 76 "MouldShotsModel" "stages" "I", Cond.fieldLink RX6 22 "MouldShotsModel" "place" "[I", Cond.methodLink RX6 142 yX6_easiest]
def wsX6_tried_r2 : List Cond := [Cond.instanceMethod yX6_easiest, Cond.selects RX6 yX6_easiest yX6_easiest, Cond.code yX6_easiest cX6_easiest 5 (some .int), Cond.methodLink RX6 145 yX6_comes, Cond.instanceMethod yX6_comes, Cond.selects RX6 yX6_comes yX6_comes, Cond.code yX6_comes cX6_comes 3 none, Cond.methodLink RX6 152 yX6_why, Cond.instanceMethod yX6_why, Cond.selects RX6 yX6_why yX6_why, Cond.code yX6_why cX6_why 3 (some .int), Cond.methodLink RX6 155 yX6_holds, Cond.instanceMethod yX6_holds, Cond.selects RX6 yX6_holds yX6_holds, Cond.code yX6_holds cX6_holds 4 none, Cond.fieldLink RX6 16 "MouldShotsModel" "freeze" "[I", Cond.methodLink RX6 198 yX6_told, Cond.static yX6_told, Cond.code yX6_told cX6_told 5 (some .int)]
def wsX6_tried : List Cond := .code yX6_tried cX6_tried 3 (some .int) :: ((wsX6_tried_r1 ++ wsX6_tried_r2) ++ wsX60)
def wsX6_even_r1 : List Cond := [Cond.fieldLink RX6 31 "MouldShotsModel" "one" "[I", Cond.methodLink RX6 95 yX6_isIn, Cond.static yX6_isIn, Cond.initialized RX6, Cond.code yX6_isIn cX6_isIn 3 (some .boolean), Cond.methodLink RX6 180 yX6_tries, Cond.instanceMethod yX6_tries, Cond.selects RX6 yX6_tries yX6_tries, Cond.code yX6_tries cX6_tries 8 none, Cond.fieldLink RX6 136 "MouldShotsModel" "screw" "I", Cond.fieldLink RX6 25 "MouldShotsModel" "now" "[I", Cond.fieldLink RX6 70 "MouldShotsModel" "cavities" "I", Cond.methodLink RX6 148 yX6_fills, Cond.instanceMethod yX6_fills, Cond.selects RX6 yX6_fills yX6_fills, Cond.code yX6_fills cX6_fills 8 (some .int), Cond.fieldLink RX6 13 "MouldShotsModel" "volume" "[I", Cond.methodLink RX6 139 yX6_speedAt, Cond.instanceMethod yX6_speedAt, Cond.selects RX6 yX6_speedAt yX6_speedAt, Cond.code yX6_speedAt cX6_speedAt 4 (some .int), Cond.fieldLink RX6 76 "MouldShotsModel" "stages" "I", Cond.fieldLink RX6 22 "MouldShotsModel" "place" "[I", Cond.methodLink RX6 142 yX6_easiest]
def wsX6_even_r2 : List Cond := [Cond.instanceMethod yX6_easiest, Cond.selects RX6 yX6_easiest yX6_easiest, Cond.code yX6_easiest cX6_easiest 5 (some .int), Cond.methodLink RX6 145 yX6_comes, Cond.instanceMethod yX6_comes, Cond.selects RX6 yX6_comes yX6_comes, Cond.code yX6_comes cX6_comes 3 none, Cond.methodLink RX6 152 yX6_why, Cond.instanceMethod yX6_why, Cond.selects RX6 yX6_why yX6_why, Cond.code yX6_why cX6_why 3 (some .int), Cond.methodLink RX6 155 yX6_holds, Cond.instanceMethod yX6_holds, Cond.selects RX6 yX6_holds yX6_holds, Cond.code yX6_holds cX6_holds 4 none, Cond.fieldLink RX6 16 "MouldShotsModel" "freeze" "[I"]
def wsX6_even : List Cond := .code yX6_even cX6_even 6 (some .int) :: ((wsX6_even_r1 ++ wsX6_even_r2) ++ wsX60)
def wsX6_earlier : List Cond := .code yX6_earlier cX6_earlier 2 (some .int) :: ([.fieldLink RX6 19 "MouldShotsModel" "earlier" "[I", .methodLink RX6 162 yX6_isCore, .instanceMethod yX6_isCore, .selects RX6 yX6_isCore yX6_isCore, .initialized RX6, .code yX6_isCore cX6_isCore 2 (some .boolean), .fieldLink RX6 73 "MouldShotsModel" "cores" "I", .methodLink RX6 95 yX6_isIn, .static yX6_isIn, .code yX6_isIn cX6_isIn 3 (some .boolean)] ++ wsX60)
def wsX6_order : List Cond := .code yX6_order cX6_order 6 (some .int) :: ([.fieldLink RX6 73 "MouldShotsModel" "cores" "I", .fieldLink RX6 19 "MouldShotsModel" "earlier" "[I"] ++ wsX60)
def wsX6_count_r1 : List Cond := [Cond.fieldLink RX6 70 "MouldShotsModel" "cavities" "I", Cond.fieldLink RX6 73 "MouldShotsModel" "cores" "I", Cond.fieldLink RX6 76 "MouldShotsModel" "stages" "I", Cond.fieldLink RX6 25 "MouldShotsModel" "now" "[I", Cond.fieldLink RX6 79 "MouldShotsModel" "changes" "I", Cond.fieldLink RX6 82 "MouldShotsModel" "length" "I", Cond.methodLink RX6 168 yX6_bits, Cond.static yX6_bits, Cond.initialized RX6, Cond.code yX6_bits cX6_bits 3 (some .int), Cond.methodLink RX6 202 yX6_isBad, Cond.instanceMethod yX6_isBad, Cond.selects RX6 yX6_isBad yX6_isBad, Cond.code yX6_isBad cX6_isBad 4 (some .boolean), Cond.methodLink RX6 192 yX6_overBy, Cond.instanceMethod yX6_overBy, Cond.selects RX6 yX6_overBy yX6_overBy, Cond.code yX6_overBy cX6_overBy 4 (some .int), Cond.fieldLink RX6 13 "MouldShotsModel" "volume" "[I", Cond.methodLink RX6 183 yX6_shortBy, Cond.instanceMethod yX6_shortBy, Cond.selects RX6 yX6_shortBy yX6_shortBy, Cond.code yX6_shortBy cX6_shortBy 4 (some .int), Cond.methodLink RX6 195 yX6_amiss]
def wsX6_count_r2 : List Cond := [Cond.instanceMethod yX6_amiss, Cond.selects RX6 yX6_amiss yX6_amiss, Cond.code yX6_amiss cX6_amiss 5 (some .int), Cond.methodLink RX6 177 yX6_isReady, Cond.instanceMethod yX6_isReady, Cond.selects RX6 yX6_isReady yX6_isReady, Cond.code yX6_isReady cX6_isReady 1 (some .boolean)]
def wsX6_count : List Cond := .code yX6_count cX6_count 4 (some .int) :: ((wsX6_count_r1 ++ wsX6_count_r2) ++ wsX60)
def wsJ9_abs_0f7a4 : List Cond := .code yJ9_abs_0f7a4 cJ9_abs_0f7a4 1 (some .int) :: ([])
def wsJ9_max_7cf53 : List Cond := .code yJ9_max_7cf53 cJ9_max_7cf53 2 (some .int) :: ([])
def wsJ9_min_7cf53 : List Cond := .code yJ9_min_7cf53 cJ9_min_7cf53 2 (some .int) :: ([])
def wsL_law_r1 : List Cond := [Cond.classLink RL 7 RX5, Cond.instantiable RX5 9, Cond.initialized RX5, Cond.classLink RL 10 RX6, Cond.instantiable RX6 23, Cond.initialized RX6, Cond.methodLink RL 9 yX5_init, Cond.instanceMethod yX5_init, Cond.code yX5_init cX5_init 2 none, Cond.methodLink RX5 3 objectInit, Cond.instanceMethod objectInit, Cond.code objectInit ⟨#[0xb1]⟩ 1 none, Cond.classLink RX5 9 RX4, Cond.instantiable RX4 3, Cond.initialized RX4, Cond.fieldLink RX5 12 "MouldShots" "text" "LMouldShots$Text;", Cond.classLink RX5 16 RX1, Cond.instantiable RX1 10, Cond.initialized RX1, Cond.fieldLink RX5 19 "MouldShots" "plan" "LMouldShots$Plan;", Cond.fieldLink RX5 23 "MouldShots" "draft" "LMouldShots$Plan;", Cond.classLink RX5 26 RX3, Cond.fieldLink RX5 28 "MouldShots" "states" "[LMouldShots$State;", Cond.fieldLink RX5 32 "MouldShots" "at" "I"]
def wsL_law_r2 : List Cond := [Cond.fieldLink RX5 36 "MouldShots" "undoable" "I", Cond.instantiable RX3 10, Cond.initialized RX3, Cond.fieldLink RX5 40 "MouldShots" "now" "LMouldShots$State;", Cond.classLink RX5 44 RX2, Cond.fieldLink RX5 46 "MouldShots" "shots" "[LMouldShots$Shot;", Cond.instantiable RX2 9, Cond.initialized RX2, Cond.fieldLink RX5 51 "MouldShots" "trial" "LMouldShots$Shot;", Cond.instanceMethod yX4_init, Cond.code yX4_init cX4_init 1 none, Cond.methodLink RX4 3 objectInit, Cond.arrayClass .int, Cond.fieldLink RX4 9 "MouldShots$Text" "letters" "[I", Cond.fieldLink RX4 15 "MouldShots$Text" "numbers" "[I", Cond.fieldLink RX4 18 "MouldShots$Text" "length" "I", Cond.instanceMethod yX1_init, Cond.code yX1_init cX1_init 1 none, Cond.methodLink RX1 3 objectInit, Cond.fieldLink RX1 9 "MouldShots$Plan" "cavities" "I", Cond.fieldLink RX1 15 "MouldShots$Plan" "volumes" "[I", Cond.fieldLink RX1 19 "MouldShots$Plan" "drags" "[I", Cond.fieldLink RX1 22 "MouldShots$Plan" "freezes" "[I", Cond.fieldLink RX1 25 "MouldShots$Plan" "cores" "I"]
def wsL_law_r3 : List Cond := [Cond.fieldLink RX1 28 "MouldShots$Plan" "ahead" "[I", Cond.fieldLink RX1 31 "MouldShots$Plan" "stages" "I", Cond.fieldLink RX1 34 "MouldShots$Plan" "places" "[I", Cond.fieldLink RX1 37 "MouldShots$Plan" "speeds" "[I", Cond.fieldLink RX1 40 "MouldShots$Plan" "settings" "[I", Cond.instanceMethod yX3_init, Cond.code yX3_init cX3_init 1 none, Cond.methodLink RX3 3 objectInit, Cond.fieldLink RX3 9 "MouldShots$State" "drags" "[I", Cond.fieldLink RX3 15 "MouldShots$State" "speeds" "[I", Cond.fieldLink RX3 18 "MouldShots$State" "settings" "[I", Cond.fieldLink RX3 21 "MouldShots$State" "shut" "Z", Cond.fieldLink RX3 25 "MouldShots$State" "coresIn" "I", Cond.fieldLink RX3 29 "MouldShots$State" "loaded" "Z", Cond.fieldLink RX3 32 "MouldShots$State" "hot" "Z", Cond.fieldLink RX3 35 "MouldShots$State" "made" "I", Cond.fieldLink RX3 38 "MouldShots$State" "width" "I", Cond.classLink RX3 41 RX0, Cond.instantiable RX0 5, Cond.initialized RX0, Cond.fieldLink RX3 44 "MouldShots$State" "taught" "LMouldShots$Band;", Cond.instanceMethod yX0_init, Cond.code yX0_init cX0_init 1 none, Cond.methodLink RX0 3 objectInit]
def wsL_law_r4 : List Cond := [Cond.fieldLink RX0 9 "MouldShots$Band" "teachers" "I", Cond.fieldLink RX0 15 "MouldShots$Band" "shortest" "I", Cond.fieldLink RX0 18 "MouldShots$Band" "longest" "I", Cond.fieldLink RX0 21 "MouldShots$Band" "least" "[I", Cond.fieldLink RX0 25 "MouldShots$Band" "greatest" "[I", Cond.instanceMethod yX2_init, Cond.code yX2_init cX2_init 1 none, Cond.methodLink RX2 3 objectInit, Cond.fieldLink RX2 9 "MouldShots$Shot" "has" "[I", Cond.fieldLink RX2 15 "MouldShots$Shot" "firstAt" "[I", Cond.fieldLink RX2 18 "MouldShots$Shot" "fullAt" "[I", Cond.fieldLink RX2 21 "MouldShots$Shot" "pressures" "[I", Cond.fieldLink RX2 24 "MouldShots$Shot" "place" "I", Cond.fieldLink RX2 28 "MouldShots$Shot" "fillTicks" "I", Cond.fieldLink RX2 31 "MouldShots$Shot" "ticks" "I", Cond.fieldLink RX2 34 "MouldShots$Shot" "coolTicks" "I", Cond.fieldLink RX2 37 "MouldShots$Shot" "why" "I", Cond.methodLink RX5 57 yJ0_length_8abf5, Cond.instanceMethod yJ0_length_8abf5, Cond.selects RJ0 yJ0_length_8abf5 yJ0_length_8abf5, Cond.initialized RJ0, Cond.code yJ0_length_8abf5 cJ0_length_8abf5 1 (some .int), Cond.fieldLink RJ0 9 "java/lang/String" "value" "[B", Cond.methodLink RJ0 335 yJ0_coder_7d493]
def wsL_law_r5 : List Cond := [Cond.instanceMethod yJ0_coder_7d493, Cond.selects RJ0 yJ0_coder_7d493 yJ0_coder_7d493, Cond.code yJ0_coder_7d493 cJ0_coder_7d493 1 (some .byte), Cond.fieldLink RJ0 38 "java/lang/String" "COMPACT_STRINGS" "Z", Cond.fieldLink RJ0 15 "java/lang/String" "coder" "B", Cond.methodLink RX5 63 yJ0_charAt_5068e, Cond.instanceMethod yJ0_charAt_5068e, Cond.selects RJ0 yJ0_charAt_5068e yJ0_charAt_5068e, Cond.code yJ0_charAt_5068e cJ0_charAt_5068e 2 (some .char), Cond.methodLink RJ0 492 yJ0_isLatin1_aae02, Cond.instanceMethod yJ0_isLatin1_aae02, Cond.selects RJ0 yJ0_isLatin1_aae02 yJ0_isLatin1_aae02, Cond.code yJ0_isLatin1_aae02 cJ0_isLatin1_aae02 1 (some .boolean), Cond.methodLink RJ0 495 yJ1_charAt_3b067, Cond.static yJ1_charAt_3b067, Cond.initialized RJ1, Cond.code yJ1_charAt_3b067 cJ1_charAt_3b067 2 (some .char), Cond.methodLink RJ1 9 yJ0_checkIndex_df160, Cond.static yJ0_checkIndex_df160, Cond.code yJ0_checkIndex_df160 cJ0_checkIndex_df160 2 none, Cond.fieldLink RJ0 1053 "jdk/internal/util/Preconditions" "SIOOBE_FORMATTER" "Ljava/util/function/BiFunction;", Cond.methodLink RJ0 1059 yJ3_checkIndex_8e157, Cond.static yJ3_checkIndex_8e157, Cond.initialized RJ3]
def wsL_law_r6 : List Cond := [Cond.code yJ3_checkIndex_8e157 cJ3_checkIndex_8e157 3 (some .int), Cond.methodLink RJ0 498 yJ2_charAt_3b067, Cond.static yJ2_charAt_3b067, Cond.initialized RJ2, Cond.code yJ2_charAt_3b067 cJ2_charAt_3b067 2 (some .char), Cond.methodLink RJ2 67 yJ2_checkIndex_2214a, Cond.static yJ2_checkIndex_2214a, Cond.code yJ2_checkIndex_2214a cJ2_checkIndex_2214a 2 none, Cond.methodLink RJ2 48 yJ2_length_9d52b, Cond.static yJ2_length_9d52b, Cond.code yJ2_length_9d52b cJ2_length_9d52b 1 (some .int), Cond.methodLink RJ2 414 yJ0_checkIndex_df160, Cond.methodLink RJ2 71 yJ2_getChar_3b067, Cond.static yJ2_getChar_3b067, Cond.code yJ2_getChar_3b067 cJ2_getChar_3b067 2 (some .char), Cond.fieldLink RJ2 44 "java/lang/StringUTF16" "$assertionsDisabled" "Z", Cond.fieldLink RJ2 59 "java/lang/StringUTF16" "HI_BYTE_SHIFT" "I", Cond.fieldLink RJ2 63 "java/lang/StringUTF16" "LO_BYTE_SHIFT" "I", Cond.instanceMethod yX4_append, Cond.selects RX4 yX4_append yX4_append, Cond.code yX4_append cX4_append 2 (some .boolean), Cond.instanceMethod yX4_readInto, Cond.selects RX4 yX4_readInto yX4_readInto, Cond.code yX4_readInto cX4_readInto 4 (some .int)]
def wsL_law_r7 : List Cond := [Cond.instanceMethod yX1_clear, Cond.selects RX1 yX1_clear yX1_clear, Cond.code yX1_clear cX1_clear 1 none, Cond.methodLink RX1 46 arraycopyName, Cond.native arraycopyName, Cond.static arraycopyName, Cond.initialized "java/lang/System", Cond.methodLink RX4 27 yX4_readItem, Cond.instanceMethod yX4_readItem, Cond.selects RX4 yX4_readItem yX4_readItem, Cond.code yX4_readItem cX4_readItem 5 (some .boolean), Cond.methodLink RX4 31 yX4_readNumbers, Cond.instanceMethod yX4_readNumbers, Cond.selects RX4 yX4_readNumbers yX4_readNumbers, Cond.code yX4_readNumbers cX4_readNumbers 8 (some .int), Cond.instanceMethod yX1_addCavity, Cond.selects RX1 yX1_addCavity yX1_addCavity, Cond.code yX1_addCavity cX1_addCavity 4 (some .boolean), Cond.instanceMethod yX1_addCore, Cond.selects RX1 yX1_addCore yX1_addCore, Cond.code yX1_addCore cX1_addCore 2 (some .boolean), Cond.instanceMethod yX1_addStage, Cond.selects RX1 yX1_addStage yX1_addStage, Cond.code yX1_addStage cX1_addStage 4 (some .boolean)]
def wsL_law_r8 : List Cond := [Cond.instanceMethod yX1_setThree, Cond.selects RX1 yX1_setThree yX1_setThree, Cond.code yX1_setThree cX1_setThree 4 (some .boolean), Cond.methodLink RX5 75 yX5_takeDraft, Cond.instanceMethod yX5_takeDraft, Cond.selects RX5 yX5_takeDraft yX5_takeDraft, Cond.code yX5_takeDraft cX5_takeDraft 2 none, Cond.instanceMethod yX3_startWith, Cond.selects RX3 yX3_startWith yX3_startWith, Cond.code yX3_startWith cX3_startWith 2 none, Cond.methodLink RX3 51 arraycopyName, Cond.instanceMethod yX0_clear, Cond.selects RX0 yX0_clear yX0_clear, Cond.code yX0_clear cX0_clear 1 none, Cond.instanceMethod yX4_clear, Cond.selects RX4 yX4_clear yX4_clear, Cond.code yX4_clear cX4_clear 1 none, Cond.methodLink RL 12 yX6_init, Cond.instanceMethod yX6_init, Cond.code yX6_init cX6_init 1 none, Cond.methodLink RX6 1 objectInit, Cond.fieldLink RX6 7 "MouldShotsModel" "text" "[I", Cond.fieldLink RX6 13 "MouldShotsModel" "volume" "[I", Cond.fieldLink RX6 16 "MouldShotsModel" "freeze" "[I"]
def wsL_law_r9 : List Cond := [Cond.fieldLink RX6 19 "MouldShotsModel" "earlier" "[I", Cond.fieldLink RX6 22 "MouldShotsModel" "place" "[I", Cond.fieldLink RX6 25 "MouldShotsModel" "now" "[I", Cond.fieldLink RX6 28 "MouldShotsModel" "was" "[I", Cond.fieldLink RX6 31 "MouldShotsModel" "one" "[I", Cond.fieldLink RX6 34 "MouldShotsModel" "readCavity" "[I", Cond.fieldLink RX6 37 "MouldShotsModel" "readCore" "[I", Cond.fieldLink RX6 40 "MouldShotsModel" "readStage" "[I", Cond.fieldLink RX6 43 "MouldShotsModel" "readRule" "[I", Cond.fieldLink RX6 53 "MouldShotsModel" "readCores" "I", Cond.methodLink RX6 46 yX6_clears, Cond.instanceMethod yX6_clears, Cond.selects RX6 yX6_clears yX6_clears, Cond.code yX6_clears cX6_clears 1 none, Cond.fieldLink RX6 64 "MouldShotsModel" "readCavities" "I", Cond.fieldLink RX6 67 "MouldShotsModel" "readStages" "I", Cond.methodLink RX6 49 yX6_cavityOf, Cond.instanceMethod yX6_cavityOf, Cond.selects RX6 yX6_cavityOf yX6_cavityOf, Cond.code yX6_cavityOf cX6_cavityOf 4 none, Cond.methodLink RX6 57 yX6_stageOf, Cond.instanceMethod yX6_stageOf, Cond.selects RX6 yX6_stageOf yX6_stageOf, Cond.code yX6_stageOf cX6_stageOf 3 none]
def wsL_law_r10 : List Cond := [Cond.methodLink RX6 61 yX6_takes, Cond.instanceMethod yX6_takes, Cond.selects RX6 yX6_takes yX6_takes, Cond.code yX6_takes cX6_takes 2 none, Cond.fieldLink RX6 70 "MouldShotsModel" "cavities" "I", Cond.fieldLink RX6 73 "MouldShotsModel" "cores" "I", Cond.fieldLink RX6 76 "MouldShotsModel" "stages" "I", Cond.fieldLink RX6 79 "MouldShotsModel" "changes" "I", Cond.methodLink RL 13 yX5_write, Cond.instanceMethod yX5_write, Cond.selects RX5 yX5_write yX5_write, Cond.code yX5_write cX5_write 2 (some .int), Cond.methodLink RL 17 yX6_write, Cond.instanceMethod yX6_write, Cond.selects RX6 yX6_write yX6_write, Cond.code yX6_write cX6_write 2 (some .int), Cond.fieldLink RX6 82 "MouldShotsModel" "length" "I", Cond.methodLink RL 18 yX5_wipe, Cond.instanceMethod yX5_wipe, Cond.selects RX5 yX5_wipe yX5_wipe, Cond.code yX5_wipe cX5_wipe 2 (some .int), Cond.methodLink RL 22 yX6_wipe, Cond.instanceMethod yX6_wipe, Cond.selects RX6 yX6_wipe yX6_wipe]
def wsL_law_r11 : List Cond := [Cond.code yX6_wipe cX6_wipe 2 (some .int), Cond.methodLink RL 23 yX5_fault, Cond.instanceMethod yX5_fault, Cond.selects RX5 yX5_fault yX5_fault, Cond.code yX5_fault cX5_fault 1 (some .int), Cond.methodLink RL 26 yX6_fault, Cond.instanceMethod yX6_fault, Cond.selects RX6 yX6_fault yX6_fault, Cond.code yX6_fault cX6_fault 1 (some .int), Cond.methodLink RX6 128 yX6_reads, Cond.instanceMethod yX6_reads, Cond.selects RX6 yX6_reads yX6_reads, Cond.code yX6_reads cX6_reads 2 (some .int), Cond.fieldLink RX6 88 "MouldShotsModel" "ends" "I", Cond.methodLink RX6 125 yX6_readsItem, Cond.instanceMethod yX6_readsItem, Cond.selects RX6 yX6_readsItem yX6_readsItem, Cond.code yX6_readsItem cX6_readsItem 3 (some .boolean), Cond.methodLink RX6 112 yX6_readsCavity, Cond.instanceMethod yX6_readsCavity, Cond.selects RX6 yX6_readsCavity yX6_readsCavity, Cond.code yX6_readsCavity cX6_readsCavity 5 (some .boolean), Cond.fieldLink RX6 85 "MouldShotsModel" "value" "I", Cond.methodLink RX6 99 yX6_number]
def wsL_law_r12 : List Cond := [Cond.instanceMethod yX6_number, Cond.selects RX6 yX6_number yX6_number, Cond.code yX6_number cX6_number 4 (some .boolean), Cond.methodLink RX6 91 yX6_letterAt, Cond.instanceMethod yX6_letterAt, Cond.selects RX6 yX6_letterAt yX6_letterAt, Cond.code yX6_letterAt cX6_letterAt 2 (some .int), Cond.methodLink RX6 95 yX6_isIn, Cond.static yX6_isIn, Cond.code yX6_isIn cX6_isIn 3 (some .boolean), Cond.methodLink RX6 102 yX6_more, Cond.instanceMethod yX6_more, Cond.selects RX6 yX6_more yX6_more, Cond.code yX6_more cX6_more 3 (some .boolean), Cond.methodLink RX6 116 yX6_readsCore, Cond.instanceMethod yX6_readsCore, Cond.selects RX6 yX6_readsCore yX6_readsCore, Cond.code yX6_readsCore cX6_readsCore 3 (some .boolean), Cond.methodLink RX6 119 yX6_readsStage, Cond.instanceMethod yX6_readsStage, Cond.selects RX6 yX6_readsStage yX6_readsStage, Cond.code yX6_readsStage cX6_readsStage 5 (some .boolean), Cond.methodLink RX6 122 yX6_readsRules, Cond.instanceMethod yX6_readsRules]
def wsL_law_r13 : List Cond := [Cond.selects RX6 yX6_readsRules yX6_readsRules, Cond.code yX6_readsRules cX6_readsRules 5 (some .boolean), Cond.methodLink RX6 106 yX6_lowOf, Cond.static yX6_lowOf, Cond.code yX6_lowOf cX6_lowOf 1 (some .int), Cond.methodLink RX6 109 yX6_highOf, Cond.static yX6_highOf, Cond.code yX6_highOf cX6_highOf 1 (some .int), Cond.methodLink RL 27 yX5_lay, Cond.instanceMethod yX5_lay, Cond.selects RX5 yX5_lay yX5_lay, Cond.code yX5_lay cX5_lay 1 (some .int), Cond.instanceMethod yX1_canBeLaid, Cond.selects RX1 yX1_canBeLaid yX1_canBeLaid, Cond.code yX1_canBeLaid cX1_canBeLaid 2 (some .boolean), Cond.methodLink RX1 58 yX1_chainEnds, Cond.instanceMethod yX1_chainEnds, Cond.selects RX1 yX1_chainEnds yX1_chainEnds, Cond.code yX1_chainEnds cX1_chainEnds 4 (some .boolean), Cond.methodLink RL 30 yX6_lay, Cond.instanceMethod yX6_lay, Cond.selects RX6 yX6_lay yX6_lay, Cond.code yX6_lay cX6_lay 1 (some .int), Cond.methodLink RX6 132 yX6_areCores]
def wsL_law_r14 : List Cond := [Cond.instanceMethod yX6_areCores, Cond.selects RX6 yX6_areCores yX6_areCores, Cond.code yX6_areCores cX6_areCores 4 (some .boolean), Cond.methodLink RL 31 yX5_mould, Cond.instanceMethod yX5_mould, Cond.selects RX5 yX5_mould yX5_mould, Cond.code yX5_mould cX5_mould 2 (some .int), Cond.methodLink RX5 94 yX5_isFlag, Cond.static yX5_isFlag, Cond.code yX5_isFlag cX5_isFlag 1 (some .boolean), Cond.methodLink RX5 97 yX5_shutMould, Cond.instanceMethod yX5_shutMould, Cond.selects RX5 yX5_shutMould yX5_shutMould, Cond.code yX5_shutMould cX5_shutMould 1 (some .int), Cond.methodLink RX5 107 yX5_startChange, Cond.instanceMethod yX5_startChange, Cond.selects RX5 yX5_startChange yX5_startChange, Cond.code yX5_startChange cX5_startChange 1 none, Cond.methodLink RX5 196 Lib.Math.min.name, Cond.static Lib.Math.min.name, Cond.initialized "java/lang/Math", Cond.code Lib.Math.min.name Lib.Math.min.code 2 (some .int), Cond.instanceMethod yX3_copyFrom, Cond.selects RX3 yX3_copyFrom yX3_copyFrom]
def wsL_law_r15 : List Cond := [Cond.code yX3_copyFrom cX3_copyFrom 2 none, Cond.instanceMethod yX0_copyFrom, Cond.selects RX0 yX0_copyFrom yX0_copyFrom, Cond.code yX0_copyFrom cX0_copyFrom 2 none, Cond.methodLink RX0 28 arraycopyName, Cond.methodLink RX5 100 yX5_openMould, Cond.instanceMethod yX5_openMould, Cond.selects RX5 yX5_openMould yX5_openMould, Cond.code yX5_openMould cX5_openMould 2 (some .int), Cond.methodLink RL 34 yX6_mould, Cond.instanceMethod yX6_mould, Cond.selects RX6 yX6_mould yX6_mould, Cond.code yX6_mould cX6_mould 3 (some .int), Cond.methodLink RX6 159 yX6_keeps, Cond.instanceMethod yX6_keeps, Cond.selects RX6 yX6_keeps yX6_keeps, Cond.code yX6_keeps cX6_keeps 2 none, Cond.methodLink RL 35 yX5_core, Cond.instanceMethod yX5_core, Cond.selects RX5 yX5_core yX5_core, Cond.code yX5_core cX5_core 3 (some .int), Cond.methodLink RX5 119 yX5_isCore, Cond.instanceMethod yX5_isCore, Cond.selects RX5 yX5_isCore yX5_isCore]
def wsL_law_r16 : List Cond := [Cond.code yX5_isCore cX5_isCore 2 (some .boolean), Cond.methodLink RX5 122 yX5_barrier, Cond.instanceMethod yX5_barrier, Cond.selects RX5 yX5_barrier yX5_barrier, Cond.code yX5_barrier cX5_barrier 5 (some .int), Cond.instanceMethod yX3_isIn, Cond.selects RX3 yX3_isIn yX3_isIn, Cond.code yX3_isIn cX3_isIn 2 (some .boolean), Cond.methodLink RX5 135 yX5_outAheadOf, Cond.instanceMethod yX5_outAheadOf, Cond.selects RX5 yX5_outAheadOf yX5_outAheadOf, Cond.code yX5_outAheadOf cX5_outAheadOf 3 (some .int), Cond.methodLink RX5 138 yX5_inBehind, Cond.instanceMethod yX5_inBehind, Cond.selects RX5 yX5_inBehind yX5_inBehind, Cond.code yX5_inBehind cX5_inBehind 3 (some .int), Cond.methodLink RX5 126 yJ6_bitCount_0f7a4, Cond.static yJ6_bitCount_0f7a4, Cond.initialized RJ6, Cond.code yJ6_bitCount_0f7a4 cJ6_bitCount_0f7a4 1 (some .int), Cond.constant RJ6 265 (1431655765), Cond.constant RJ6 266 (858993459), Cond.constant RJ6 267 (252645135), Cond.methodLink RL 39 yX6_core]
def wsL_law_r17 : List Cond := [Cond.instanceMethod yX6_core, Cond.selects RX6 yX6_core yX6_core, Cond.code yX6_core cX6_core 3 (some .int), Cond.methodLink RX6 162 yX6_isCore, Cond.instanceMethod yX6_isCore, Cond.selects RX6 yX6_isCore yX6_isCore, Cond.code yX6_isCore cX6_isCore 2 (some .boolean), Cond.methodLink RX6 165 yX6_against1, Cond.instanceMethod yX6_against1, Cond.selects RX6 yX6_against1 yX6_against1, Cond.code yX6_against1 cX6_against1 4 (some .int), Cond.methodLink RX6 168 yX6_bits, Cond.static yX6_bits, Cond.code yX6_bits cX6_bits 3 (some .int), Cond.methodLink RL 40 yX5_against, Cond.instanceMethod yX5_against, Cond.selects RX5 yX5_against yX5_against, Cond.code yX5_against cX5_against 3 (some .int), Cond.methodLink RL 43 yX6_against, Cond.instanceMethod yX6_against, Cond.selects RX6 yX6_against yX6_against, Cond.code yX6_against cX6_against 3 (some .int), Cond.methodLink RL 44 yX5_drag, Cond.instanceMethod yX5_drag]
def wsL_law_r18 : List Cond := [Cond.selects RX5 yX5_drag yX5_drag, Cond.code yX5_drag cX5_drag 4 (some .int), Cond.methodLink RX5 148 yX5_isCavity, Cond.instanceMethod yX5_isCavity, Cond.selects RX5 yX5_isCavity yX5_isCavity, Cond.code yX5_isCavity cX5_isCavity 2 (some .boolean), Cond.methodLink RL 47 yX6_drag, Cond.instanceMethod yX6_drag, Cond.selects RX6 yX6_drag yX6_drag, Cond.code yX6_drag cX6_drag 3 (some .int), Cond.methodLink RX6 171 yX6_isCavity, Cond.instanceMethod yX6_isCavity, Cond.selects RX6 yX6_isCavity yX6_isCavity, Cond.code yX6_isCavity cX6_isCavity 2 (some .boolean), Cond.methodLink RX6 174 yX6_becomes, Cond.instanceMethod yX6_becomes, Cond.selects RX6 yX6_becomes yX6_becomes, Cond.code yX6_becomes cX6_becomes 4 (some .int), Cond.methodLink RL 48 yX5_speed, Cond.instanceMethod yX5_speed, Cond.selects RX5 yX5_speed yX5_speed, Cond.code yX5_speed cX5_speed 4 (some .int), Cond.methodLink RL 51 yX6_speed, Cond.instanceMethod yX6_speed]
def wsL_law_r19 : List Cond := [Cond.selects RX6 yX6_speed yX6_speed, Cond.code yX6_speed cX6_speed 3 (some .int), Cond.methodLink RL 52 yX5_tell, Cond.instanceMethod yX5_tell, Cond.selects RX5 yX5_tell yX5_tell, Cond.code yX5_tell cX5_tell 4 (some .int), Cond.fieldLink RX5 160 "MouldShots" "LEAST_SETTING" "[I", Cond.fieldLink RX5 163 "MouldShots" "MOST_SETTING" "[I", Cond.methodLink RL 55 yX6_tell, Cond.instanceMethod yX6_tell, Cond.selects RX6 yX6_tell yX6_tell, Cond.code yX6_tell cX6_tell 3 (some .int), Cond.methodLink RL 56 yX5_shoot, Cond.instanceMethod yX5_shoot, Cond.selects RX5 yX5_shoot yX5_shoot, Cond.code yX5_shoot cX5_shoot 2 (some .int), Cond.methodLink RX5 169 yX5_isReady, Cond.instanceMethod yX5_isReady, Cond.selects RX5 yX5_isReady yX5_isReady, Cond.code yX5_isReady cX5_isReady 1 (some .boolean), Cond.instanceMethod yX2_make, Cond.selects RX2 yX2_make yX2_make, Cond.code yX2_make cX2_make 4 none, Cond.methodLink RX2 40 yX2_clear]
def wsL_law_r20 : List Cond := [Cond.instanceMethod yX2_clear, Cond.selects RX2 yX2_clear yX2_clear, Cond.code yX2_clear cX2_clear 2 none, Cond.methodLink RX2 43 yX2_fill, Cond.instanceMethod yX2_fill, Cond.selects RX2 yX2_fill yX2_fill, Cond.code yX2_fill cX2_fill 8 none, Cond.methodLink RX2 60 Lib.Math.min.name, Cond.methodLink RX2 70 Lib.Math.max.name, Cond.static Lib.Math.max.name, Cond.code Lib.Math.max.name Lib.Math.max.code 2 (some .int), Cond.methodLink RX2 56 yX2_speedHere, Cond.instanceMethod yX2_speedHere, Cond.selects RX2 yX2_speedHere yX2_speedHere, Cond.code yX2_speedHere cX2_speedHere 6 (some .int), Cond.methodLink RX2 66 yX2_push, Cond.instanceMethod yX2_push, Cond.selects RX2 yX2_push yX2_push, Cond.code yX2_push cX2_push 5 (some .int), Cond.methodLink RX2 88 yX2_easiest, Cond.instanceMethod yX2_easiest, Cond.selects RX2 yX2_easiest yX2_easiest, Cond.code yX2_easiest cX2_easiest 8 (some .int), Cond.methodLink RX2 95 yX2_addMelt]
def wsL_law_r21 : List Cond := [Cond.instanceMethod yX2_addMelt, Cond.selects RX2 yX2_addMelt yX2_addMelt, Cond.code yX2_addMelt cX2_addMelt 3 none, Cond.methodLink RX2 73 yX2_whySwitch, Cond.instanceMethod yX2_whySwitch, Cond.selects RX2 yX2_whySwitch yX2_whySwitch, Cond.code yX2_whySwitch cX2_whySwitch 2 (some .int), Cond.methodLink RX2 47 yX2_hold, Cond.instanceMethod yX2_hold, Cond.selects RX2 yX2_hold yX2_hold, Cond.code yX2_hold cX2_hold 8 none, Cond.methodLink RX2 105 yX2_isFrozen, Cond.instanceMethod yX2_isFrozen, Cond.selects RX2 yX2_isFrozen yX2_isFrozen, Cond.code yX2_isFrozen cX2_isFrozen 3 (some .boolean), Cond.instanceMethod yX2_whole, Cond.selects RX2 yX2_whole yX2_whole, Cond.code yX2_whole cX2_whole 1 (some .int), Cond.methodLink RL 59 yX6_shoot, Cond.instanceMethod yX6_shoot, Cond.selects RX6 yX6_shoot yX6_shoot, Cond.code yX6_shoot cX6_shoot 2 (some .int), Cond.methodLink RX6 177 yX6_isReady, Cond.instanceMethod yX6_isReady]
def wsL_law_r22 : List Cond := [Cond.selects RX6 yX6_isReady yX6_isReady, Cond.code yX6_isReady cX6_isReady 1 (some .boolean), Cond.methodLink RX6 180 yX6_tries, Cond.instanceMethod yX6_tries, Cond.selects RX6 yX6_tries yX6_tries, Cond.code yX6_tries cX6_tries 8 none, Cond.fieldLink RX6 136 "MouldShotsModel" "screw" "I", Cond.methodLink RX6 148 yX6_fills, Cond.instanceMethod yX6_fills, Cond.selects RX6 yX6_fills yX6_fills, Cond.code yX6_fills cX6_fills 8 (some .int), Cond.methodLink RX6 139 yX6_speedAt, Cond.instanceMethod yX6_speedAt, Cond.selects RX6 yX6_speedAt yX6_speedAt, Cond.code yX6_speedAt cX6_speedAt 4 (some .int), Cond.methodLink RX6 142 yX6_easiest, Cond.instanceMethod yX6_easiest, Cond.selects RX6 yX6_easiest yX6_easiest, Cond.code yX6_easiest cX6_easiest 5 (some .int), Cond.methodLink RX6 145 yX6_comes, Cond.instanceMethod yX6_comes, Cond.selects RX6 yX6_comes yX6_comes, Cond.code yX6_comes cX6_comes 3 none, Cond.methodLink RX6 152 yX6_why]
def wsL_law_r23 : List Cond := [Cond.instanceMethod yX6_why, Cond.selects RX6 yX6_why yX6_why, Cond.code yX6_why cX6_why 3 (some .int), Cond.methodLink RX6 155 yX6_holds, Cond.instanceMethod yX6_holds, Cond.selects RX6 yX6_holds yX6_holds, Cond.code yX6_holds cX6_holds 4 none, Cond.methodLink RL 60 yX5_waitCool, Cond.instanceMethod yX5_waitCool, Cond.selects RX5 yX5_waitCool yX5_waitCool, Cond.code yX5_waitCool cX5_waitCool 1 (some .int), Cond.methodLink RX5 182 yX5_keptShots, Cond.instanceMethod yX5_keptShots, Cond.selects RX5 yX5_keptShots yX5_keptShots, Cond.code yX5_keptShots cX5_keptShots 1 (some .int), Cond.methodLink RX5 185 yX5_keptShot, Cond.instanceMethod yX5_keptShot, Cond.selects RX5 yX5_keptShot yX5_keptShot, Cond.code yX5_keptShot cX5_keptShot 2 (some (.object "MouldShots$Shot")), Cond.methodLink RX5 291 yJ9_floorMod_7cf53, Cond.static yJ9_floorMod_7cf53, Cond.initialized RJ9, Cond.code yJ9_floorMod_7cf53 cJ9_floorMod_7cf53 3 (some .int), Cond.methodLink RL 63 yX6_waitCool]
def wsL_law_r24 : List Cond := [Cond.instanceMethod yX6_waitCool, Cond.selects RX6 yX6_waitCool yX6_waitCool, Cond.code yX6_waitCool cX6_waitCool 1 (some .int), Cond.methodLink RL 64 yX5_undo, Cond.instanceMethod yX5_undo, Cond.selects RX5 yX5_undo yX5_undo, Cond.code yX5_undo cX5_undo 1 (some .int), Cond.methodLink RL 67 yX6_undo, Cond.instanceMethod yX6_undo, Cond.selects RX6 yX6_undo yX6_undo, Cond.code yX6_undo cX6_undo 2 (some .int), Cond.methodLink RL 68 yX5_teach, Cond.instanceMethod yX5_teach, Cond.selects RX5 yX5_teach yX5_teach, Cond.code yX5_teach cX5_teach 3 (some .int), Cond.methodLink RX5 201 yX5_isShot, Cond.instanceMethod yX5_isShot, Cond.selects RX5 yX5_isShot yX5_isShot, Cond.code yX5_isShot cX5_isShot 2 (some .boolean), Cond.instanceMethod yX2_isShort, Cond.selects RX2 yX2_isShort yX2_isShort, Cond.code yX2_isShort cX2_isShort 3 (some .boolean), Cond.instanceMethod yX0_learn, Cond.selects RX0 yX0_learn yX0_learn]
def wsL_law_r25 : List Cond := [Cond.code yX0_learn cX0_learn 5 none, Cond.methodLink RX0 39 Lib.Math.min.name, Cond.methodLink RX0 45 Lib.Math.max.name, Cond.methodLink RL 71 yX6_teach, Cond.instanceMethod yX6_teach, Cond.selects RX6 yX6_teach yX6_teach, Cond.code yX6_teach cX6_teach 5 (some .int), Cond.methodLink RX6 186 yX6_isShot, Cond.instanceMethod yX6_isShot, Cond.selects RX6 yX6_isShot yX6_isShot, Cond.code yX6_isShot cX6_isShot 2 (some .boolean), Cond.methodLink RX6 189 yX6_isShort, Cond.instanceMethod yX6_isShort, Cond.selects RX6 yX6_isShort yX6_isShort, Cond.code yX6_isShort cX6_isShort 4 (some .boolean), Cond.methodLink RX6 183 yX6_shortBy, Cond.instanceMethod yX6_shortBy, Cond.selects RX6 yX6_shortBy yX6_shortBy, Cond.code yX6_shortBy cX6_shortBy 4 (some .int), Cond.methodLink RL 72 yX5_forget, Cond.instanceMethod yX5_forget, Cond.selects RX5 yX5_forget yX5_forget, Cond.code yX5_forget cX5_forget 2 (some .int), Cond.methodLink RL 75 yX6_forget]
def wsL_law_r26 : List Cond := [Cond.instanceMethod yX6_forget, Cond.selects RX6 yX6_forget yX6_forget, Cond.code yX6_forget cX6_forget 2 (some .int), Cond.methodLink RL 76 yX5_wide, Cond.instanceMethod yX5_wide, Cond.selects RX5 yX5_wide yX5_wide, Cond.code yX5_wide cX5_wide 3 (some .int), Cond.methodLink RL 79 yX6_wide, Cond.instanceMethod yX6_wide, Cond.selects RX6 yX6_wide yX6_wide, Cond.code yX6_wide cX6_wide 2 (some .int), Cond.methodLink RL 80 yX5_band, Cond.instanceMethod yX5_band, Cond.selects RX5 yX5_band yX5_band, Cond.code yX5_band cX5_band 3 (some .int), Cond.methodLink RX5 225 yX5_isTick, Cond.static yX5_isTick, Cond.code yX5_isTick cX5_isTick 1 (some .boolean), Cond.methodLink RL 83 yX6_band, Cond.instanceMethod yX6_band, Cond.selects RX6 yX6_band yX6_band, Cond.code yX6_band cX6_band 3 (some .int), Cond.methodLink RL 84 yX5_shot, Cond.instanceMethod yX5_shot]
def wsL_law_r27 : List Cond := [Cond.selects RX5 yX5_shot yX5_shot, Cond.code yX5_shot cX5_shot 4 (some .int), Cond.instanceMethod yX0_amissIn, Cond.selects RX0 yX0_amissIn yX0_amissIn, Cond.code yX0_amissIn cX0_amissIn 6 (some .int), Cond.methodLink RX5 241 yX5_isBad, Cond.instanceMethod yX5_isBad, Cond.selects RX5 yX5_isBad yX5_isBad, Cond.code yX5_isBad cX5_isBad 2 (some .boolean), Cond.instanceMethod yX2_isFarOff, Cond.selects RX2 yX2_isFarOff yX2_isFarOff, Cond.code yX2_isFarOff cX2_isFarOff 3 (some .boolean), Cond.methodLink RX2 122 Lib.Math.abs.name, Cond.static Lib.Math.abs.name, Cond.code Lib.Math.abs.name Lib.Math.abs.code 1 (some .int), Cond.instanceMethod yX0_rejects, Cond.selects RX0 yX0_rejects yX0_rejects, Cond.code yX0_rejects cX0_rejects 3 (some .boolean), Cond.methodLink RX0 51 yX0_amissIn, Cond.instanceMethod yX2_told, Cond.selects RX2 yX2_told yX2_told, Cond.code yX2_told cX2_told 2 (some .int), Cond.methodLink RX2 112 yX2_balance, Cond.instanceMethod yX2_balance]
def wsL_law_r28 : List Cond := [Cond.selects RX2 yX2_balance yX2_balance, Cond.code yX2_balance cX2_balance 4 (some .int), Cond.methodLink RX2 116 yX2_whole, Cond.methodLink RX2 119 yX2_greatestPressure, Cond.instanceMethod yX2_greatestPressure, Cond.selects RX2 yX2_greatestPressure yX2_greatestPressure, Cond.code yX2_greatestPressure cX2_greatestPressure 3 (some .int), Cond.methodLink RL 87 yX6_shot, Cond.instanceMethod yX6_shot, Cond.selects RX6 yX6_shot yX6_shot, Cond.code yX6_shot cX6_shot 3 (some .int), Cond.methodLink RX6 198 yX6_told, Cond.static yX6_told, Cond.code yX6_told cX6_told 5 (some .int), Cond.methodLink RX6 202 yX6_isBad, Cond.instanceMethod yX6_isBad, Cond.selects RX6 yX6_isBad yX6_isBad, Cond.code yX6_isBad cX6_isBad 4 (some .boolean), Cond.methodLink RX6 192 yX6_overBy, Cond.instanceMethod yX6_overBy, Cond.selects RX6 yX6_overBy yX6_overBy, Cond.code yX6_overBy cX6_overBy 4 (some .int), Cond.methodLink RX6 195 yX6_amiss, Cond.instanceMethod yX6_amiss]
def wsL_law_r29 : List Cond := [Cond.selects RX6 yX6_amiss yX6_amiss, Cond.code yX6_amiss cX6_amiss 5 (some .int), Cond.methodLink RL 88 yX5_curve, Cond.instanceMethod yX5_curve, Cond.selects RX5 yX5_curve yX5_curve, Cond.code yX5_curve cX5_curve 4 (some .int), Cond.methodLink RL 91 yX6_curve, Cond.instanceMethod yX6_curve, Cond.selects RX6 yX6_curve yX6_curve, Cond.code yX6_curve cX6_curve 3 (some .int), Cond.methodLink RL 92 yX5_cavity, Cond.instanceMethod yX5_cavity, Cond.selects RX5 yX5_cavity yX5_cavity, Cond.code yX5_cavity cX5_cavity 3 (some .int), Cond.methodLink RL 95 yX6_cavity, Cond.instanceMethod yX6_cavity, Cond.selects RX6 yX6_cavity yX6_cavity, Cond.code yX6_cavity cX6_cavity 3 (some .int), Cond.methodLink RL 96 yX5_filled, Cond.instanceMethod yX5_filled, Cond.selects RX5 yX5_filled yX5_filled, Cond.code yX5_filled cX5_filled 7 (some .int), Cond.methodLink RX5 270 Lib.Math.max.name, Cond.methodLink RL 100 yX6_filled]
def wsL_law_r30 : List Cond := [Cond.instanceMethod yX6_filled, Cond.selects RX6 yX6_filled yX6_filled, Cond.code yX6_filled cX6_filled 4 (some .int), Cond.methodLink RL 101 yX5_tried, Cond.instanceMethod yX5_tried, Cond.selects RX5 yX5_tried yX5_tried, Cond.code yX5_tried cX5_tried 3 (some .int), Cond.methodLink RL 104 yX6_tried, Cond.instanceMethod yX6_tried, Cond.selects RX6 yX6_tried yX6_tried, Cond.code yX6_tried cX6_tried 3 (some .int), Cond.methodLink RL 105 yX5_even, Cond.instanceMethod yX5_even, Cond.selects RX5 yX5_even yX5_even, Cond.code yX5_even cX5_even 7 (some .int), Cond.methodLink RX5 279 yX5_balanceWith, Cond.instanceMethod yX5_balanceWith, Cond.selects RX5 yX5_balanceWith yX5_balanceWith, Cond.code yX5_balanceWith cX5_balanceWith 2 (some .int), Cond.methodLink RL 108 yX6_even, Cond.instanceMethod yX6_even, Cond.selects RX6 yX6_even yX6_even, Cond.code yX6_even cX6_even 6 (some .int), Cond.methodLink RL 109 yX5_earlier]
def wsL_law_r31 : List Cond := [Cond.instanceMethod yX5_earlier, Cond.selects RX5 yX5_earlier yX5_earlier, Cond.code yX5_earlier cX5_earlier 2 (some .int), Cond.methodLink RL 112 yX6_earlier, Cond.instanceMethod yX6_earlier, Cond.selects RX6 yX6_earlier yX6_earlier, Cond.code yX6_earlier cX6_earlier 2 (some .int), Cond.methodLink RL 113 yX5_order, Cond.instanceMethod yX5_order, Cond.selects RX5 yX5_order yX5_order, Cond.code yX5_order cX5_order 2 (some .int), Cond.instanceMethod yX1_coreInTurn, Cond.selects RX1 yX1_coreInTurn yX1_coreInTurn, Cond.code yX1_coreInTurn cX1_coreInTurn 5 (some .int), Cond.methodLink RX1 62 yX1_nextIn, Cond.instanceMethod yX1_nextIn, Cond.selects RX1 yX1_nextIn yX1_nextIn, Cond.code yX1_nextIn cX1_nextIn 4 (some .int), Cond.methodLink RL 116 yX6_order, Cond.instanceMethod yX6_order, Cond.selects RX6 yX6_order yX6_order, Cond.code yX6_order cX6_order 6 (some .int), Cond.methodLink RL 117 yX5_count, Cond.instanceMethod yX5_count]
def wsL_law_r32 : List Cond := [Cond.selects RX5 yX5_count yX5_count, Cond.code yX5_count cX5_count 2 (some .int), Cond.methodLink RX5 288 yX5_badShots, Cond.instanceMethod yX5_badShots, Cond.selects RX5 yX5_badShots yX5_badShots, Cond.code yX5_badShots cX5_badShots 3 (some .int), Cond.methodLink RL 120 yX6_count, Cond.instanceMethod yX6_count, Cond.selects RX6 yX6_count yX6_count, Cond.code yX6_count cX6_count 4 (some .int)]
def wsL_law : List Cond := (wsL_law_r1 ++ (wsL_law_r2 ++ (wsL_law_r3 ++ (wsL_law_r4 ++ (wsL_law_r5 ++ (wsL_law_r6 ++ (wsL_law_r7 ++ (wsL_law_r8 ++ (wsL_law_r9 ++ (wsL_law_r10 ++ (wsL_law_r11 ++ (wsL_law_r12 ++ (wsL_law_r13 ++ (wsL_law_r14 ++ (wsL_law_r15 ++ (wsL_law_r16 ++ (wsL_law_r17 ++ (wsL_law_r18 ++ (wsL_law_r19 ++ (wsL_law_r20 ++ (wsL_law_r21 ++ (wsL_law_r22 ++ (wsL_law_r23 ++ (wsL_law_r24 ++ (wsL_law_r25 ++ (wsL_law_r26 ++ (wsL_law_r27 ++ (wsL_law_r28 ++ (wsL_law_r29 ++ (wsL_law_r30 ++ (wsL_law_r31 ++ wsL_law_r32))))))))))))))))))))))))))))))) ++ wsX50 ++ wsX60 ++ wsX40 ++ wsX10 ++ wsX30 ++ wsX20 ++ wsX00 ++ ([] : List Cond)
set_option maxRecDepth 20000 in
theorem wsL_law_in : ∀ w ∈ wsL_law, w ∈ lw_tbl := fun w h => (goodIn_p wsL_law [106, 109, 114, 132, 184, 190, 261, 303, 307, 313, 317, 320, 323, 328, 331, 334, 337, 341, 351, 355, 359, 368, 372, 376, 380, 384, 388, 396, 400, 405, 409, 746, 751, 755, 759, 763, 442, 837, 446, 841, 450, 845, 849, 853, 857, 861, 865, 868, 872, 876, 880, 884, 887, 890, 454, 458, 462, 894, 898, 466, 469, 473, 477, 489, 481, 485, 493, 906, 910, 497, 501, 505, 509, 513, 517, 520, 926, 918, 922, 929, 527, 914, 531, 535, 933, 937, 941, 539, 945, 543, 949, 549, 553, 557, 561, 565, 573, 569, 577, 581, 585, 589, 593, 597, 601, 953, 957, 961, 965, 969, 973, 977, 981, 985, 605, 609, 613, 616, 989, 620, 902, 624, 628, 632, 636, 993, 997, 1001, 1005, 642, 1009, 647, 1013, 651, 654, 1017, 658, 662, 666, 670, 673, 677, 682, 686, 691, 1021, 1024, 1028, 1032, 1036, 695, 1040, 699, 1044, 703, 1048, 708, 1052, 712, 716, 1056, 721, 1060, 725, 729, 733, 1064, 737, 741, 1068] (by decide +kernel) (by decide +kernel) w h).1
theorem inlX0 : ∀ w ∈ wsX00, w ∈ wsL_law := fun _ h => List.mem_append_left _ (List.mem_append_right _ h)
theorem inX0 : ∀ w ∈ wsX00, w ∈ lw_tbl := fun w h => wsL_law_in w (inlX0 w h)
theorem inlX1 : ∀ w ∈ wsX10, w ∈ wsL_law := fun _ h => List.mem_append_left _ (List.mem_append_left _ (List.mem_append_left _ (List.mem_append_left _ (List.mem_append_right _ h))))
theorem inX1 : ∀ w ∈ wsX10, w ∈ lw_tbl := fun w h => wsL_law_in w (inlX1 w h)
theorem inlX2 : ∀ w ∈ wsX20, w ∈ wsL_law := fun _ h => List.mem_append_left _ (List.mem_append_left _ (List.mem_append_right _ h))
theorem inX2 : ∀ w ∈ wsX20, w ∈ lw_tbl := fun w h => wsL_law_in w (inlX2 w h)
theorem inlX3 : ∀ w ∈ wsX30, w ∈ wsL_law := fun _ h => List.mem_append_left _ (List.mem_append_left _ (List.mem_append_left _ (List.mem_append_right _ h)))
theorem inX3 : ∀ w ∈ wsX30, w ∈ lw_tbl := fun w h => wsL_law_in w (inlX3 w h)
theorem inlX4 : ∀ w ∈ wsX40, w ∈ wsL_law := fun _ h => List.mem_append_left _ (List.mem_append_left _ (List.mem_append_left _ (List.mem_append_left _ (List.mem_append_left _ (List.mem_append_right _ h)))))
theorem inX4 : ∀ w ∈ wsX40, w ∈ lw_tbl := fun w h => wsL_law_in w (inlX4 w h)
theorem inlX5 : ∀ w ∈ wsX50, w ∈ wsL_law := fun _ h => List.mem_append_left _ (List.mem_append_left _ (List.mem_append_left _ (List.mem_append_left _ (List.mem_append_left _ (List.mem_append_left _ (List.mem_append_left _ (List.mem_append_right _ h)))))))
theorem inX5 : ∀ w ∈ wsX50, w ∈ lw_tbl := fun w h => wsL_law_in w (inlX5 w h)
theorem inlX6 : ∀ w ∈ wsX60, w ∈ wsL_law := fun _ h => List.mem_append_left _ (List.mem_append_left _ (List.mem_append_left _ (List.mem_append_left _ (List.mem_append_left _ (List.mem_append_left _ (List.mem_append_right _ h))))))
theorem inX6 : ∀ w ∈ wsX60, w ∈ lw_tbl := fun w h => wsL_law_in w (inlX6 w h)
theorem inJ6 : ∀ w ∈ wsJ60, w ∈ lw_tbl := by decide +kernel
theorem inJ9 : ∀ w ∈ wsJ90, w ∈ lw_tbl := by decide +kernel
theorem inJ0 : ∀ w ∈ wsJ00, w ∈ lw_tbl := by decide +kernel
theorem inJ1 : ∀ w ∈ wsJ10, w ∈ lw_tbl := by decide +kernel
theorem inJ2 : ∀ w ∈ wsJ20, w ∈ lw_tbl := by decide +kernel
theorem inJ10 : ∀ w ∈ wsJ100, w ∈ lw_tbl := by decide +kernel
theorem inJ3 : ∀ w ∈ wsJ30, w ∈ lw_tbl := by decide +kernel
theorem dX0_init_0 : decode cX0_init 0 = .ok (.aload_n 0, 1) := by decide +kernel
theorem dX0_init_1 : decode cX0_init 1 = .ok (.invokespecial 3, 3) := by decide +kernel
theorem dX0_init_4 : decode cX0_init 4 = .ok (.aload_n 0, 1) := by decide +kernel
theorem dX0_init_5 : decode cX0_init 5 = .ok (.iconst 0, 1) := by decide +kernel
theorem dX0_init_6 : decode cX0_init 6 = .ok (.putfield 9, 3) := by decide +kernel
theorem dX0_init_9 : decode cX0_init 9 = .ok (.aload_n 0, 1) := by decide +kernel
theorem dX0_init_10 : decode cX0_init 10 = .ok (.iconst 0, 1) := by decide +kernel
theorem dX0_init_11 : decode cX0_init 11 = .ok (.putfield 15, 3) := by decide +kernel
theorem dX0_init_14 : decode cX0_init 14 = .ok (.aload_n 0, 1) := by decide +kernel
theorem dX0_init_15 : decode cX0_init 15 = .ok (.iconst 0, 1) := by decide +kernel
theorem dX0_init_16 : decode cX0_init 16 = .ok (.putfield 18, 3) := by decide +kernel
theorem dX0_init_19 : decode cX0_init 19 = .ok (.aload_n 0, 1) := by decide +kernel
theorem dX0_init_20 : decode cX0_init 20 = .ok (.bipush 60, 2) := by decide +kernel
theorem dX0_init_22 : decode cX0_init 22 = .ok (.newarray .int, 2) := by decide +kernel
theorem dX0_init_24 : decode cX0_init 24 = .ok (.putfield 21, 3) := by decide +kernel
theorem dX0_init_27 : decode cX0_init 27 = .ok (.aload_n 0, 1) := by decide +kernel
theorem dX0_init_28 : decode cX0_init 28 = .ok (.bipush 60, 2) := by decide +kernel
theorem dX0_init_30 : decode cX0_init 30 = .ok (.newarray .int, 2) := by decide +kernel
theorem dX0_init_32 : decode cX0_init 32 = .ok (.putfield 25, 3) := by decide +kernel
theorem dX0_init_35 : decode cX0_init 35 = .ok (.return_, 1) := by decide +kernel
theorem dX0_clear_0 : decode cX0_clear 0 = .ok (.aload_n 0, 1) := by decide +kernel
theorem dX0_clear_1 : decode cX0_clear 1 = .ok (.iconst 0, 1) := by decide +kernel
theorem dX0_clear_2 : decode cX0_clear 2 = .ok (.putfield 9, 3) := by decide +kernel
theorem dX0_clear_5 : decode cX0_clear 5 = .ok (.aload_n 0, 1) := by decide +kernel
theorem dX0_clear_6 : decode cX0_clear 6 = .ok (.iconst 0, 1) := by decide +kernel
theorem dX0_clear_7 : decode cX0_clear 7 = .ok (.putfield 15, 3) := by decide +kernel
theorem dX0_clear_10 : decode cX0_clear 10 = .ok (.aload_n 0, 1) := by decide +kernel
theorem dX0_clear_11 : decode cX0_clear 11 = .ok (.iconst 0, 1) := by decide +kernel
theorem dX0_clear_12 : decode cX0_clear 12 = .ok (.putfield 18, 3) := by decide +kernel
theorem dX0_clear_15 : decode cX0_clear 15 = .ok (.return_, 1) := by decide +kernel
theorem dX0_copyFrom_0 : decode cX0_copyFrom 0 = .ok (.aload_n 0, 1) := by decide +kernel
theorem dX0_copyFrom_1 : decode cX0_copyFrom 1 = .ok (.aload_n 1, 1) := by decide +kernel
theorem dX0_copyFrom_2 : decode cX0_copyFrom 2 = .ok (.getfield 9, 3) := by decide +kernel
theorem dX0_copyFrom_5 : decode cX0_copyFrom 5 = .ok (.putfield 9, 3) := by decide +kernel
theorem dX0_copyFrom_8 : decode cX0_copyFrom 8 = .ok (.aload_n 0, 1) := by decide +kernel
theorem dX0_copyFrom_9 : decode cX0_copyFrom 9 = .ok (.aload_n 1, 1) := by decide +kernel
theorem dX0_copyFrom_10 : decode cX0_copyFrom 10 = .ok (.getfield 15, 3) := by decide +kernel
theorem dX0_copyFrom_13 : decode cX0_copyFrom 13 = .ok (.putfield 15, 3) := by decide +kernel
theorem dX0_copyFrom_16 : decode cX0_copyFrom 16 = .ok (.aload_n 0, 1) := by decide +kernel
theorem dX0_copyFrom_17 : decode cX0_copyFrom 17 = .ok (.aload_n 1, 1) := by decide +kernel
theorem dX0_copyFrom_18 : decode cX0_copyFrom 18 = .ok (.getfield 18, 3) := by decide +kernel
theorem dX0_copyFrom_21 : decode cX0_copyFrom 21 = .ok (.putfield 18, 3) := by decide +kernel
theorem dX0_copyFrom_24 : decode cX0_copyFrom 24 = .ok (.aload_n 1, 1) := by decide +kernel
theorem dX0_copyFrom_25 : decode cX0_copyFrom 25 = .ok (.getfield 21, 3) := by decide +kernel
theorem dX0_copyFrom_28 : decode cX0_copyFrom 28 = .ok (.iconst 0, 1) := by decide +kernel
theorem dX0_copyFrom_29 : decode cX0_copyFrom 29 = .ok (.aload_n 0, 1) := by decide +kernel
theorem dX0_copyFrom_30 : decode cX0_copyFrom 30 = .ok (.getfield 21, 3) := by decide +kernel
theorem dX0_copyFrom_33 : decode cX0_copyFrom 33 = .ok (.iconst 0, 1) := by decide +kernel
theorem dX0_copyFrom_34 : decode cX0_copyFrom 34 = .ok (.bipush 60, 2) := by decide +kernel
theorem dX0_copyFrom_36 : decode cX0_copyFrom 36 = .ok (.invokestatic 28, 3) := by decide +kernel
theorem dX0_copyFrom_39 : decode cX0_copyFrom 39 = .ok (.aload_n 1, 1) := by decide +kernel
theorem dX0_copyFrom_40 : decode cX0_copyFrom 40 = .ok (.getfield 25, 3) := by decide +kernel
theorem dX0_copyFrom_43 : decode cX0_copyFrom 43 = .ok (.iconst 0, 1) := by decide +kernel
theorem dX0_copyFrom_44 : decode cX0_copyFrom 44 = .ok (.aload_n 0, 1) := by decide +kernel
theorem dX0_copyFrom_45 : decode cX0_copyFrom 45 = .ok (.getfield 25, 3) := by decide +kernel
theorem dX0_copyFrom_48 : decode cX0_copyFrom 48 = .ok (.iconst 0, 1) := by decide +kernel
theorem dX0_copyFrom_49 : decode cX0_copyFrom 49 = .ok (.bipush 60, 2) := by decide +kernel
theorem dX0_copyFrom_51 : decode cX0_copyFrom 51 = .ok (.invokestatic 28, 3) := by decide +kernel
theorem dX0_copyFrom_54 : decode cX0_copyFrom 54 = .ok (.return_, 1) := by decide +kernel
theorem dX0_learn_0 : decode cX0_learn 0 = .ok (.aload_n 0, 1) := by decide +kernel
theorem dX0_learn_1 : decode cX0_learn 1 = .ok (.getfield 9, 3) := by decide +kernel
theorem dX0_learn_4 : decode cX0_learn 4 = .ok (.ifCond .ne 7, 3) := by decide +kernel
theorem dX0_learn_7 : decode cX0_learn 7 = .ok (.iconst 1, 1) := by decide +kernel
theorem dX0_learn_8 : decode cX0_learn 8 = .ok (.goto 4, 3) := by decide +kernel
theorem dX0_learn_11 : decode cX0_learn 11 = .ok (.iconst 0, 1) := by decide +kernel
theorem dX0_learn_12 : decode cX0_learn 12 = .ok (.istore_n 2, 1) := by decide +kernel
theorem dX0_learn_13 : decode cX0_learn 13 = .ok (.iconst 0, 1) := by decide +kernel
theorem dX0_learn_14 : decode cX0_learn 14 = .ok (.istore_n 3, 1) := by decide +kernel
theorem dX0_learn_15 : decode cX0_learn 15 = .ok (.iload_n 3, 1) := by decide +kernel
theorem dX0_learn_16 : decode cX0_learn 16 = .ok (.bipush 60, 2) := by decide +kernel
theorem dX0_learn_18 : decode cX0_learn 18 = .ok (.if_icmp .ge 69, 3) := by decide +kernel
theorem dX0_learn_21 : decode cX0_learn 21 = .ok (.aload_n 1, 1) := by decide +kernel
theorem dX0_learn_22 : decode cX0_learn 22 = .ok (.getfield 34, 3) := by decide +kernel
theorem dX0_learn_25 : decode cX0_learn 25 = .ok (.iload_n 3, 1) := by decide +kernel
theorem dX0_learn_26 : decode cX0_learn 26 = .ok (.iaload, 1) := by decide +kernel
theorem dX0_learn_27 : decode cX0_learn 27 = .ok (.istore 4, 2) := by decide +kernel
theorem dX0_learn_29 : decode cX0_learn 29 = .ok (.aload_n 0, 1) := by decide +kernel
theorem dX0_learn_30 : decode cX0_learn 30 = .ok (.getfield 21, 3) := by decide +kernel
theorem dX0_learn_33 : decode cX0_learn 33 = .ok (.iload_n 3, 1) := by decide +kernel
theorem dX0_learn_34 : decode cX0_learn 34 = .ok (.iload_n 2, 1) := by decide +kernel
theorem dX0_learn_35 : decode cX0_learn 35 = .ok (.ifCond .eq 8, 3) := by decide +kernel
theorem dX0_learn_38 : decode cX0_learn 38 = .ok (.iload 4, 2) := by decide +kernel
theorem dX0_learn_40 : decode cX0_learn 40 = .ok (.goto 14, 3) := by decide +kernel
theorem dX0_learn_43 : decode cX0_learn 43 = .ok (.aload_n 0, 1) := by decide +kernel
theorem dX0_learn_44 : decode cX0_learn 44 = .ok (.getfield 21, 3) := by decide +kernel
theorem dX0_learn_47 : decode cX0_learn 47 = .ok (.iload_n 3, 1) := by decide +kernel
theorem dX0_learn_48 : decode cX0_learn 48 = .ok (.iaload, 1) := by decide +kernel
theorem dX0_learn_49 : decode cX0_learn 49 = .ok (.iload 4, 2) := by decide +kernel
theorem dX0_learn_51 : decode cX0_learn 51 = .ok (.invokestatic 39, 3) := by decide +kernel
theorem dX0_learn_54 : decode cX0_learn 54 = .ok (.iastore, 1) := by decide +kernel
theorem dX0_learn_55 : decode cX0_learn 55 = .ok (.aload_n 0, 1) := by decide +kernel
theorem dX0_learn_56 : decode cX0_learn 56 = .ok (.getfield 25, 3) := by decide +kernel
theorem dX0_learn_59 : decode cX0_learn 59 = .ok (.iload_n 3, 1) := by decide +kernel
theorem dX0_learn_60 : decode cX0_learn 60 = .ok (.iload_n 2, 1) := by decide +kernel
theorem dX0_learn_61 : decode cX0_learn 61 = .ok (.ifCond .eq 8, 3) := by decide +kernel
theorem dX0_learn_64 : decode cX0_learn 64 = .ok (.iload 4, 2) := by decide +kernel
theorem dX0_learn_66 : decode cX0_learn 66 = .ok (.goto 14, 3) := by decide +kernel
theorem dX0_learn_69 : decode cX0_learn 69 = .ok (.aload_n 0, 1) := by decide +kernel
theorem dX0_learn_70 : decode cX0_learn 70 = .ok (.getfield 25, 3) := by decide +kernel
theorem dX0_learn_73 : decode cX0_learn 73 = .ok (.iload_n 3, 1) := by decide +kernel
theorem dX0_learn_74 : decode cX0_learn 74 = .ok (.iaload, 1) := by decide +kernel
theorem dX0_learn_75 : decode cX0_learn 75 = .ok (.iload 4, 2) := by decide +kernel
theorem dX0_learn_77 : decode cX0_learn 77 = .ok (.invokestatic 45, 3) := by decide +kernel
theorem dX0_learn_80 : decode cX0_learn 80 = .ok (.iastore, 1) := by decide +kernel
theorem dX0_learn_81 : decode cX0_learn 81 = .ok (.iinc 3 1, 3) := by decide +kernel
theorem dX0_learn_84 : decode cX0_learn 84 = .ok (.goto (-69), 3) := by decide +kernel
theorem dX0_learn_87 : decode cX0_learn 87 = .ok (.aload_n 0, 1) := by decide +kernel
theorem dX0_learn_88 : decode cX0_learn 88 = .ok (.iload_n 2, 1) := by decide +kernel
theorem dX0_learn_89 : decode cX0_learn 89 = .ok (.ifCond .eq 10, 3) := by decide +kernel
theorem dX0_learn_92 : decode cX0_learn 92 = .ok (.aload_n 1, 1) := by decide +kernel
theorem dX0_learn_93 : decode cX0_learn 93 = .ok (.getfield 48, 3) := by decide +kernel
theorem dX0_learn_96 : decode cX0_learn 96 = .ok (.goto 14, 3) := by decide +kernel
theorem dX0_learn_99 : decode cX0_learn 99 = .ok (.aload_n 0, 1) := by decide +kernel
theorem dX0_learn_100 : decode cX0_learn 100 = .ok (.getfield 15, 3) := by decide +kernel
theorem dX0_learn_103 : decode cX0_learn 103 = .ok (.aload_n 1, 1) := by decide +kernel
theorem dX0_learn_104 : decode cX0_learn 104 = .ok (.getfield 48, 3) := by decide +kernel
theorem dX0_learn_107 : decode cX0_learn 107 = .ok (.invokestatic 39, 3) := by decide +kernel
theorem dX0_learn_110 : decode cX0_learn 110 = .ok (.putfield 15, 3) := by decide +kernel
theorem dX0_learn_113 : decode cX0_learn 113 = .ok (.aload_n 0, 1) := by decide +kernel
theorem dX0_learn_114 : decode cX0_learn 114 = .ok (.aload_n 0, 1) := by decide +kernel
theorem dX0_learn_115 : decode cX0_learn 115 = .ok (.getfield 18, 3) := by decide +kernel
theorem dX0_learn_118 : decode cX0_learn 118 = .ok (.aload_n 1, 1) := by decide +kernel
theorem dX0_learn_119 : decode cX0_learn 119 = .ok (.getfield 48, 3) := by decide +kernel
theorem dX0_learn_122 : decode cX0_learn 122 = .ok (.invokestatic 45, 3) := by decide +kernel
theorem dX0_learn_125 : decode cX0_learn 125 = .ok (.putfield 18, 3) := by decide +kernel
theorem dX0_learn_128 : decode cX0_learn 128 = .ok (.aload_n 0, 1) := by decide +kernel
theorem dX0_learn_129 : decode cX0_learn 129 = .ok (.dup, 1) := by decide +kernel
theorem dX0_learn_130 : decode cX0_learn 130 = .ok (.getfield 9, 3) := by decide +kernel
theorem dX0_learn_133 : decode cX0_learn 133 = .ok (.iconst 1, 1) := by decide +kernel
theorem dX0_learn_134 : decode cX0_learn 134 = .ok (.iadd, 1) := by decide +kernel
theorem dX0_learn_135 : decode cX0_learn 135 = .ok (.putfield 9, 3) := by decide +kernel
theorem dX0_learn_138 : decode cX0_learn 138 = .ok (.return_, 1) := by decide +kernel
theorem dX0_amissIn_0 : decode cX0_amissIn 0 = .ok (.iconst 0, 1) := by decide +kernel
theorem dX0_amissIn_1 : decode cX0_amissIn 1 = .ok (.istore_n 3, 1) := by decide +kernel
theorem dX0_amissIn_2 : decode cX0_amissIn 2 = .ok (.iconst 0, 1) := by decide +kernel
theorem dX0_amissIn_3 : decode cX0_amissIn 3 = .ok (.istore 4, 2) := by decide +kernel
theorem dX0_amissIn_5 : decode cX0_amissIn 5 = .ok (.iload 4, 2) := by decide +kernel
theorem dX0_amissIn_7 : decode cX0_amissIn 7 = .ok (.bipush 60, 2) := by decide +kernel
theorem dX0_amissIn_9 : decode cX0_amissIn 9 = .ok (.if_icmp .ge 49, 3) := by decide +kernel
theorem dX0_amissIn_12 : decode cX0_amissIn 12 = .ok (.aload_n 1, 1) := by decide +kernel
theorem dX0_amissIn_13 : decode cX0_amissIn 13 = .ok (.getfield 34, 3) := by decide +kernel
theorem dX0_amissIn_16 : decode cX0_amissIn 16 = .ok (.iload 4, 2) := by decide +kernel
theorem dX0_amissIn_18 : decode cX0_amissIn 18 = .ok (.iaload, 1) := by decide +kernel
theorem dX0_amissIn_19 : decode cX0_amissIn 19 = .ok (.istore 5, 2) := by decide +kernel
theorem dX0_amissIn_21 : decode cX0_amissIn 21 = .ok (.iload 5, 2) := by decide +kernel
theorem dX0_amissIn_23 : decode cX0_amissIn 23 = .ok (.aload_n 0, 1) := by decide +kernel
theorem dX0_amissIn_24 : decode cX0_amissIn 24 = .ok (.getfield 21, 3) := by decide +kernel
theorem dX0_amissIn_27 : decode cX0_amissIn 27 = .ok (.iload 4, 2) := by decide +kernel
theorem dX0_amissIn_29 : decode cX0_amissIn 29 = .ok (.iaload, 1) := by decide +kernel
theorem dX0_amissIn_30 : decode cX0_amissIn 30 = .ok (.iload_n 2, 1) := by decide +kernel
theorem dX0_amissIn_31 : decode cX0_amissIn 31 = .ok (.isub, 1) := by decide +kernel
theorem dX0_amissIn_32 : decode cX0_amissIn 32 = .ok (.if_icmp .lt 17, 3) := by decide +kernel
theorem dX0_amissIn_35 : decode cX0_amissIn 35 = .ok (.iload 5, 2) := by decide +kernel
theorem dX0_amissIn_37 : decode cX0_amissIn 37 = .ok (.aload_n 0, 1) := by decide +kernel
theorem dX0_amissIn_38 : decode cX0_amissIn 38 = .ok (.getfield 25, 3) := by decide +kernel
theorem dX0_amissIn_41 : decode cX0_amissIn 41 = .ok (.iload 4, 2) := by decide +kernel
theorem dX0_amissIn_43 : decode cX0_amissIn 43 = .ok (.iaload, 1) := by decide +kernel
theorem dX0_amissIn_44 : decode cX0_amissIn 44 = .ok (.iload_n 2, 1) := by decide +kernel
theorem dX0_amissIn_45 : decode cX0_amissIn 45 = .ok (.iadd, 1) := by decide +kernel
theorem dX0_amissIn_46 : decode cX0_amissIn 46 = .ok (.if_icmp .le 6, 3) := by decide +kernel
theorem dX0_amissIn_49 : decode cX0_amissIn 49 = .ok (.iinc 3 1, 3) := by decide +kernel
theorem dX0_amissIn_52 : decode cX0_amissIn 52 = .ok (.iinc 4 1, 3) := by decide +kernel
theorem dX0_amissIn_55 : decode cX0_amissIn 55 = .ok (.goto (-50), 3) := by decide +kernel
theorem dX0_amissIn_58 : decode cX0_amissIn 58 = .ok (.iload_n 3, 1) := by decide +kernel
theorem dX0_amissIn_59 : decode cX0_amissIn 59 = .ok (.ireturn, 1) := by decide +kernel
set_option maxRecDepth 20000 in
theorem ggX0_rejects_X0_amissIn : GoodIn wsX0_rejects wsX0_amissIn := goodIn_r _ [8, 9, 10, 16, 17, 18, 19, 20, 21, 22, 23, 24, 11, 12, 13, 14, 15] (by decide +kernel) (by decide +kernel)
set_option maxRecDepth 20000 in
theorem gX0_rejects_X0_amissIn : GoodIn wsX0_rejects (wsV RX0 51 RX0 yX0_amissIn wsX0_amissIn) := goodIn_app (goodIn_of _ (by decide +kernel)) ggX0_rejects_X0_amissIn
theorem dX0_rejects_0 : decode cX0_rejects 0 = .ok (.aload_n 0, 1) := by decide +kernel
theorem dX0_rejects_1 : decode cX0_rejects 1 = .ok (.getfield 9, 3) := by decide +kernel
theorem dX0_rejects_4 : decode cX0_rejects 4 = .ok (.ifCond .ne 5, 3) := by decide +kernel
theorem dX0_rejects_7 : decode cX0_rejects 7 = .ok (.iconst 0, 1) := by decide +kernel
theorem dX0_rejects_8 : decode cX0_rejects 8 = .ok (.ireturn, 1) := by decide +kernel
theorem dX0_rejects_9 : decode cX0_rejects 9 = .ok (.aload_n 0, 1) := by decide +kernel
theorem dX0_rejects_10 : decode cX0_rejects 10 = .ok (.aload_n 1, 1) := by decide +kernel
theorem dX0_rejects_11 : decode cX0_rejects 11 = .ok (.iload_n 2, 1) := by decide +kernel
theorem dX0_rejects_12 : decode cX0_rejects 12 = .ok (.invokevirtual 51, 3) := by decide +kernel
theorem dX0_rejects_15 : decode cX0_rejects 15 = .ok (.iconst 1, 1) := by decide +kernel
theorem dX0_rejects_16 : decode cX0_rejects 16 = .ok (.if_icmp .gt 29, 3) := by decide +kernel
theorem dX0_rejects_19 : decode cX0_rejects 19 = .ok (.aload_n 0, 1) := by decide +kernel
theorem dX0_rejects_20 : decode cX0_rejects 20 = .ok (.getfield 15, 3) := by decide +kernel
theorem dX0_rejects_23 : decode cX0_rejects 23 = .ok (.aload_n 1, 1) := by decide +kernel
theorem dX0_rejects_24 : decode cX0_rejects 24 = .ok (.getfield 48, 3) := by decide +kernel
theorem dX0_rejects_27 : decode cX0_rejects 27 = .ok (.isub, 1) := by decide +kernel
theorem dX0_rejects_28 : decode cX0_rejects 28 = .ok (.iconst 1, 1) := by decide +kernel
theorem dX0_rejects_29 : decode cX0_rejects 29 = .ok (.if_icmp .gt 16, 3) := by decide +kernel
theorem dX0_rejects_32 : decode cX0_rejects 32 = .ok (.aload_n 1, 1) := by decide +kernel
theorem dX0_rejects_33 : decode cX0_rejects 33 = .ok (.getfield 48, 3) := by decide +kernel
theorem dX0_rejects_36 : decode cX0_rejects 36 = .ok (.aload_n 0, 1) := by decide +kernel
theorem dX0_rejects_37 : decode cX0_rejects 37 = .ok (.getfield 18, 3) := by decide +kernel
theorem dX0_rejects_40 : decode cX0_rejects 40 = .ok (.isub, 1) := by decide +kernel
theorem dX0_rejects_41 : decode cX0_rejects 41 = .ok (.iconst 1, 1) := by decide +kernel
theorem dX0_rejects_42 : decode cX0_rejects 42 = .ok (.if_icmp .le 7, 3) := by decide +kernel
theorem dX0_rejects_45 : decode cX0_rejects 45 = .ok (.iconst 1, 1) := by decide +kernel
theorem dX0_rejects_46 : decode cX0_rejects 46 = .ok (.goto 4, 3) := by decide +kernel
theorem dX0_rejects_49 : decode cX0_rejects 49 = .ok (.iconst 0, 1) := by decide +kernel
theorem dX0_rejects_50 : decode cX0_rejects 50 = .ok (.ireturn, 1) := by decide +kernel
theorem dX1_init_0 : decode cX1_init 0 = .ok (.aload_n 0, 1) := by decide +kernel
theorem dX1_init_1 : decode cX1_init 1 = .ok (.invokespecial 3, 3) := by decide +kernel
theorem dX1_init_4 : decode cX1_init 4 = .ok (.aload_n 0, 1) := by decide +kernel
theorem dX1_init_5 : decode cX1_init 5 = .ok (.iconst 0, 1) := by decide +kernel
theorem dX1_init_6 : decode cX1_init 6 = .ok (.putfield 9, 3) := by decide +kernel
theorem dX1_init_9 : decode cX1_init 9 = .ok (.aload_n 0, 1) := by decide +kernel
theorem dX1_init_10 : decode cX1_init 10 = .ok (.bipush 6, 2) := by decide +kernel
theorem dX1_init_12 : decode cX1_init 12 = .ok (.newarray .int, 2) := by decide +kernel
theorem dX1_init_14 : decode cX1_init 14 = .ok (.putfield 15, 3) := by decide +kernel
theorem dX1_init_17 : decode cX1_init 17 = .ok (.aload_n 0, 1) := by decide +kernel
theorem dX1_init_18 : decode cX1_init 18 = .ok (.bipush 6, 2) := by decide +kernel
theorem dX1_init_20 : decode cX1_init 20 = .ok (.newarray .int, 2) := by decide +kernel
theorem dX1_init_22 : decode cX1_init 22 = .ok (.putfield 19, 3) := by decide +kernel
theorem dX1_init_25 : decode cX1_init 25 = .ok (.aload_n 0, 1) := by decide +kernel
theorem dX1_init_26 : decode cX1_init 26 = .ok (.bipush 6, 2) := by decide +kernel
theorem dX1_init_28 : decode cX1_init 28 = .ok (.newarray .int, 2) := by decide +kernel
theorem dX1_init_30 : decode cX1_init 30 = .ok (.putfield 22, 3) := by decide +kernel
theorem dX1_init_33 : decode cX1_init 33 = .ok (.aload_n 0, 1) := by decide +kernel
theorem dX1_init_34 : decode cX1_init 34 = .ok (.iconst 0, 1) := by decide +kernel
theorem dX1_init_35 : decode cX1_init 35 = .ok (.putfield 25, 3) := by decide +kernel
theorem dX1_init_38 : decode cX1_init 38 = .ok (.aload_n 0, 1) := by decide +kernel
theorem dX1_init_39 : decode cX1_init 39 = .ok (.iconst 4, 1) := by decide +kernel
theorem dX1_init_40 : decode cX1_init 40 = .ok (.newarray .int, 2) := by decide +kernel
theorem dX1_init_42 : decode cX1_init 42 = .ok (.putfield 28, 3) := by decide +kernel
theorem dX1_init_45 : decode cX1_init 45 = .ok (.aload_n 0, 1) := by decide +kernel
theorem dX1_init_46 : decode cX1_init 46 = .ok (.iconst 0, 1) := by decide +kernel
theorem dX1_init_47 : decode cX1_init 47 = .ok (.putfield 31, 3) := by decide +kernel
theorem dX1_init_50 : decode cX1_init 50 = .ok (.aload_n 0, 1) := by decide +kernel
theorem dX1_init_51 : decode cX1_init 51 = .ok (.iconst 4, 1) := by decide +kernel
theorem dX1_init_52 : decode cX1_init 52 = .ok (.newarray .int, 2) := by decide +kernel
theorem dX1_init_54 : decode cX1_init 54 = .ok (.putfield 34, 3) := by decide +kernel
theorem dX1_init_57 : decode cX1_init 57 = .ok (.aload_n 0, 1) := by decide +kernel
theorem dX1_init_58 : decode cX1_init 58 = .ok (.iconst 4, 1) := by decide +kernel
theorem dX1_init_59 : decode cX1_init 59 = .ok (.newarray .int, 2) := by decide +kernel
theorem dX1_init_61 : decode cX1_init 61 = .ok (.putfield 37, 3) := by decide +kernel
theorem dX1_init_64 : decode cX1_init 64 = .ok (.aload_n 0, 1) := by decide +kernel
theorem dX1_init_65 : decode cX1_init 65 = .ok (.bipush 6, 2) := by decide +kernel
theorem dX1_init_67 : decode cX1_init 67 = .ok (.newarray .int, 2) := by decide +kernel
theorem dX1_init_69 : decode cX1_init 69 = .ok (.putfield 40, 3) := by decide +kernel
theorem dX1_init_72 : decode cX1_init 72 = .ok (.return_, 1) := by decide +kernel
theorem dX1_clear_0 : decode cX1_clear 0 = .ok (.aload_n 0, 1) := by decide +kernel
theorem dX1_clear_1 : decode cX1_clear 1 = .ok (.iconst 0, 1) := by decide +kernel
theorem dX1_clear_2 : decode cX1_clear 2 = .ok (.putfield 9, 3) := by decide +kernel
theorem dX1_clear_5 : decode cX1_clear 5 = .ok (.aload_n 0, 1) := by decide +kernel
theorem dX1_clear_6 : decode cX1_clear 6 = .ok (.iconst 0, 1) := by decide +kernel
theorem dX1_clear_7 : decode cX1_clear 7 = .ok (.putfield 25, 3) := by decide +kernel
theorem dX1_clear_10 : decode cX1_clear 10 = .ok (.aload_n 0, 1) := by decide +kernel
theorem dX1_clear_11 : decode cX1_clear 11 = .ok (.iconst 0, 1) := by decide +kernel
theorem dX1_clear_12 : decode cX1_clear 12 = .ok (.putfield 31, 3) := by decide +kernel
theorem dX1_clear_15 : decode cX1_clear 15 = .ok (.getstatic 43, 3) := by decide +kernel
theorem dX1_clear_18 : decode cX1_clear 18 = .ok (.iconst 0, 1) := by decide +kernel
theorem dX1_clear_19 : decode cX1_clear 19 = .ok (.aload_n 0, 1) := by decide +kernel
theorem dX1_clear_20 : decode cX1_clear 20 = .ok (.getfield 40, 3) := by decide +kernel
theorem dX1_clear_23 : decode cX1_clear 23 = .ok (.iconst 0, 1) := by decide +kernel
theorem dX1_clear_24 : decode cX1_clear 24 = .ok (.bipush 6, 2) := by decide +kernel
theorem dX1_clear_26 : decode cX1_clear 26 = .ok (.invokestatic 46, 3) := by decide +kernel
theorem dX1_clear_29 : decode cX1_clear 29 = .ok (.return_, 1) := by decide +kernel
theorem dX1_addCavity_0 : decode cX1_addCavity 0 = .ok (.aload_n 0, 1) := by decide +kernel
theorem dX1_addCavity_1 : decode cX1_addCavity 1 = .ok (.getfield 9, 3) := by decide +kernel
theorem dX1_addCavity_4 : decode cX1_addCavity 4 = .ok (.bipush 6, 2) := by decide +kernel
theorem dX1_addCavity_6 : decode cX1_addCavity 6 = .ok (.if_icmp .ge 36, 3) := by decide +kernel
theorem dX1_addCavity_9 : decode cX1_addCavity 9 = .ok (.iload_n 1, 1) := by decide +kernel
theorem dX1_addCavity_10 : decode cX1_addCavity 10 = .ok (.iconst 1, 1) := by decide +kernel
theorem dX1_addCavity_11 : decode cX1_addCavity 11 = .ok (.if_icmp .lt 31, 3) := by decide +kernel
theorem dX1_addCavity_14 : decode cX1_addCavity 14 = .ok (.iload_n 1, 1) := by decide +kernel
theorem dX1_addCavity_15 : decode cX1_addCavity 15 = .ok (.bipush 30, 2) := by decide +kernel
theorem dX1_addCavity_17 : decode cX1_addCavity 17 = .ok (.if_icmp .gt 25, 3) := by decide +kernel
theorem dX1_addCavity_20 : decode cX1_addCavity 20 = .ok (.iload_n 2, 1) := by decide +kernel
theorem dX1_addCavity_21 : decode cX1_addCavity 21 = .ok (.iconst 1, 1) := by decide +kernel
theorem dX1_addCavity_22 : decode cX1_addCavity 22 = .ok (.if_icmp .lt 20, 3) := by decide +kernel
theorem dX1_addCavity_25 : decode cX1_addCavity 25 = .ok (.iload_n 2, 1) := by decide +kernel
theorem dX1_addCavity_26 : decode cX1_addCavity 26 = .ok (.bipush 9, 2) := by decide +kernel
theorem dX1_addCavity_28 : decode cX1_addCavity 28 = .ok (.if_icmp .gt 14, 3) := by decide +kernel
theorem dX1_addCavity_31 : decode cX1_addCavity 31 = .ok (.iload_n 3, 1) := by decide +kernel
theorem dX1_addCavity_32 : decode cX1_addCavity 32 = .ok (.iconst 1, 1) := by decide +kernel
theorem dX1_addCavity_33 : decode cX1_addCavity 33 = .ok (.if_icmp .lt 9, 3) := by decide +kernel
theorem dX1_addCavity_36 : decode cX1_addCavity 36 = .ok (.iload_n 3, 1) := by decide +kernel
theorem dX1_addCavity_37 : decode cX1_addCavity 37 = .ok (.bipush 9, 2) := by decide +kernel
theorem dX1_addCavity_39 : decode cX1_addCavity 39 = .ok (.if_icmp .le 5, 3) := by decide +kernel
theorem dX1_addCavity_42 : decode cX1_addCavity 42 = .ok (.iconst 0, 1) := by decide +kernel
theorem dX1_addCavity_43 : decode cX1_addCavity 43 = .ok (.ireturn, 1) := by decide +kernel
theorem dX1_addCavity_44 : decode cX1_addCavity 44 = .ok (.aload_n 0, 1) := by decide +kernel
theorem dX1_addCavity_45 : decode cX1_addCavity 45 = .ok (.getfield 15, 3) := by decide +kernel
theorem dX1_addCavity_48 : decode cX1_addCavity 48 = .ok (.aload_n 0, 1) := by decide +kernel
theorem dX1_addCavity_49 : decode cX1_addCavity 49 = .ok (.getfield 9, 3) := by decide +kernel
theorem dX1_addCavity_52 : decode cX1_addCavity 52 = .ok (.iload_n 1, 1) := by decide +kernel
theorem dX1_addCavity_53 : decode cX1_addCavity 53 = .ok (.iastore, 1) := by decide +kernel
theorem dX1_addCavity_54 : decode cX1_addCavity 54 = .ok (.aload_n 0, 1) := by decide +kernel
theorem dX1_addCavity_55 : decode cX1_addCavity 55 = .ok (.getfield 19, 3) := by decide +kernel
theorem dX1_addCavity_58 : decode cX1_addCavity 58 = .ok (.aload_n 0, 1) := by decide +kernel
theorem dX1_addCavity_59 : decode cX1_addCavity 59 = .ok (.getfield 9, 3) := by decide +kernel
theorem dX1_addCavity_62 : decode cX1_addCavity 62 = .ok (.iload_n 2, 1) := by decide +kernel
theorem dX1_addCavity_63 : decode cX1_addCavity 63 = .ok (.iastore, 1) := by decide +kernel
theorem dX1_addCavity_64 : decode cX1_addCavity 64 = .ok (.aload_n 0, 1) := by decide +kernel
theorem dX1_addCavity_65 : decode cX1_addCavity 65 = .ok (.getfield 22, 3) := by decide +kernel
theorem dX1_addCavity_68 : decode cX1_addCavity 68 = .ok (.aload_n 0, 1) := by decide +kernel
theorem dX1_addCavity_69 : decode cX1_addCavity 69 = .ok (.getfield 9, 3) := by decide +kernel
theorem dX1_addCavity_72 : decode cX1_addCavity 72 = .ok (.iload_n 3, 1) := by decide +kernel
theorem dX1_addCavity_73 : decode cX1_addCavity 73 = .ok (.iastore, 1) := by decide +kernel
theorem dX1_addCavity_74 : decode cX1_addCavity 74 = .ok (.aload_n 0, 1) := by decide +kernel
theorem dX1_addCavity_75 : decode cX1_addCavity 75 = .ok (.dup, 1) := by decide +kernel
theorem dX1_addCavity_76 : decode cX1_addCavity 76 = .ok (.getfield 9, 3) := by decide +kernel
theorem dX1_addCavity_79 : decode cX1_addCavity 79 = .ok (.iconst 1, 1) := by decide +kernel
theorem dX1_addCavity_80 : decode cX1_addCavity 80 = .ok (.iadd, 1) := by decide +kernel
theorem dX1_addCavity_81 : decode cX1_addCavity 81 = .ok (.putfield 9, 3) := by decide +kernel
theorem dX1_addCavity_84 : decode cX1_addCavity 84 = .ok (.iconst 1, 1) := by decide +kernel
theorem dX1_addCavity_85 : decode cX1_addCavity 85 = .ok (.ireturn, 1) := by decide +kernel
theorem dX1_addCore_0 : decode cX1_addCore 0 = .ok (.aload_n 0, 1) := by decide +kernel
theorem dX1_addCore_1 : decode cX1_addCore 1 = .ok (.getfield 25, 3) := by decide +kernel
theorem dX1_addCore_4 : decode cX1_addCore 4 = .ok (.iconst 4, 1) := by decide +kernel
theorem dX1_addCore_5 : decode cX1_addCore 5 = .ok (.if_icmp .ge 14, 3) := by decide +kernel
theorem dX1_addCore_8 : decode cX1_addCore 8 = .ok (.iload_n 1, 1) := by decide +kernel
theorem dX1_addCore_9 : decode cX1_addCore 9 = .ok (.iconst 4, 1) := by decide +kernel
theorem dX1_addCore_10 : decode cX1_addCore 10 = .ok (.if_icmp .lt 11, 3) := by decide +kernel
theorem dX1_addCore_13 : decode cX1_addCore 13 = .ok (.iload_n 1, 1) := by decide +kernel
theorem dX1_addCore_14 : decode cX1_addCore 14 = .ok (.bipush 9, 2) := by decide +kernel
theorem dX1_addCore_16 : decode cX1_addCore 16 = .ok (.if_icmp .eq 5, 3) := by decide +kernel
theorem dX1_addCore_19 : decode cX1_addCore 19 = .ok (.iconst 0, 1) := by decide +kernel
theorem dX1_addCore_20 : decode cX1_addCore 20 = .ok (.ireturn, 1) := by decide +kernel
theorem dX1_addCore_21 : decode cX1_addCore 21 = .ok (.aload_n 0, 1) := by decide +kernel
theorem dX1_addCore_22 : decode cX1_addCore 22 = .ok (.getfield 28, 3) := by decide +kernel
theorem dX1_addCore_25 : decode cX1_addCore 25 = .ok (.aload_n 0, 1) := by decide +kernel
theorem dX1_addCore_26 : decode cX1_addCore 26 = .ok (.getfield 25, 3) := by decide +kernel
theorem dX1_addCore_29 : decode cX1_addCore 29 = .ok (.iload_n 1, 1) := by decide +kernel
theorem dX1_addCore_30 : decode cX1_addCore 30 = .ok (.iastore, 1) := by decide +kernel
theorem dX1_addCore_31 : decode cX1_addCore 31 = .ok (.aload_n 0, 1) := by decide +kernel
theorem dX1_addCore_32 : decode cX1_addCore 32 = .ok (.dup, 1) := by decide +kernel
theorem dX1_addCore_33 : decode cX1_addCore 33 = .ok (.getfield 25, 3) := by decide +kernel
theorem dX1_addCore_36 : decode cX1_addCore 36 = .ok (.iconst 1, 1) := by decide +kernel
theorem dX1_addCore_37 : decode cX1_addCore 37 = .ok (.iadd, 1) := by decide +kernel
theorem dX1_addCore_38 : decode cX1_addCore 38 = .ok (.putfield 25, 3) := by decide +kernel
theorem dX1_addCore_41 : decode cX1_addCore 41 = .ok (.iconst 1, 1) := by decide +kernel
theorem dX1_addCore_42 : decode cX1_addCore 42 = .ok (.ireturn, 1) := by decide +kernel
theorem dX1_addStage_0 : decode cX1_addStage 0 = .ok (.aload_n 0, 1) := by decide +kernel
theorem dX1_addStage_1 : decode cX1_addStage 1 = .ok (.getfield 31, 3) := by decide +kernel
theorem dX1_addStage_4 : decode cX1_addStage 4 = .ok (.iconst 4, 1) := by decide +kernel
theorem dX1_addStage_5 : decode cX1_addStage 5 = .ok (.if_icmp .ge 14, 3) := by decide +kernel
theorem dX1_addStage_8 : decode cX1_addStage 8 = .ok (.iload_n 2, 1) := by decide +kernel
theorem dX1_addStage_9 : decode cX1_addStage 9 = .ok (.iconst 1, 1) := by decide +kernel
theorem dX1_addStage_10 : decode cX1_addStage 10 = .ok (.if_icmp .lt 9, 3) := by decide +kernel
theorem dX1_addStage_13 : decode cX1_addStage 13 = .ok (.iload_n 2, 1) := by decide +kernel
theorem dX1_addStage_14 : decode cX1_addStage 14 = .ok (.bipush 9, 2) := by decide +kernel
theorem dX1_addStage_16 : decode cX1_addStage 16 = .ok (.if_icmp .le 5, 3) := by decide +kernel
theorem dX1_addStage_19 : decode cX1_addStage 19 = .ok (.iconst 0, 1) := by decide +kernel
theorem dX1_addStage_20 : decode cX1_addStage 20 = .ok (.ireturn, 1) := by decide +kernel
theorem dX1_addStage_21 : decode cX1_addStage 21 = .ok (.aload_n 0, 1) := by decide +kernel
theorem dX1_addStage_22 : decode cX1_addStage 22 = .ok (.getfield 31, 3) := by decide +kernel
theorem dX1_addStage_25 : decode cX1_addStage 25 = .ok (.ifCond .ne 15, 3) := by decide +kernel
theorem dX1_addStage_28 : decode cX1_addStage 28 = .ok (.iload_n 1, 1) := by decide +kernel
theorem dX1_addStage_29 : decode cX1_addStage 29 = .ok (.ifCond .ne 7, 3) := by decide +kernel
theorem dX1_addStage_32 : decode cX1_addStage 32 = .ok (.iconst 1, 1) := by decide +kernel
theorem dX1_addStage_33 : decode cX1_addStage 33 = .ok (.goto 33, 3) := by decide +kernel
theorem dX1_addStage_36 : decode cX1_addStage 36 = .ok (.iconst 0, 1) := by decide +kernel
theorem dX1_addStage_37 : decode cX1_addStage 37 = .ok (.goto 29, 3) := by decide +kernel
theorem dX1_addStage_40 : decode cX1_addStage 40 = .ok (.iload_n 1, 1) := by decide +kernel
theorem dX1_addStage_41 : decode cX1_addStage 41 = .ok (.aload_n 0, 1) := by decide +kernel
theorem dX1_addStage_42 : decode cX1_addStage 42 = .ok (.getfield 34, 3) := by decide +kernel
theorem dX1_addStage_45 : decode cX1_addStage 45 = .ok (.aload_n 0, 1) := by decide +kernel
theorem dX1_addStage_46 : decode cX1_addStage 46 = .ok (.getfield 31, 3) := by decide +kernel
theorem dX1_addStage_49 : decode cX1_addStage 49 = .ok (.iconst 1, 1) := by decide +kernel
theorem dX1_addStage_50 : decode cX1_addStage 50 = .ok (.isub, 1) := by decide +kernel
theorem dX1_addStage_51 : decode cX1_addStage 51 = .ok (.iaload, 1) := by decide +kernel
theorem dX1_addStage_52 : decode cX1_addStage 52 = .ok (.if_icmp .le 13, 3) := by decide +kernel
theorem dX1_addStage_55 : decode cX1_addStage 55 = .ok (.iload_n 1, 1) := by decide +kernel
theorem dX1_addStage_56 : decode cX1_addStage 56 = .ok (.bipush 98, 2) := by decide +kernel
theorem dX1_addStage_58 : decode cX1_addStage 58 = .ok (.if_icmp .gt 7, 3) := by decide +kernel
theorem dX1_addStage_61 : decode cX1_addStage 61 = .ok (.iconst 1, 1) := by decide +kernel
theorem dX1_addStage_62 : decode cX1_addStage 62 = .ok (.goto 4, 3) := by decide +kernel
theorem dX1_addStage_65 : decode cX1_addStage 65 = .ok (.iconst 0, 1) := by decide +kernel
theorem dX1_addStage_66 : decode cX1_addStage 66 = .ok (.istore_n 3, 1) := by decide +kernel
theorem dX1_addStage_67 : decode cX1_addStage 67 = .ok (.iload_n 3, 1) := by decide +kernel
theorem dX1_addStage_68 : decode cX1_addStage 68 = .ok (.ifCond .ne 5, 3) := by decide +kernel
theorem dX1_addStage_71 : decode cX1_addStage 71 = .ok (.iconst 0, 1) := by decide +kernel
theorem dX1_addStage_72 : decode cX1_addStage 72 = .ok (.ireturn, 1) := by decide +kernel
theorem dX1_addStage_73 : decode cX1_addStage 73 = .ok (.aload_n 0, 1) := by decide +kernel
theorem dX1_addStage_74 : decode cX1_addStage 74 = .ok (.getfield 34, 3) := by decide +kernel
theorem dX1_addStage_77 : decode cX1_addStage 77 = .ok (.aload_n 0, 1) := by decide +kernel
theorem dX1_addStage_78 : decode cX1_addStage 78 = .ok (.getfield 31, 3) := by decide +kernel
theorem dX1_addStage_81 : decode cX1_addStage 81 = .ok (.iload_n 1, 1) := by decide +kernel
theorem dX1_addStage_82 : decode cX1_addStage 82 = .ok (.iastore, 1) := by decide +kernel
theorem dX1_addStage_83 : decode cX1_addStage 83 = .ok (.aload_n 0, 1) := by decide +kernel
theorem dX1_addStage_84 : decode cX1_addStage 84 = .ok (.getfield 37, 3) := by decide +kernel
theorem dX1_addStage_87 : decode cX1_addStage 87 = .ok (.aload_n 0, 1) := by decide +kernel
theorem dX1_addStage_88 : decode cX1_addStage 88 = .ok (.getfield 31, 3) := by decide +kernel
theorem dX1_addStage_91 : decode cX1_addStage 91 = .ok (.iload_n 2, 1) := by decide +kernel
theorem dX1_addStage_92 : decode cX1_addStage 92 = .ok (.iastore, 1) := by decide +kernel
theorem dX1_addStage_93 : decode cX1_addStage 93 = .ok (.aload_n 0, 1) := by decide +kernel
theorem dX1_addStage_94 : decode cX1_addStage 94 = .ok (.dup, 1) := by decide +kernel
theorem dX1_addStage_95 : decode cX1_addStage 95 = .ok (.getfield 31, 3) := by decide +kernel
theorem dX1_addStage_98 : decode cX1_addStage 98 = .ok (.iconst 1, 1) := by decide +kernel
theorem dX1_addStage_99 : decode cX1_addStage 99 = .ok (.iadd, 1) := by decide +kernel
theorem dX1_addStage_100 : decode cX1_addStage 100 = .ok (.putfield 31, 3) := by decide +kernel
theorem dX1_addStage_103 : decode cX1_addStage 103 = .ok (.iconst 1, 1) := by decide +kernel
theorem dX1_addStage_104 : decode cX1_addStage 104 = .ok (.ireturn, 1) := by decide +kernel
theorem dX1_setThree_0 : decode cX1_setThree 0 = .ok (.iconst 0, 1) := by decide +kernel
theorem dX1_setThree_1 : decode cX1_setThree 1 = .ok (.istore_n 3, 1) := by decide +kernel
theorem dX1_setThree_2 : decode cX1_setThree 2 = .ok (.iload_n 3, 1) := by decide +kernel
theorem dX1_setThree_3 : decode cX1_setThree 3 = .ok (.iconst 3, 1) := by decide +kernel
theorem dX1_setThree_4 : decode cX1_setThree 4 = .ok (.if_icmp .ge 37, 3) := by decide +kernel
theorem dX1_setThree_7 : decode cX1_setThree 7 = .ok (.aload_n 2, 1) := by decide +kernel
theorem dX1_setThree_8 : decode cX1_setThree 8 = .ok (.iload_n 3, 1) := by decide +kernel
theorem dX1_setThree_9 : decode cX1_setThree 9 = .ok (.iaload, 1) := by decide +kernel
theorem dX1_setThree_10 : decode cX1_setThree 10 = .ok (.getstatic 52, 3) := by decide +kernel
theorem dX1_setThree_13 : decode cX1_setThree 13 = .ok (.iload_n 1, 1) := by decide +kernel
theorem dX1_setThree_14 : decode cX1_setThree 14 = .ok (.iload_n 3, 1) := by decide +kernel
theorem dX1_setThree_15 : decode cX1_setThree 15 = .ok (.iadd, 1) := by decide +kernel
theorem dX1_setThree_16 : decode cX1_setThree 16 = .ok (.iaload, 1) := by decide +kernel
theorem dX1_setThree_17 : decode cX1_setThree 17 = .ok (.if_icmp .lt 16, 3) := by decide +kernel
theorem dX1_setThree_20 : decode cX1_setThree 20 = .ok (.aload_n 2, 1) := by decide +kernel
theorem dX1_setThree_21 : decode cX1_setThree 21 = .ok (.iload_n 3, 1) := by decide +kernel
theorem dX1_setThree_22 : decode cX1_setThree 22 = .ok (.iaload, 1) := by decide +kernel
theorem dX1_setThree_23 : decode cX1_setThree 23 = .ok (.getstatic 55, 3) := by decide +kernel
theorem dX1_setThree_26 : decode cX1_setThree 26 = .ok (.iload_n 1, 1) := by decide +kernel
theorem dX1_setThree_27 : decode cX1_setThree 27 = .ok (.iload_n 3, 1) := by decide +kernel
theorem dX1_setThree_28 : decode cX1_setThree 28 = .ok (.iadd, 1) := by decide +kernel
theorem dX1_setThree_29 : decode cX1_setThree 29 = .ok (.iaload, 1) := by decide +kernel
theorem dX1_setThree_30 : decode cX1_setThree 30 = .ok (.if_icmp .le 5, 3) := by decide +kernel
theorem dX1_setThree_33 : decode cX1_setThree 33 = .ok (.iconst 0, 1) := by decide +kernel
theorem dX1_setThree_34 : decode cX1_setThree 34 = .ok (.ireturn, 1) := by decide +kernel
theorem dX1_setThree_35 : decode cX1_setThree 35 = .ok (.iinc 3 1, 3) := by decide +kernel
theorem dX1_setThree_38 : decode cX1_setThree 38 = .ok (.goto (-36), 3) := by decide +kernel
theorem dX1_setThree_41 : decode cX1_setThree 41 = .ok (.aload_n 2, 1) := by decide +kernel
theorem dX1_setThree_42 : decode cX1_setThree 42 = .ok (.iconst 0, 1) := by decide +kernel
theorem dX1_setThree_43 : decode cX1_setThree 43 = .ok (.aload_n 0, 1) := by decide +kernel
theorem dX1_setThree_44 : decode cX1_setThree 44 = .ok (.getfield 40, 3) := by decide +kernel
theorem dX1_setThree_47 : decode cX1_setThree 47 = .ok (.iload_n 1, 1) := by decide +kernel
theorem dX1_setThree_48 : decode cX1_setThree 48 = .ok (.iconst 3, 1) := by decide +kernel
theorem dX1_setThree_49 : decode cX1_setThree 49 = .ok (.invokestatic 46, 3) := by decide +kernel
theorem dX1_setThree_52 : decode cX1_setThree 52 = .ok (.iconst 1, 1) := by decide +kernel
theorem dX1_setThree_53 : decode cX1_setThree 53 = .ok (.ireturn, 1) := by decide +kernel
set_option maxRecDepth 20000 in
theorem ggX1_canBeLaid_X1_chainEnds : GoodIn wsX1_canBeLaid wsX1_chainEnds := goodIn_r _ [8, 3, 9, 10, 11, 12, 13, 14, 15, 16, 17, 18, 19] (by decide +kernel) (by decide +kernel)
set_option maxRecDepth 20000 in
theorem gX1_canBeLaid_X1_chainEnds : GoodIn wsX1_canBeLaid (wsV RX1 58 RX1 yX1_chainEnds wsX1_chainEnds) := goodIn_app (goodIn_of _ (by decide +kernel)) ggX1_canBeLaid_X1_chainEnds
theorem dX1_canBeLaid_0 : decode cX1_canBeLaid 0 = .ok (.aload_n 0, 1) := by decide +kernel
theorem dX1_canBeLaid_1 : decode cX1_canBeLaid 1 = .ok (.getfield 9, 3) := by decide +kernel
theorem dX1_canBeLaid_4 : decode cX1_canBeLaid 4 = .ok (.ifCond .eq 10, 3) := by decide +kernel
theorem dX1_canBeLaid_7 : decode cX1_canBeLaid 7 = .ok (.aload_n 0, 1) := by decide +kernel
theorem dX1_canBeLaid_8 : decode cX1_canBeLaid 8 = .ok (.getfield 31, 3) := by decide +kernel
theorem dX1_canBeLaid_11 : decode cX1_canBeLaid 11 = .ok (.ifCond .ne 5, 3) := by decide +kernel
theorem dX1_canBeLaid_14 : decode cX1_canBeLaid 14 = .ok (.iconst 0, 1) := by decide +kernel
theorem dX1_canBeLaid_15 : decode cX1_canBeLaid 15 = .ok (.ireturn, 1) := by decide +kernel
theorem dX1_canBeLaid_16 : decode cX1_canBeLaid 16 = .ok (.iconst 0, 1) := by decide +kernel
theorem dX1_canBeLaid_17 : decode cX1_canBeLaid 17 = .ok (.istore_n 1, 1) := by decide +kernel
theorem dX1_canBeLaid_18 : decode cX1_canBeLaid 18 = .ok (.iload_n 1, 1) := by decide +kernel
theorem dX1_canBeLaid_19 : decode cX1_canBeLaid 19 = .ok (.aload_n 0, 1) := by decide +kernel
theorem dX1_canBeLaid_20 : decode cX1_canBeLaid 20 = .ok (.getfield 25, 3) := by decide +kernel
theorem dX1_canBeLaid_23 : decode cX1_canBeLaid 23 = .ok (.if_icmp .ge 19, 3) := by decide +kernel
theorem dX1_canBeLaid_26 : decode cX1_canBeLaid 26 = .ok (.aload_n 0, 1) := by decide +kernel
theorem dX1_canBeLaid_27 : decode cX1_canBeLaid 27 = .ok (.iload_n 1, 1) := by decide +kernel
theorem dX1_canBeLaid_28 : decode cX1_canBeLaid 28 = .ok (.invokevirtual 58, 3) := by decide +kernel
theorem dX1_canBeLaid_31 : decode cX1_canBeLaid 31 = .ok (.ifCond .ne 5, 3) := by decide +kernel
theorem dX1_canBeLaid_34 : decode cX1_canBeLaid 34 = .ok (.iconst 0, 1) := by decide +kernel
theorem dX1_canBeLaid_35 : decode cX1_canBeLaid 35 = .ok (.ireturn, 1) := by decide +kernel
theorem dX1_canBeLaid_36 : decode cX1_canBeLaid 36 = .ok (.iinc 1 1, 3) := by decide +kernel
theorem dX1_canBeLaid_39 : decode cX1_canBeLaid 39 = .ok (.goto (-21), 3) := by decide +kernel
theorem dX1_canBeLaid_42 : decode cX1_canBeLaid 42 = .ok (.iconst 1, 1) := by decide +kernel
theorem dX1_canBeLaid_43 : decode cX1_canBeLaid 43 = .ok (.ireturn, 1) := by decide +kernel
theorem dX1_chainEnds_0 : decode cX1_chainEnds 0 = .ok (.iload_n 1, 1) := by decide +kernel
theorem dX1_chainEnds_1 : decode cX1_chainEnds 1 = .ok (.istore_n 2, 1) := by decide +kernel
theorem dX1_chainEnds_2 : decode cX1_chainEnds 2 = .ok (.iconst 0, 1) := by decide +kernel
theorem dX1_chainEnds_3 : decode cX1_chainEnds 3 = .ok (.istore_n 3, 1) := by decide +kernel
theorem dX1_chainEnds_4 : decode cX1_chainEnds 4 = .ok (.iload_n 3, 1) := by decide +kernel
theorem dX1_chainEnds_5 : decode cX1_chainEnds 5 = .ok (.aload_n 0, 1) := by decide +kernel
theorem dX1_chainEnds_6 : decode cX1_chainEnds 6 = .ok (.getfield 25, 3) := by decide +kernel
theorem dX1_chainEnds_9 : decode cX1_chainEnds 9 = .ok (.if_icmp .ge 27, 3) := by decide +kernel
theorem dX1_chainEnds_12 : decode cX1_chainEnds 12 = .ok (.iload_n 2, 1) := by decide +kernel
theorem dX1_chainEnds_13 : decode cX1_chainEnds 13 = .ok (.aload_n 0, 1) := by decide +kernel
theorem dX1_chainEnds_14 : decode cX1_chainEnds 14 = .ok (.getfield 25, 3) := by decide +kernel
theorem dX1_chainEnds_17 : decode cX1_chainEnds 17 = .ok (.if_icmp .lt 6, 3) := by decide +kernel
theorem dX1_chainEnds_20 : decode cX1_chainEnds 20 = .ok (.goto 16, 3) := by decide +kernel
theorem dX1_chainEnds_23 : decode cX1_chainEnds 23 = .ok (.aload_n 0, 1) := by decide +kernel
theorem dX1_chainEnds_24 : decode cX1_chainEnds 24 = .ok (.getfield 28, 3) := by decide +kernel
theorem dX1_chainEnds_27 : decode cX1_chainEnds 27 = .ok (.iload_n 2, 1) := by decide +kernel
theorem dX1_chainEnds_28 : decode cX1_chainEnds 28 = .ok (.iaload, 1) := by decide +kernel
theorem dX1_chainEnds_29 : decode cX1_chainEnds 29 = .ok (.istore_n 2, 1) := by decide +kernel
theorem dX1_chainEnds_30 : decode cX1_chainEnds 30 = .ok (.iinc 3 1, 3) := by decide +kernel
theorem dX1_chainEnds_33 : decode cX1_chainEnds 33 = .ok (.goto (-29), 3) := by decide +kernel
theorem dX1_chainEnds_36 : decode cX1_chainEnds 36 = .ok (.iload_n 2, 1) := by decide +kernel
theorem dX1_chainEnds_37 : decode cX1_chainEnds 37 = .ok (.bipush 9, 2) := by decide +kernel
theorem dX1_chainEnds_39 : decode cX1_chainEnds 39 = .ok (.if_icmp .ne 7, 3) := by decide +kernel
theorem dX1_chainEnds_42 : decode cX1_chainEnds 42 = .ok (.iconst 1, 1) := by decide +kernel
theorem dX1_chainEnds_43 : decode cX1_chainEnds 43 = .ok (.goto 4, 3) := by decide +kernel
theorem dX1_chainEnds_46 : decode cX1_chainEnds 46 = .ok (.iconst 0, 1) := by decide +kernel
theorem dX1_chainEnds_47 : decode cX1_chainEnds 47 = .ok (.ireturn, 1) := by decide +kernel
set_option maxRecDepth 20000 in
theorem ggX1_coreInTurn_X1_nextIn : GoodIn wsX1_coreInTurn wsX1_nextIn := goodIn_r _ [6, 1, 7, 8, 9, 10, 11, 12, 13, 14, 15, 16, 17] (by decide +kernel) (by decide +kernel)
set_option maxRecDepth 20000 in
theorem gX1_coreInTurn_X1_nextIn : GoodIn wsX1_coreInTurn (wsV RX1 62 RX1 yX1_nextIn wsX1_nextIn) := goodIn_app (goodIn_of _ (by decide +kernel)) ggX1_coreInTurn_X1_nextIn
theorem dX1_coreInTurn_0 : decode cX1_coreInTurn 0 = .ok (.iconst 0, 1) := by decide +kernel
theorem dX1_coreInTurn_1 : decode cX1_coreInTurn 1 = .ok (.istore_n 2, 1) := by decide +kernel
theorem dX1_coreInTurn_2 : decode cX1_coreInTurn 2 = .ok (.bipush (-4), 2) := by decide +kernel
theorem dX1_coreInTurn_4 : decode cX1_coreInTurn 4 = .ok (.istore_n 3, 1) := by decide +kernel
theorem dX1_coreInTurn_5 : decode cX1_coreInTurn 5 = .ok (.iconst 0, 1) := by decide +kernel
theorem dX1_coreInTurn_6 : decode cX1_coreInTurn 6 = .ok (.istore 4, 2) := by decide +kernel
theorem dX1_coreInTurn_8 : decode cX1_coreInTurn 8 = .ok (.iload 4, 2) := by decide +kernel
theorem dX1_coreInTurn_10 : decode cX1_coreInTurn 10 = .ok (.iload_n 1, 1) := by decide +kernel
theorem dX1_coreInTurn_11 : decode cX1_coreInTurn 11 = .ok (.if_icmp .gt 39, 3) := by decide +kernel
theorem dX1_coreInTurn_14 : decode cX1_coreInTurn 14 = .ok (.iload 4, 2) := by decide +kernel
theorem dX1_coreInTurn_16 : decode cX1_coreInTurn 16 = .ok (.aload_n 0, 1) := by decide +kernel
theorem dX1_coreInTurn_17 : decode cX1_coreInTurn 17 = .ok (.getfield 25, 3) := by decide +kernel
theorem dX1_coreInTurn_20 : decode cX1_coreInTurn 20 = .ok (.if_icmp .ge 30, 3) := by decide +kernel
theorem dX1_coreInTurn_23 : decode cX1_coreInTurn 23 = .ok (.aload_n 0, 1) := by decide +kernel
theorem dX1_coreInTurn_24 : decode cX1_coreInTurn 24 = .ok (.iload_n 2, 1) := by decide +kernel
theorem dX1_coreInTurn_25 : decode cX1_coreInTurn 25 = .ok (.invokevirtual 62, 3) := by decide +kernel
theorem dX1_coreInTurn_28 : decode cX1_coreInTurn 28 = .ok (.istore_n 3, 1) := by decide +kernel
theorem dX1_coreInTurn_29 : decode cX1_coreInTurn 29 = .ok (.iload_n 3, 1) := by decide +kernel
theorem dX1_coreInTurn_30 : decode cX1_coreInTurn 30 = .ok (.bipush (-4), 2) := by decide +kernel
theorem dX1_coreInTurn_32 : decode cX1_coreInTurn 32 = .ok (.if_icmp .ne 6, 3) := by decide +kernel
theorem dX1_coreInTurn_35 : decode cX1_coreInTurn 35 = .ok (.bipush (-4), 2) := by decide +kernel
theorem dX1_coreInTurn_37 : decode cX1_coreInTurn 37 = .ok (.ireturn, 1) := by decide +kernel
theorem dX1_coreInTurn_38 : decode cX1_coreInTurn 38 = .ok (.iload_n 2, 1) := by decide +kernel
theorem dX1_coreInTurn_39 : decode cX1_coreInTurn 39 = .ok (.iconst 1, 1) := by decide +kernel
theorem dX1_coreInTurn_40 : decode cX1_coreInTurn 40 = .ok (.iload_n 3, 1) := by decide +kernel
theorem dX1_coreInTurn_41 : decode cX1_coreInTurn 41 = .ok (.ishl, 1) := by decide +kernel
theorem dX1_coreInTurn_42 : decode cX1_coreInTurn 42 = .ok (.ior, 1) := by decide +kernel
theorem dX1_coreInTurn_43 : decode cX1_coreInTurn 43 = .ok (.istore_n 2, 1) := by decide +kernel
theorem dX1_coreInTurn_44 : decode cX1_coreInTurn 44 = .ok (.iinc 4 1, 3) := by decide +kernel
theorem dX1_coreInTurn_47 : decode cX1_coreInTurn 47 = .ok (.goto (-39), 3) := by decide +kernel
theorem dX1_coreInTurn_50 : decode cX1_coreInTurn 50 = .ok (.iload_n 3, 1) := by decide +kernel
theorem dX1_coreInTurn_51 : decode cX1_coreInTurn 51 = .ok (.ireturn, 1) := by decide +kernel
theorem dX1_nextIn_0 : decode cX1_nextIn 0 = .ok (.iconst 0, 1) := by decide +kernel
theorem dX1_nextIn_1 : decode cX1_nextIn 1 = .ok (.istore_n 2, 1) := by decide +kernel
theorem dX1_nextIn_2 : decode cX1_nextIn 2 = .ok (.iload_n 2, 1) := by decide +kernel
theorem dX1_nextIn_3 : decode cX1_nextIn 3 = .ok (.aload_n 0, 1) := by decide +kernel
theorem dX1_nextIn_4 : decode cX1_nextIn 4 = .ok (.getfield 25, 3) := by decide +kernel
theorem dX1_nextIn_7 : decode cX1_nextIn 7 = .ok (.if_icmp .ge 54, 3) := by decide +kernel
theorem dX1_nextIn_10 : decode cX1_nextIn 10 = .ok (.iload_n 1, 1) := by decide +kernel
theorem dX1_nextIn_11 : decode cX1_nextIn 11 = .ok (.iload_n 2, 1) := by decide +kernel
theorem dX1_nextIn_12 : decode cX1_nextIn 12 = .ok (.ishr, 1) := by decide +kernel
theorem dX1_nextIn_13 : decode cX1_nextIn 13 = .ok (.iconst 1, 1) := by decide +kernel
theorem dX1_nextIn_14 : decode cX1_nextIn 14 = .ok (.iand, 1) := by decide +kernel
theorem dX1_nextIn_15 : decode cX1_nextIn 15 = .ok (.ifCond .ne 7, 3) := by decide +kernel
theorem dX1_nextIn_18 : decode cX1_nextIn 18 = .ok (.iconst 1, 1) := by decide +kernel
theorem dX1_nextIn_19 : decode cX1_nextIn 19 = .ok (.goto 4, 3) := by decide +kernel
theorem dX1_nextIn_22 : decode cX1_nextIn 22 = .ok (.iconst 0, 1) := by decide +kernel
theorem dX1_nextIn_23 : decode cX1_nextIn 23 = .ok (.istore_n 3, 1) := by decide +kernel
theorem dX1_nextIn_24 : decode cX1_nextIn 24 = .ok (.iload_n 3, 1) := by decide +kernel
theorem dX1_nextIn_25 : decode cX1_nextIn 25 = .ok (.ifCond .eq 30, 3) := by decide +kernel
theorem dX1_nextIn_28 : decode cX1_nextIn 28 = .ok (.aload_n 0, 1) := by decide +kernel
theorem dX1_nextIn_29 : decode cX1_nextIn 29 = .ok (.getfield 28, 3) := by decide +kernel
theorem dX1_nextIn_32 : decode cX1_nextIn 32 = .ok (.iload_n 2, 1) := by decide +kernel
theorem dX1_nextIn_33 : decode cX1_nextIn 33 = .ok (.iaload, 1) := by decide +kernel
theorem dX1_nextIn_34 : decode cX1_nextIn 34 = .ok (.bipush 9, 2) := by decide +kernel
theorem dX1_nextIn_36 : decode cX1_nextIn 36 = .ok (.if_icmp .eq 17, 3) := by decide +kernel
theorem dX1_nextIn_39 : decode cX1_nextIn 39 = .ok (.iload_n 1, 1) := by decide +kernel
theorem dX1_nextIn_40 : decode cX1_nextIn 40 = .ok (.aload_n 0, 1) := by decide +kernel
theorem dX1_nextIn_41 : decode cX1_nextIn 41 = .ok (.getfield 28, 3) := by decide +kernel
theorem dX1_nextIn_44 : decode cX1_nextIn 44 = .ok (.iload_n 2, 1) := by decide +kernel
theorem dX1_nextIn_45 : decode cX1_nextIn 45 = .ok (.iaload, 1) := by decide +kernel
theorem dX1_nextIn_46 : decode cX1_nextIn 46 = .ok (.ishr, 1) := by decide +kernel
theorem dX1_nextIn_47 : decode cX1_nextIn 47 = .ok (.iconst 1, 1) := by decide +kernel
theorem dX1_nextIn_48 : decode cX1_nextIn 48 = .ok (.iand, 1) := by decide +kernel
theorem dX1_nextIn_49 : decode cX1_nextIn 49 = .ok (.iconst 1, 1) := by decide +kernel
theorem dX1_nextIn_50 : decode cX1_nextIn 50 = .ok (.if_icmp .ne 5, 3) := by decide +kernel
theorem dX1_nextIn_53 : decode cX1_nextIn 53 = .ok (.iload_n 2, 1) := by decide +kernel
theorem dX1_nextIn_54 : decode cX1_nextIn 54 = .ok (.ireturn, 1) := by decide +kernel
theorem dX1_nextIn_55 : decode cX1_nextIn 55 = .ok (.iinc 2 1, 3) := by decide +kernel
theorem dX1_nextIn_58 : decode cX1_nextIn 58 = .ok (.goto (-56), 3) := by decide +kernel
theorem dX1_nextIn_61 : decode cX1_nextIn 61 = .ok (.bipush (-4), 2) := by decide +kernel
theorem dX1_nextIn_63 : decode cX1_nextIn 63 = .ok (.ireturn, 1) := by decide +kernel
theorem dX2_init_0 : decode cX2_init 0 = .ok (.aload_n 0, 1) := by decide +kernel
theorem dX2_init_1 : decode cX2_init 1 = .ok (.invokespecial 3, 3) := by decide +kernel
theorem dX2_init_4 : decode cX2_init 4 = .ok (.aload_n 0, 1) := by decide +kernel
theorem dX2_init_5 : decode cX2_init 5 = .ok (.bipush 6, 2) := by decide +kernel
theorem dX2_init_7 : decode cX2_init 7 = .ok (.newarray .int, 2) := by decide +kernel
theorem dX2_init_9 : decode cX2_init 9 = .ok (.putfield 9, 3) := by decide +kernel
theorem dX2_init_12 : decode cX2_init 12 = .ok (.aload_n 0, 1) := by decide +kernel
theorem dX2_init_13 : decode cX2_init 13 = .ok (.bipush 6, 2) := by decide +kernel
theorem dX2_init_15 : decode cX2_init 15 = .ok (.newarray .int, 2) := by decide +kernel
theorem dX2_init_17 : decode cX2_init 17 = .ok (.putfield 15, 3) := by decide +kernel
theorem dX2_init_20 : decode cX2_init 20 = .ok (.aload_n 0, 1) := by decide +kernel
theorem dX2_init_21 : decode cX2_init 21 = .ok (.bipush 6, 2) := by decide +kernel
theorem dX2_init_23 : decode cX2_init 23 = .ok (.newarray .int, 2) := by decide +kernel
theorem dX2_init_25 : decode cX2_init 25 = .ok (.putfield 18, 3) := by decide +kernel
theorem dX2_init_28 : decode cX2_init 28 = .ok (.aload_n 0, 1) := by decide +kernel
theorem dX2_init_29 : decode cX2_init 29 = .ok (.bipush 60, 2) := by decide +kernel
theorem dX2_init_31 : decode cX2_init 31 = .ok (.newarray .int, 2) := by decide +kernel
theorem dX2_init_33 : decode cX2_init 33 = .ok (.putfield 21, 3) := by decide +kernel
theorem dX2_init_36 : decode cX2_init 36 = .ok (.aload_n 0, 1) := by decide +kernel
theorem dX2_init_37 : decode cX2_init 37 = .ok (.iconst 0, 1) := by decide +kernel
theorem dX2_init_38 : decode cX2_init 38 = .ok (.putfield 24, 3) := by decide +kernel
theorem dX2_init_41 : decode cX2_init 41 = .ok (.aload_n 0, 1) := by decide +kernel
theorem dX2_init_42 : decode cX2_init 42 = .ok (.iconst 0, 1) := by decide +kernel
theorem dX2_init_43 : decode cX2_init 43 = .ok (.putfield 28, 3) := by decide +kernel
theorem dX2_init_46 : decode cX2_init 46 = .ok (.aload_n 0, 1) := by decide +kernel
theorem dX2_init_47 : decode cX2_init 47 = .ok (.iconst 0, 1) := by decide +kernel
theorem dX2_init_48 : decode cX2_init 48 = .ok (.putfield 31, 3) := by decide +kernel
theorem dX2_init_51 : decode cX2_init 51 = .ok (.aload_n 0, 1) := by decide +kernel
theorem dX2_init_52 : decode cX2_init 52 = .ok (.iconst 0, 1) := by decide +kernel
theorem dX2_init_53 : decode cX2_init 53 = .ok (.putfield 34, 3) := by decide +kernel
theorem dX2_init_56 : decode cX2_init 56 = .ok (.aload_n 0, 1) := by decide +kernel
theorem dX2_init_57 : decode cX2_init 57 = .ok (.bipush (-4), 2) := by decide +kernel
theorem dX2_init_59 : decode cX2_init 59 = .ok (.putfield 37, 3) := by decide +kernel
theorem dX2_init_62 : decode cX2_init 62 = .ok (.return_, 1) := by decide +kernel
set_option maxRecDepth 20000 in
theorem ggX2_make_X2_clear : GoodIn wsX2_make wsX2_clear := goodIn_r _ [6, 7, 8, 9, 10, 11, 12, 13, 64, 65, 66, 67, 68, 69, 70, 71, 72] (by decide +kernel) (by decide +kernel)
set_option maxRecDepth 20000 in
theorem gX2_make_X2_clear : GoodIn wsX2_make (wsV RX2 40 RX2 yX2_clear wsX2_clear) := goodIn_app (goodIn_of _ (by decide +kernel)) ggX2_make_X2_clear
set_option maxRecDepth 20000 in
theorem ggX2_make_X2_fill : GoodIn wsX2_make wsX2_fill := goodIn_r _ [17, 13, 12, 11, 18, 19, 20, 21, 22, 23, 24, 10, 25, 26, 27, 28, 5, 29, 30, 31, 32, 33, 7, 34, 35, 36, 37, 38, 39, 40, 41, 8, 9, 42, 43, 44, 45, 64, 65, 66, 67, 68, 69, 70, 71, 72, 73, 74, 75, 76, 77, 78, 79, 80, 81, 82, 54, 55, 56, 57, 58, 59, 60, 61, 62, 63] (by decide +kernel) (by decide +kernel)
set_option maxRecDepth 20000 in
theorem gX2_make_X2_fill : GoodIn wsX2_make (wsV RX2 43 RX2 yX2_fill wsX2_fill) := goodIn_app (goodIn_of _ (by decide +kernel)) ggX2_make_X2_fill
set_option maxRecDepth 20000 in
theorem ggX2_make_X2_hold : GoodIn wsX2_make wsX2_hold := goodIn_r _ [49, 25, 18, 19, 20, 21, 12, 7, 11, 10, 50, 51, 52, 5, 53, 8, 38, 39, 40, 41, 9, 54, 55, 56, 57, 58, 59, 60, 61, 62, 63, 64, 65, 66, 67, 68, 69, 70, 71, 72, 73, 74, 75, 76, 77, 78, 79, 80, 81, 82] (by decide +kernel) (by decide +kernel)
set_option maxRecDepth 20000 in
theorem gX2_make_X2_hold : GoodIn wsX2_make (wsV RX2 47 RX2 yX2_hold wsX2_hold) := goodIn_app (goodIn_of _ (by decide +kernel)) ggX2_make_X2_hold
theorem dX2_make_0 : decode cX2_make 0 = .ok (.aload_n 0, 1) := by decide +kernel
theorem dX2_make_1 : decode cX2_make 1 = .ok (.invokevirtual 40, 3) := by decide +kernel
theorem dX2_make_4 : decode cX2_make 4 = .ok (.aload_n 0, 1) := by decide +kernel
theorem dX2_make_5 : decode cX2_make 5 = .ok (.aload_n 1, 1) := by decide +kernel
theorem dX2_make_6 : decode cX2_make 6 = .ok (.aload_n 2, 1) := by decide +kernel
theorem dX2_make_7 : decode cX2_make 7 = .ok (.iload_n 3, 1) := by decide +kernel
theorem dX2_make_8 : decode cX2_make 8 = .ok (.invokevirtual 43, 3) := by decide +kernel
theorem dX2_make_11 : decode cX2_make 11 = .ok (.aload_n 0, 1) := by decide +kernel
theorem dX2_make_12 : decode cX2_make 12 = .ok (.aload_n 1, 1) := by decide +kernel
theorem dX2_make_13 : decode cX2_make 13 = .ok (.aload_n 2, 1) := by decide +kernel
theorem dX2_make_14 : decode cX2_make 14 = .ok (.invokevirtual 47, 3) := by decide +kernel
theorem dX2_make_17 : decode cX2_make 17 = .ok (.aload_n 0, 1) := by decide +kernel
theorem dX2_make_18 : decode cX2_make 18 = .ok (.aload_n 2, 1) := by decide +kernel
theorem dX2_make_19 : decode cX2_make 19 = .ok (.getfield 51, 3) := by decide +kernel
theorem dX2_make_22 : decode cX2_make 22 = .ok (.iconst 5, 1) := by decide +kernel
theorem dX2_make_23 : decode cX2_make 23 = .ok (.iaload, 1) := by decide +kernel
theorem dX2_make_24 : decode cX2_make 24 = .ok (.putfield 34, 3) := by decide +kernel
theorem dX2_make_27 : decode cX2_make 27 = .ok (.return_, 1) := by decide +kernel
theorem dX2_clear_0 : decode cX2_clear 0 = .ok (.iconst 0, 1) := by decide +kernel
theorem dX2_clear_1 : decode cX2_clear 1 = .ok (.istore_n 1, 1) := by decide +kernel
theorem dX2_clear_2 : decode cX2_clear 2 = .ok (.iload_n 1, 1) := by decide +kernel
theorem dX2_clear_3 : decode cX2_clear 3 = .ok (.bipush 6, 2) := by decide +kernel
theorem dX2_clear_5 : decode cX2_clear 5 = .ok (.if_icmp .ge 30, 3) := by decide +kernel
theorem dX2_clear_8 : decode cX2_clear 8 = .ok (.aload_n 0, 1) := by decide +kernel
theorem dX2_clear_9 : decode cX2_clear 9 = .ok (.getfield 9, 3) := by decide +kernel
theorem dX2_clear_12 : decode cX2_clear 12 = .ok (.iload_n 1, 1) := by decide +kernel
theorem dX2_clear_13 : decode cX2_clear 13 = .ok (.iconst 0, 1) := by decide +kernel
theorem dX2_clear_14 : decode cX2_clear 14 = .ok (.iastore, 1) := by decide +kernel
theorem dX2_clear_15 : decode cX2_clear 15 = .ok (.aload_n 0, 1) := by decide +kernel
theorem dX2_clear_16 : decode cX2_clear 16 = .ok (.getfield 15, 3) := by decide +kernel
theorem dX2_clear_19 : decode cX2_clear 19 = .ok (.iload_n 1, 1) := by decide +kernel
theorem dX2_clear_20 : decode cX2_clear 20 = .ok (.iconst 0, 1) := by decide +kernel
theorem dX2_clear_21 : decode cX2_clear 21 = .ok (.iastore, 1) := by decide +kernel
theorem dX2_clear_22 : decode cX2_clear 22 = .ok (.aload_n 0, 1) := by decide +kernel
theorem dX2_clear_23 : decode cX2_clear 23 = .ok (.getfield 18, 3) := by decide +kernel
theorem dX2_clear_26 : decode cX2_clear 26 = .ok (.iload_n 1, 1) := by decide +kernel
theorem dX2_clear_27 : decode cX2_clear 27 = .ok (.iconst 0, 1) := by decide +kernel
theorem dX2_clear_28 : decode cX2_clear 28 = .ok (.iastore, 1) := by decide +kernel
theorem dX2_clear_29 : decode cX2_clear 29 = .ok (.iinc 1 1, 3) := by decide +kernel
theorem dX2_clear_32 : decode cX2_clear 32 = .ok (.goto (-30), 3) := by decide +kernel
theorem dX2_clear_35 : decode cX2_clear 35 = .ok (.iconst 0, 1) := by decide +kernel
theorem dX2_clear_36 : decode cX2_clear 36 = .ok (.istore_n 1, 1) := by decide +kernel
theorem dX2_clear_37 : decode cX2_clear 37 = .ok (.iload_n 1, 1) := by decide +kernel
theorem dX2_clear_38 : decode cX2_clear 38 = .ok (.bipush 60, 2) := by decide +kernel
theorem dX2_clear_40 : decode cX2_clear 40 = .ok (.if_icmp .ge 16, 3) := by decide +kernel
theorem dX2_clear_43 : decode cX2_clear 43 = .ok (.aload_n 0, 1) := by decide +kernel
theorem dX2_clear_44 : decode cX2_clear 44 = .ok (.getfield 21, 3) := by decide +kernel
theorem dX2_clear_47 : decode cX2_clear 47 = .ok (.iload_n 1, 1) := by decide +kernel
theorem dX2_clear_48 : decode cX2_clear 48 = .ok (.iconst 0, 1) := by decide +kernel
theorem dX2_clear_49 : decode cX2_clear 49 = .ok (.iastore, 1) := by decide +kernel
theorem dX2_clear_50 : decode cX2_clear 50 = .ok (.iinc 1 1, 3) := by decide +kernel
theorem dX2_clear_53 : decode cX2_clear 53 = .ok (.goto (-16), 3) := by decide +kernel
theorem dX2_clear_56 : decode cX2_clear 56 = .ok (.aload_n 0, 1) := by decide +kernel
theorem dX2_clear_57 : decode cX2_clear 57 = .ok (.iconst 0, 1) := by decide +kernel
theorem dX2_clear_58 : decode cX2_clear 58 = .ok (.putfield 24, 3) := by decide +kernel
theorem dX2_clear_61 : decode cX2_clear 61 = .ok (.aload_n 0, 1) := by decide +kernel
theorem dX2_clear_62 : decode cX2_clear 62 = .ok (.iconst 0, 1) := by decide +kernel
theorem dX2_clear_63 : decode cX2_clear 63 = .ok (.putfield 31, 3) := by decide +kernel
theorem dX2_clear_66 : decode cX2_clear 66 = .ok (.aload_n 0, 1) := by decide +kernel
theorem dX2_clear_67 : decode cX2_clear 67 = .ok (.bipush (-4), 2) := by decide +kernel
theorem dX2_clear_69 : decode cX2_clear 69 = .ok (.putfield 37, 3) := by decide +kernel
theorem dX2_clear_72 : decode cX2_clear 72 = .ok (.return_, 1) := by decide +kernel
set_option maxRecDepth 20000 in
theorem ggX2_fill_X2_speedHere : GoodIn wsX2_fill wsX2_speedHere := goodIn_r _ [17, 3, 4, 5, 6, 7, 8, 9, 10, 46, 47, 48, 49, 50, 51, 52, 53, 54, 55, 37, 38, 39, 40, 41, 42, 43, 44, 45, 56, 57, 58, 59, 60, 61, 62, 63, 64, 65] (by decide +kernel) (by decide +kernel)
set_option maxRecDepth 20000 in
theorem gX2_fill_X2_speedHere : GoodIn wsX2_fill (wsV RX2 56 RX2 yX2_speedHere wsX2_speedHere) := goodIn_app (goodIn_of _ (by decide +kernel)) ggX2_fill_X2_speedHere
set_option maxRecDepth 20000 in
theorem ggX2_fill_X2_push : GoodIn wsX2_fill wsX2_push := goodIn_r _ [21, 22, 23, 24, 25, 16, 26, 27, 28, 29, 30, 31, 2, 32, 56, 57, 58, 59, 60, 61, 62, 63, 64, 65, 37, 38, 39, 40, 41, 42, 43, 44, 45, 46, 47, 48, 49, 50, 51, 52, 53, 54, 55] (by decide +kernel) (by decide +kernel)
set_option maxRecDepth 20000 in
theorem gX2_fill_X2_push : GoodIn wsX2_fill (wsV RX2 66 RX2 yX2_push wsX2_push) := goodIn_app (goodIn_of _ (by decide +kernel)) ggX2_fill_X2_push
set_option maxRecDepth 20000 in
theorem ggX2_fill_X2_whySwitch : GoodIn wsX2_fill wsX2_whySwitch := goodIn_r _ [36, 3, 2, 11, 37, 38, 39, 40, 41, 42, 43, 44, 45, 56, 57, 58, 59, 60, 61, 62, 63, 64, 65] (by decide +kernel) (by decide +kernel)
set_option maxRecDepth 20000 in
theorem gX2_fill_X2_whySwitch : GoodIn wsX2_fill (wsV RX2 73 RX2 yX2_whySwitch wsX2_whySwitch) := goodIn_app (goodIn_of _ (by decide +kernel)) ggX2_fill_X2_whySwitch
theorem dX2_fill_0 : decode cX2_fill 0 = .ok (.iconst 1, 1) := by decide +kernel
theorem dX2_fill_1 : decode cX2_fill 1 = .ok (.istore 4, 2) := by decide +kernel
theorem dX2_fill_3 : decode cX2_fill 3 = .ok (.iload 4, 2) := by decide +kernel
theorem dX2_fill_5 : decode cX2_fill 5 = .ok (.bipush 40, 2) := by decide +kernel
theorem dX2_fill_7 : decode cX2_fill 7 = .ok (.if_icmp .gt 109, 3) := by decide +kernel
theorem dX2_fill_10 : decode cX2_fill 10 = .ok (.aload_n 0, 1) := by decide +kernel
theorem dX2_fill_11 : decode cX2_fill 11 = .ok (.getfield 37, 3) := by decide +kernel
theorem dX2_fill_14 : decode cX2_fill 14 = .ok (.bipush (-4), 2) := by decide +kernel
theorem dX2_fill_16 : decode cX2_fill 16 = .ok (.if_icmp .ne 100, 3) := by decide +kernel
theorem dX2_fill_19 : decode cX2_fill 19 = .ok (.aload_n 0, 1) := by decide +kernel
theorem dX2_fill_20 : decode cX2_fill 20 = .ok (.iload 4, 2) := by decide +kernel
theorem dX2_fill_22 : decode cX2_fill 22 = .ok (.putfield 31, 3) := by decide +kernel
theorem dX2_fill_25 : decode cX2_fill 25 = .ok (.bipush 99, 2) := by decide +kernel
theorem dX2_fill_27 : decode cX2_fill 27 = .ok (.aload_n 0, 1) := by decide +kernel
theorem dX2_fill_28 : decode cX2_fill 28 = .ok (.getfield 24, 3) := by decide +kernel
theorem dX2_fill_31 : decode cX2_fill 31 = .ok (.aload_n 0, 1) := by decide +kernel
theorem dX2_fill_32 : decode cX2_fill 32 = .ok (.aload_n 1, 1) := by decide +kernel
theorem dX2_fill_33 : decode cX2_fill 33 = .ok (.aload_n 2, 1) := by decide +kernel
theorem dX2_fill_34 : decode cX2_fill 34 = .ok (.iload_n 3, 1) := by decide +kernel
theorem dX2_fill_35 : decode cX2_fill 35 = .ok (.invokevirtual 56, 3) := by decide +kernel
theorem dX2_fill_38 : decode cX2_fill 38 = .ok (.iadd, 1) := by decide +kernel
theorem dX2_fill_39 : decode cX2_fill 39 = .ok (.invokestatic 60, 3) := by decide +kernel
theorem dX2_fill_42 : decode cX2_fill 42 = .ok (.istore 5, 2) := by decide +kernel
theorem dX2_fill_44 : decode cX2_fill 44 = .ok (.iconst 0, 1) := by decide +kernel
theorem dX2_fill_45 : decode cX2_fill 45 = .ok (.istore 6, 2) := by decide +kernel
theorem dX2_fill_47 : decode cX2_fill 47 = .ok (.aload_n 0, 1) := by decide +kernel
theorem dX2_fill_48 : decode cX2_fill 48 = .ok (.getfield 24, 3) := by decide +kernel
theorem dX2_fill_51 : decode cX2_fill 51 = .ok (.istore 7, 2) := by decide +kernel
theorem dX2_fill_53 : decode cX2_fill 53 = .ok (.iload 7, 2) := by decide +kernel
theorem dX2_fill_55 : decode cX2_fill 55 = .ok (.iload 5, 2) := by decide +kernel
theorem dX2_fill_57 : decode cX2_fill 57 = .ok (.if_icmp .ge 22, 3) := by decide +kernel
theorem dX2_fill_60 : decode cX2_fill 60 = .ok (.iload 6, 2) := by decide +kernel
theorem dX2_fill_62 : decode cX2_fill 62 = .ok (.aload_n 0, 1) := by decide +kernel
theorem dX2_fill_63 : decode cX2_fill 63 = .ok (.aload_n 1, 1) := by decide +kernel
theorem dX2_fill_64 : decode cX2_fill 64 = .ok (.aload_n 2, 1) := by decide +kernel
theorem dX2_fill_65 : decode cX2_fill 65 = .ok (.invokevirtual 66, 3) := by decide +kernel
theorem dX2_fill_68 : decode cX2_fill 68 = .ok (.invokestatic 70, 3) := by decide +kernel
theorem dX2_fill_71 : decode cX2_fill 71 = .ok (.istore 6, 2) := by decide +kernel
theorem dX2_fill_73 : decode cX2_fill 73 = .ok (.iinc 7 1, 3) := by decide +kernel
theorem dX2_fill_76 : decode cX2_fill 76 = .ok (.goto (-23), 3) := by decide +kernel
theorem dX2_fill_79 : decode cX2_fill 79 = .ok (.aload_n 0, 1) := by decide +kernel
theorem dX2_fill_80 : decode cX2_fill 80 = .ok (.iload 5, 2) := by decide +kernel
theorem dX2_fill_82 : decode cX2_fill 82 = .ok (.putfield 24, 3) := by decide +kernel
theorem dX2_fill_85 : decode cX2_fill 85 = .ok (.aload_n 0, 1) := by decide +kernel
theorem dX2_fill_86 : decode cX2_fill 86 = .ok (.getfield 21, 3) := by decide +kernel
theorem dX2_fill_89 : decode cX2_fill 89 = .ok (.iload 4, 2) := by decide +kernel
theorem dX2_fill_91 : decode cX2_fill 91 = .ok (.iconst 1, 1) := by decide +kernel
theorem dX2_fill_92 : decode cX2_fill 92 = .ok (.isub, 1) := by decide +kernel
theorem dX2_fill_93 : decode cX2_fill 93 = .ok (.bipush 99, 2) := by decide +kernel
theorem dX2_fill_95 : decode cX2_fill 95 = .ok (.iload 6, 2) := by decide +kernel
theorem dX2_fill_97 : decode cX2_fill 97 = .ok (.invokestatic 60, 3) := by decide +kernel
theorem dX2_fill_100 : decode cX2_fill 100 = .ok (.iastore, 1) := by decide +kernel
theorem dX2_fill_101 : decode cX2_fill 101 = .ok (.aload_n 0, 1) := by decide +kernel
theorem dX2_fill_102 : decode cX2_fill 102 = .ok (.aload_n 0, 1) := by decide +kernel
theorem dX2_fill_103 : decode cX2_fill 103 = .ok (.aload_n 2, 1) := by decide +kernel
theorem dX2_fill_104 : decode cX2_fill 104 = .ok (.invokevirtual 73, 3) := by decide +kernel
theorem dX2_fill_107 : decode cX2_fill 107 = .ok (.putfield 37, 3) := by decide +kernel
theorem dX2_fill_110 : decode cX2_fill 110 = .ok (.iinc 4 1, 3) := by decide +kernel
theorem dX2_fill_113 : decode cX2_fill 113 = .ok (.goto (-110), 3) := by decide +kernel
theorem dX2_fill_116 : decode cX2_fill 116 = .ok (.aload_n 0, 1) := by decide +kernel
theorem dX2_fill_117 : decode cX2_fill 117 = .ok (.aload_n 0, 1) := by decide +kernel
theorem dX2_fill_118 : decode cX2_fill 118 = .ok (.getfield 31, 3) := by decide +kernel
theorem dX2_fill_121 : decode cX2_fill 121 = .ok (.putfield 28, 3) := by decide +kernel
theorem dX2_fill_124 : decode cX2_fill 124 = .ok (.return_, 1) := by decide +kernel
theorem dX2_speedHere_0 : decode cX2_speedHere 0 = .ok (.iconst 0, 1) := by decide +kernel
theorem dX2_speedHere_1 : decode cX2_speedHere 1 = .ok (.istore 4, 2) := by decide +kernel
theorem dX2_speedHere_3 : decode cX2_speedHere 3 = .ok (.iconst 1, 1) := by decide +kernel
theorem dX2_speedHere_4 : decode cX2_speedHere 4 = .ok (.istore 5, 2) := by decide +kernel
theorem dX2_speedHere_6 : decode cX2_speedHere 6 = .ok (.iload 5, 2) := by decide +kernel
theorem dX2_speedHere_8 : decode cX2_speedHere 8 = .ok (.aload_n 1, 1) := by decide +kernel
theorem dX2_speedHere_9 : decode cX2_speedHere 9 = .ok (.getfield 77, 3) := by decide +kernel
theorem dX2_speedHere_12 : decode cX2_speedHere 12 = .ok (.if_icmp .ge 27, 3) := by decide +kernel
theorem dX2_speedHere_15 : decode cX2_speedHere 15 = .ok (.aload_n 1, 1) := by decide +kernel
theorem dX2_speedHere_16 : decode cX2_speedHere 16 = .ok (.getfield 82, 3) := by decide +kernel
theorem dX2_speedHere_19 : decode cX2_speedHere 19 = .ok (.iload 5, 2) := by decide +kernel
theorem dX2_speedHere_21 : decode cX2_speedHere 21 = .ok (.iaload, 1) := by decide +kernel
theorem dX2_speedHere_22 : decode cX2_speedHere 22 = .ok (.aload_n 0, 1) := by decide +kernel
theorem dX2_speedHere_23 : decode cX2_speedHere 23 = .ok (.getfield 24, 3) := by decide +kernel
theorem dX2_speedHere_26 : decode cX2_speedHere 26 = .ok (.if_icmp .gt 7, 3) := by decide +kernel
theorem dX2_speedHere_29 : decode cX2_speedHere 29 = .ok (.iload 5, 2) := by decide +kernel
theorem dX2_speedHere_31 : decode cX2_speedHere 31 = .ok (.istore 4, 2) := by decide +kernel
theorem dX2_speedHere_33 : decode cX2_speedHere 33 = .ok (.iinc 5 1, 3) := by decide +kernel
theorem dX2_speedHere_36 : decode cX2_speedHere 36 = .ok (.goto (-30), 3) := by decide +kernel
theorem dX2_speedHere_39 : decode cX2_speedHere 39 = .ok (.iconst 1, 1) := by decide +kernel
theorem dX2_speedHere_40 : decode cX2_speedHere 40 = .ok (.bipush 9, 2) := by decide +kernel
theorem dX2_speedHere_42 : decode cX2_speedHere 42 = .ok (.aload_n 2, 1) := by decide +kernel
theorem dX2_speedHere_43 : decode cX2_speedHere 43 = .ok (.getfield 85, 3) := by decide +kernel
theorem dX2_speedHere_46 : decode cX2_speedHere 46 = .ok (.iload 4, 2) := by decide +kernel
theorem dX2_speedHere_48 : decode cX2_speedHere 48 = .ok (.iaload, 1) := by decide +kernel
theorem dX2_speedHere_49 : decode cX2_speedHere 49 = .ok (.iload_n 3, 1) := by decide +kernel
theorem dX2_speedHere_50 : decode cX2_speedHere 50 = .ok (.iadd, 1) := by decide +kernel
theorem dX2_speedHere_51 : decode cX2_speedHere 51 = .ok (.invokestatic 60, 3) := by decide +kernel
theorem dX2_speedHere_54 : decode cX2_speedHere 54 = .ok (.invokestatic 70, 3) := by decide +kernel
theorem dX2_speedHere_57 : decode cX2_speedHere 57 = .ok (.ireturn, 1) := by decide +kernel
theorem dX2_whySwitch_0 : decode cX2_whySwitch 0 = .ok (.aload_n 0, 1) := by decide +kernel
theorem dX2_whySwitch_1 : decode cX2_whySwitch 1 = .ok (.getfield 24, 3) := by decide +kernel
theorem dX2_whySwitch_4 : decode cX2_whySwitch 4 = .ok (.aload_n 1, 1) := by decide +kernel
theorem dX2_whySwitch_5 : decode cX2_whySwitch 5 = .ok (.getfield 51, 3) := by decide +kernel
theorem dX2_whySwitch_8 : decode cX2_whySwitch 8 = .ok (.iconst 0, 1) := by decide +kernel
theorem dX2_whySwitch_9 : decode cX2_whySwitch 9 = .ok (.iaload, 1) := by decide +kernel
theorem dX2_whySwitch_10 : decode cX2_whySwitch 10 = .ok (.if_icmp .lt 5, 3) := by decide +kernel
theorem dX2_whySwitch_13 : decode cX2_whySwitch 13 = .ok (.iconst 0, 1) := by decide +kernel
theorem dX2_whySwitch_14 : decode cX2_whySwitch 14 = .ok (.ireturn, 1) := by decide +kernel
theorem dX2_whySwitch_15 : decode cX2_whySwitch 15 = .ok (.aload_n 0, 1) := by decide +kernel
theorem dX2_whySwitch_16 : decode cX2_whySwitch 16 = .ok (.getfield 31, 3) := by decide +kernel
theorem dX2_whySwitch_19 : decode cX2_whySwitch 19 = .ok (.iconst 1, 1) := by decide +kernel
theorem dX2_whySwitch_20 : decode cX2_whySwitch 20 = .ok (.if_icmp .lt 25, 3) := by decide +kernel
theorem dX2_whySwitch_23 : decode cX2_whySwitch 23 = .ok (.aload_n 0, 1) := by decide +kernel
theorem dX2_whySwitch_24 : decode cX2_whySwitch 24 = .ok (.getfield 21, 3) := by decide +kernel
theorem dX2_whySwitch_27 : decode cX2_whySwitch 27 = .ok (.aload_n 0, 1) := by decide +kernel
theorem dX2_whySwitch_28 : decode cX2_whySwitch 28 = .ok (.getfield 31, 3) := by decide +kernel
theorem dX2_whySwitch_31 : decode cX2_whySwitch 31 = .ok (.iconst 1, 1) := by decide +kernel
theorem dX2_whySwitch_32 : decode cX2_whySwitch 32 = .ok (.isub, 1) := by decide +kernel
theorem dX2_whySwitch_33 : decode cX2_whySwitch 33 = .ok (.iaload, 1) := by decide +kernel
theorem dX2_whySwitch_34 : decode cX2_whySwitch 34 = .ok (.aload_n 1, 1) := by decide +kernel
theorem dX2_whySwitch_35 : decode cX2_whySwitch 35 = .ok (.getfield 51, 3) := by decide +kernel
theorem dX2_whySwitch_38 : decode cX2_whySwitch 38 = .ok (.iconst 1, 1) := by decide +kernel
theorem dX2_whySwitch_39 : decode cX2_whySwitch 39 = .ok (.iaload, 1) := by decide +kernel
theorem dX2_whySwitch_40 : decode cX2_whySwitch 40 = .ok (.if_icmp .lt 5, 3) := by decide +kernel
theorem dX2_whySwitch_43 : decode cX2_whySwitch 43 = .ok (.iconst 1, 1) := by decide +kernel
theorem dX2_whySwitch_44 : decode cX2_whySwitch 44 = .ok (.ireturn, 1) := by decide +kernel
theorem dX2_whySwitch_45 : decode cX2_whySwitch 45 = .ok (.aload_n 0, 1) := by decide +kernel
theorem dX2_whySwitch_46 : decode cX2_whySwitch 46 = .ok (.getfield 31, 3) := by decide +kernel
theorem dX2_whySwitch_49 : decode cX2_whySwitch 49 = .ok (.aload_n 1, 1) := by decide +kernel
theorem dX2_whySwitch_50 : decode cX2_whySwitch 50 = .ok (.getfield 51, 3) := by decide +kernel
theorem dX2_whySwitch_53 : decode cX2_whySwitch 53 = .ok (.iconst 2, 1) := by decide +kernel
theorem dX2_whySwitch_54 : decode cX2_whySwitch 54 = .ok (.iaload, 1) := by decide +kernel
theorem dX2_whySwitch_55 : decode cX2_whySwitch 55 = .ok (.if_icmp .lt 7, 3) := by decide +kernel
theorem dX2_whySwitch_58 : decode cX2_whySwitch 58 = .ok (.iconst 2, 1) := by decide +kernel
theorem dX2_whySwitch_59 : decode cX2_whySwitch 59 = .ok (.goto 5, 3) := by decide +kernel
theorem dX2_whySwitch_62 : decode cX2_whySwitch 62 = .ok (.bipush (-4), 2) := by decide +kernel
theorem dX2_whySwitch_64 : decode cX2_whySwitch 64 = .ok (.ireturn, 1) := by decide +kernel
set_option maxRecDepth 20000 in
theorem ggX2_push_X2_easiest : GoodIn wsX2_push wsX2_easiest := goodIn_r _ [6, 1, 33, 34, 35, 36, 37, 38, 39, 40, 41, 42, 24, 25, 26, 27, 28, 29, 30, 31, 32, 14, 15, 16, 17, 18, 19, 20, 21, 22, 23] (by decide +kernel) (by decide +kernel)
set_option maxRecDepth 20000 in
theorem gX2_push_X2_easiest : GoodIn wsX2_push (wsV RX2 88 RX2 yX2_easiest wsX2_easiest) := goodIn_app (goodIn_of _ (by decide +kernel)) ggX2_push_X2_easiest
set_option maxRecDepth 20000 in
theorem ggX2_push_X2_addMelt : GoodIn wsX2_push wsX2_addMelt := goodIn_r _ [10, 1, 11, 12, 13, 24, 25, 26, 27, 28, 29, 30, 31, 32, 33, 34, 35, 36, 37, 38, 39, 40, 41, 42] (by decide +kernel) (by decide +kernel)
set_option maxRecDepth 20000 in
theorem gX2_push_X2_addMelt : GoodIn wsX2_push (wsV RX2 95 RX2 yX2_addMelt wsX2_addMelt) := goodIn_app (goodIn_of _ (by decide +kernel)) ggX2_push_X2_addMelt
theorem dX2_push_0 : decode cX2_push 0 = .ok (.aload_n 0, 1) := by decide +kernel
theorem dX2_push_1 : decode cX2_push 1 = .ok (.aload_n 1, 1) := by decide +kernel
theorem dX2_push_2 : decode cX2_push 2 = .ok (.aload_n 2, 1) := by decide +kernel
theorem dX2_push_3 : decode cX2_push 3 = .ok (.iconst 0, 1) := by decide +kernel
theorem dX2_push_4 : decode cX2_push 4 = .ok (.invokevirtual 88, 3) := by decide +kernel
theorem dX2_push_7 : decode cX2_push 7 = .ok (.istore_n 3, 1) := by decide +kernel
theorem dX2_push_8 : decode cX2_push 8 = .ok (.iconst 0, 1) := by decide +kernel
theorem dX2_push_9 : decode cX2_push 9 = .ok (.istore 4, 2) := by decide +kernel
theorem dX2_push_11 : decode cX2_push 11 = .ok (.iload_n 3, 1) := by decide +kernel
theorem dX2_push_12 : decode cX2_push 12 = .ok (.bipush (-4), 2) := by decide +kernel
theorem dX2_push_14 : decode cX2_push 14 = .ok (.if_icmp .eq 23, 3) := by decide +kernel
theorem dX2_push_17 : decode cX2_push 17 = .ok (.aload_n 2, 1) := by decide +kernel
theorem dX2_push_18 : decode cX2_push 18 = .ok (.getfield 92, 3) := by decide +kernel
theorem dX2_push_21 : decode cX2_push 21 = .ok (.iload_n 3, 1) := by decide +kernel
theorem dX2_push_22 : decode cX2_push 22 = .ok (.iaload, 1) := by decide +kernel
theorem dX2_push_23 : decode cX2_push 23 = .ok (.aload_n 0, 1) := by decide +kernel
theorem dX2_push_24 : decode cX2_push 24 = .ok (.getfield 9, 3) := by decide +kernel
theorem dX2_push_27 : decode cX2_push 27 = .ok (.iload_n 3, 1) := by decide +kernel
theorem dX2_push_28 : decode cX2_push 28 = .ok (.iaload, 1) := by decide +kernel
theorem dX2_push_29 : decode cX2_push 29 = .ok (.iconst 1, 1) := by decide +kernel
theorem dX2_push_30 : decode cX2_push 30 = .ok (.iadd, 1) := by decide +kernel
theorem dX2_push_31 : decode cX2_push 31 = .ok (.imul, 1) := by decide +kernel
theorem dX2_push_32 : decode cX2_push 32 = .ok (.istore 4, 2) := by decide +kernel
theorem dX2_push_34 : decode cX2_push 34 = .ok (.goto 36, 3) := by decide +kernel
theorem dX2_push_37 : decode cX2_push 37 = .ok (.aload_n 0, 1) := by decide +kernel
theorem dX2_push_38 : decode cX2_push 38 = .ok (.aload_n 1, 1) := by decide +kernel
theorem dX2_push_39 : decode cX2_push 39 = .ok (.aload_n 2, 1) := by decide +kernel
theorem dX2_push_40 : decode cX2_push 40 = .ok (.iconst 1, 1) := by decide +kernel
theorem dX2_push_41 : decode cX2_push 41 = .ok (.invokevirtual 88, 3) := by decide +kernel
theorem dX2_push_44 : decode cX2_push 44 = .ok (.istore_n 3, 1) := by decide +kernel
theorem dX2_push_45 : decode cX2_push 45 = .ok (.iload_n 3, 1) := by decide +kernel
theorem dX2_push_46 : decode cX2_push 46 = .ok (.bipush (-4), 2) := by decide +kernel
theorem dX2_push_48 : decode cX2_push 48 = .ok (.if_icmp .ne 5, 3) := by decide +kernel
theorem dX2_push_51 : decode cX2_push 51 = .ok (.iconst 0, 1) := by decide +kernel
theorem dX2_push_52 : decode cX2_push 52 = .ok (.ireturn, 1) := by decide +kernel
theorem dX2_push_53 : decode cX2_push 53 = .ok (.iconst 3, 1) := by decide +kernel
theorem dX2_push_54 : decode cX2_push 54 = .ok (.aload_n 2, 1) := by decide +kernel
theorem dX2_push_55 : decode cX2_push 55 = .ok (.getfield 92, 3) := by decide +kernel
theorem dX2_push_58 : decode cX2_push 58 = .ok (.iload_n 3, 1) := by decide +kernel
theorem dX2_push_59 : decode cX2_push 59 = .ok (.iaload, 1) := by decide +kernel
theorem dX2_push_60 : decode cX2_push 60 = .ok (.imul, 1) := by decide +kernel
theorem dX2_push_61 : decode cX2_push 61 = .ok (.aload_n 0, 1) := by decide +kernel
theorem dX2_push_62 : decode cX2_push 62 = .ok (.getfield 9, 3) := by decide +kernel
theorem dX2_push_65 : decode cX2_push 65 = .ok (.iload_n 3, 1) := by decide +kernel
theorem dX2_push_66 : decode cX2_push 66 = .ok (.iaload, 1) := by decide +kernel
theorem dX2_push_67 : decode cX2_push 67 = .ok (.imul, 1) := by decide +kernel
theorem dX2_push_68 : decode cX2_push 68 = .ok (.istore 4, 2) := by decide +kernel
theorem dX2_push_70 : decode cX2_push 70 = .ok (.aload_n 0, 1) := by decide +kernel
theorem dX2_push_71 : decode cX2_push 71 = .ok (.iload_n 3, 1) := by decide +kernel
theorem dX2_push_72 : decode cX2_push 72 = .ok (.aload_n 1, 1) := by decide +kernel
theorem dX2_push_73 : decode cX2_push 73 = .ok (.invokevirtual 95, 3) := by decide +kernel
theorem dX2_push_76 : decode cX2_push 76 = .ok (.iload 4, 2) := by decide +kernel
theorem dX2_push_78 : decode cX2_push 78 = .ok (.ireturn, 1) := by decide +kernel
theorem dX2_easiest_0 : decode cX2_easiest 0 = .ok (.bipush (-4), 2) := by decide +kernel
theorem dX2_easiest_2 : decode cX2_easiest 2 = .ok (.istore 4, 2) := by decide +kernel
theorem dX2_easiest_4 : decode cX2_easiest 4 = .ok (.iconst 0, 1) := by decide +kernel
theorem dX2_easiest_5 : decode cX2_easiest 5 = .ok (.istore 5, 2) := by decide +kernel
theorem dX2_easiest_7 : decode cX2_easiest 7 = .ok (.iconst 0, 1) := by decide +kernel
theorem dX2_easiest_8 : decode cX2_easiest 8 = .ok (.istore 6, 2) := by decide +kernel
theorem dX2_easiest_10 : decode cX2_easiest 10 = .ok (.iload 6, 2) := by decide +kernel
theorem dX2_easiest_12 : decode cX2_easiest 12 = .ok (.aload_n 1, 1) := by decide +kernel
theorem dX2_easiest_13 : decode cX2_easiest 13 = .ok (.getfield 99, 3) := by decide +kernel
theorem dX2_easiest_16 : decode cX2_easiest 16 = .ok (.if_icmp .ge 90, 3) := by decide +kernel
theorem dX2_easiest_19 : decode cX2_easiest 19 = .ok (.aload_n 0, 1) := by decide +kernel
theorem dX2_easiest_20 : decode cX2_easiest 20 = .ok (.getfield 9, 3) := by decide +kernel
theorem dX2_easiest_23 : decode cX2_easiest 23 = .ok (.iload 6, 2) := by decide +kernel
theorem dX2_easiest_25 : decode cX2_easiest 25 = .ok (.iaload, 1) := by decide +kernel
theorem dX2_easiest_26 : decode cX2_easiest 26 = .ok (.aload_n 1, 1) := by decide +kernel
theorem dX2_easiest_27 : decode cX2_easiest 27 = .ok (.getfield 102, 3) := by decide +kernel
theorem dX2_easiest_30 : decode cX2_easiest 30 = .ok (.iload 6, 2) := by decide +kernel
theorem dX2_easiest_32 : decode cX2_easiest 32 = .ok (.iaload, 1) := by decide +kernel
theorem dX2_easiest_33 : decode cX2_easiest 33 = .ok (.if_icmp .lt 7, 3) := by decide +kernel
theorem dX2_easiest_36 : decode cX2_easiest 36 = .ok (.iconst 1, 1) := by decide +kernel
theorem dX2_easiest_37 : decode cX2_easiest 37 = .ok (.goto 4, 3) := by decide +kernel
theorem dX2_easiest_40 : decode cX2_easiest 40 = .ok (.iconst 0, 1) := by decide +kernel
theorem dX2_easiest_41 : decode cX2_easiest 41 = .ok (.iload_n 3, 1) := by decide +kernel
theorem dX2_easiest_42 : decode cX2_easiest 42 = .ok (.if_icmp .ne 58, 3) := by decide +kernel
theorem dX2_easiest_45 : decode cX2_easiest 45 = .ok (.aload_n 2, 1) := by decide +kernel
theorem dX2_easiest_46 : decode cX2_easiest 46 = .ok (.getfield 92, 3) := by decide +kernel
theorem dX2_easiest_49 : decode cX2_easiest 49 = .ok (.iload 6, 2) := by decide +kernel
theorem dX2_easiest_51 : decode cX2_easiest 51 = .ok (.iaload, 1) := by decide +kernel
theorem dX2_easiest_52 : decode cX2_easiest 52 = .ok (.iload_n 3, 1) := by decide +kernel
theorem dX2_easiest_53 : decode cX2_easiest 53 = .ok (.ifCond .eq 13, 3) := by decide +kernel
theorem dX2_easiest_56 : decode cX2_easiest 56 = .ok (.aload_n 0, 1) := by decide +kernel
theorem dX2_easiest_57 : decode cX2_easiest 57 = .ok (.getfield 9, 3) := by decide +kernel
theorem dX2_easiest_60 : decode cX2_easiest 60 = .ok (.iload 6, 2) := by decide +kernel
theorem dX2_easiest_62 : decode cX2_easiest 62 = .ok (.iaload, 1) := by decide +kernel
theorem dX2_easiest_63 : decode cX2_easiest 63 = .ok (.goto 12, 3) := by decide +kernel
theorem dX2_easiest_66 : decode cX2_easiest 66 = .ok (.aload_n 0, 1) := by decide +kernel
theorem dX2_easiest_67 : decode cX2_easiest 67 = .ok (.getfield 9, 3) := by decide +kernel
theorem dX2_easiest_70 : decode cX2_easiest 70 = .ok (.iload 6, 2) := by decide +kernel
theorem dX2_easiest_72 : decode cX2_easiest 72 = .ok (.iaload, 1) := by decide +kernel
theorem dX2_easiest_73 : decode cX2_easiest 73 = .ok (.iconst 1, 1) := by decide +kernel
theorem dX2_easiest_74 : decode cX2_easiest 74 = .ok (.iadd, 1) := by decide +kernel
theorem dX2_easiest_75 : decode cX2_easiest 75 = .ok (.imul, 1) := by decide +kernel
theorem dX2_easiest_76 : decode cX2_easiest 76 = .ok (.istore 7, 2) := by decide +kernel
theorem dX2_easiest_78 : decode cX2_easiest 78 = .ok (.iload 4, 2) := by decide +kernel
theorem dX2_easiest_80 : decode cX2_easiest 80 = .ok (.bipush (-4), 2) := by decide +kernel
theorem dX2_easiest_82 : decode cX2_easiest 82 = .ok (.if_icmp .eq 10, 3) := by decide +kernel
theorem dX2_easiest_85 : decode cX2_easiest 85 = .ok (.iload 7, 2) := by decide +kernel
theorem dX2_easiest_87 : decode cX2_easiest 87 = .ok (.iload 5, 2) := by decide +kernel
theorem dX2_easiest_89 : decode cX2_easiest 89 = .ok (.if_icmp .ge 11, 3) := by decide +kernel
theorem dX2_easiest_92 : decode cX2_easiest 92 = .ok (.iload 6, 2) := by decide +kernel
theorem dX2_easiest_94 : decode cX2_easiest 94 = .ok (.istore 4, 2) := by decide +kernel
theorem dX2_easiest_96 : decode cX2_easiest 96 = .ok (.iload 7, 2) := by decide +kernel
theorem dX2_easiest_98 : decode cX2_easiest 98 = .ok (.istore 5, 2) := by decide +kernel
theorem dX2_easiest_100 : decode cX2_easiest 100 = .ok (.iinc 6 1, 3) := by decide +kernel
theorem dX2_easiest_103 : decode cX2_easiest 103 = .ok (.goto (-93), 3) := by decide +kernel
theorem dX2_easiest_106 : decode cX2_easiest 106 = .ok (.iload 4, 2) := by decide +kernel
theorem dX2_easiest_108 : decode cX2_easiest 108 = .ok (.ireturn, 1) := by decide +kernel
theorem dX2_addMelt_0 : decode cX2_addMelt 0 = .ok (.aload_n 0, 1) := by decide +kernel
theorem dX2_addMelt_1 : decode cX2_addMelt 1 = .ok (.getfield 9, 3) := by decide +kernel
theorem dX2_addMelt_4 : decode cX2_addMelt 4 = .ok (.iload_n 1, 1) := by decide +kernel
theorem dX2_addMelt_5 : decode cX2_addMelt 5 = .ok (.iaload, 1) := by decide +kernel
theorem dX2_addMelt_6 : decode cX2_addMelt 6 = .ok (.ifCond .ne 13, 3) := by decide +kernel
theorem dX2_addMelt_9 : decode cX2_addMelt 9 = .ok (.aload_n 0, 1) := by decide +kernel
theorem dX2_addMelt_10 : decode cX2_addMelt 10 = .ok (.getfield 15, 3) := by decide +kernel
theorem dX2_addMelt_13 : decode cX2_addMelt 13 = .ok (.iload_n 1, 1) := by decide +kernel
theorem dX2_addMelt_14 : decode cX2_addMelt 14 = .ok (.aload_n 0, 1) := by decide +kernel
theorem dX2_addMelt_15 : decode cX2_addMelt 15 = .ok (.getfield 31, 3) := by decide +kernel
theorem dX2_addMelt_18 : decode cX2_addMelt 18 = .ok (.iastore, 1) := by decide +kernel
theorem dX2_addMelt_19 : decode cX2_addMelt 19 = .ok (.aload_n 0, 1) := by decide +kernel
theorem dX2_addMelt_20 : decode cX2_addMelt 20 = .ok (.getfield 9, 3) := by decide +kernel
theorem dX2_addMelt_23 : decode cX2_addMelt 23 = .ok (.iload_n 1, 1) := by decide +kernel
theorem dX2_addMelt_24 : decode cX2_addMelt 24 = .ok (.dup2, 1) := by decide +kernel
theorem dX2_addMelt_25 : decode cX2_addMelt 25 = .ok (.iaload, 1) := by decide +kernel
theorem dX2_addMelt_26 : decode cX2_addMelt 26 = .ok (.iconst 1, 1) := by decide +kernel
theorem dX2_addMelt_27 : decode cX2_addMelt 27 = .ok (.iadd, 1) := by decide +kernel
theorem dX2_addMelt_28 : decode cX2_addMelt 28 = .ok (.iastore, 1) := by decide +kernel
theorem dX2_addMelt_29 : decode cX2_addMelt 29 = .ok (.aload_n 0, 1) := by decide +kernel
theorem dX2_addMelt_30 : decode cX2_addMelt 30 = .ok (.getfield 9, 3) := by decide +kernel
theorem dX2_addMelt_33 : decode cX2_addMelt 33 = .ok (.iload_n 1, 1) := by decide +kernel
theorem dX2_addMelt_34 : decode cX2_addMelt 34 = .ok (.iaload, 1) := by decide +kernel
theorem dX2_addMelt_35 : decode cX2_addMelt 35 = .ok (.aload_n 2, 1) := by decide +kernel
theorem dX2_addMelt_36 : decode cX2_addMelt 36 = .ok (.getfield 102, 3) := by decide +kernel
theorem dX2_addMelt_39 : decode cX2_addMelt 39 = .ok (.iload_n 1, 1) := by decide +kernel
theorem dX2_addMelt_40 : decode cX2_addMelt 40 = .ok (.iaload, 1) := by decide +kernel
theorem dX2_addMelt_41 : decode cX2_addMelt 41 = .ok (.if_icmp .ne 13, 3) := by decide +kernel
theorem dX2_addMelt_44 : decode cX2_addMelt 44 = .ok (.aload_n 0, 1) := by decide +kernel
theorem dX2_addMelt_45 : decode cX2_addMelt 45 = .ok (.getfield 18, 3) := by decide +kernel
theorem dX2_addMelt_48 : decode cX2_addMelt 48 = .ok (.iload_n 1, 1) := by decide +kernel
theorem dX2_addMelt_49 : decode cX2_addMelt 49 = .ok (.aload_n 0, 1) := by decide +kernel
theorem dX2_addMelt_50 : decode cX2_addMelt 50 = .ok (.getfield 31, 3) := by decide +kernel
theorem dX2_addMelt_53 : decode cX2_addMelt 53 = .ok (.iastore, 1) := by decide +kernel
theorem dX2_addMelt_54 : decode cX2_addMelt 54 = .ok (.return_, 1) := by decide +kernel
set_option maxRecDepth 20000 in
theorem ggX2_hold_X2_isFrozen : GoodIn wsX2_hold wsX2_isFrozen := goodIn_r _ [14, 15, 6, 31, 32, 33, 34, 35, 36, 37, 38, 39, 40, 41, 42, 43, 44, 45, 46, 47, 48, 49] (by decide +kernel) (by decide +kernel)
set_option maxRecDepth 20000 in
theorem gX2_hold_X2_isFrozen : GoodIn wsX2_hold (wsV RX2 105 RX2 yX2_isFrozen wsX2_isFrozen) := goodIn_app (goodIn_of _ (by decide +kernel)) ggX2_hold_X2_isFrozen
set_option maxRecDepth 20000 in
theorem ggX2_hold_X2_addMelt : GoodIn wsX2_hold wsX2_addMelt := goodIn_r _ [19, 7, 15, 6, 20, 31, 32, 33, 34, 35, 36, 37, 38, 39, 40, 41, 42, 43, 44, 45, 46, 47, 48, 49] (by decide +kernel) (by decide +kernel)
set_option maxRecDepth 20000 in
theorem gX2_hold_X2_addMelt : GoodIn wsX2_hold (wsV RX2 95 RX2 yX2_addMelt wsX2_addMelt) := goodIn_app (goodIn_of _ (by decide +kernel)) ggX2_hold_X2_addMelt
theorem dX2_hold_0 : decode cX2_hold 0 = .ok (.aload_n 2, 1) := by decide +kernel
theorem dX2_hold_1 : decode cX2_hold 1 = .ok (.getfield 51, 3) := by decide +kernel
theorem dX2_hold_4 : decode cX2_hold 4 = .ok (.iconst 3, 1) := by decide +kernel
theorem dX2_hold_5 : decode cX2_hold 5 = .ok (.iaload, 1) := by decide +kernel
theorem dX2_hold_6 : decode cX2_hold 6 = .ok (.istore_n 3, 1) := by decide +kernel
theorem dX2_hold_7 : decode cX2_hold 7 = .ok (.bipush 60, 2) := by decide +kernel
theorem dX2_hold_9 : decode cX2_hold 9 = .ok (.aload_n 0, 1) := by decide +kernel
theorem dX2_hold_10 : decode cX2_hold 10 = .ok (.getfield 28, 3) := by decide +kernel
theorem dX2_hold_13 : decode cX2_hold 13 = .ok (.aload_n 2, 1) := by decide +kernel
theorem dX2_hold_14 : decode cX2_hold 14 = .ok (.getfield 51, 3) := by decide +kernel
theorem dX2_hold_17 : decode cX2_hold 17 = .ok (.iconst 4, 1) := by decide +kernel
theorem dX2_hold_18 : decode cX2_hold 18 = .ok (.iaload, 1) := by decide +kernel
theorem dX2_hold_19 : decode cX2_hold 19 = .ok (.iadd, 1) := by decide +kernel
theorem dX2_hold_20 : decode cX2_hold 20 = .ok (.invokestatic 60, 3) := by decide +kernel
theorem dX2_hold_23 : decode cX2_hold 23 = .ok (.istore 4, 2) := by decide +kernel
theorem dX2_hold_25 : decode cX2_hold 25 = .ok (.aload_n 0, 1) := by decide +kernel
theorem dX2_hold_26 : decode cX2_hold 26 = .ok (.getfield 28, 3) := by decide +kernel
theorem dX2_hold_29 : decode cX2_hold 29 = .ok (.iconst 1, 1) := by decide +kernel
theorem dX2_hold_30 : decode cX2_hold 30 = .ok (.iadd, 1) := by decide +kernel
theorem dX2_hold_31 : decode cX2_hold 31 = .ok (.istore 5, 2) := by decide +kernel
theorem dX2_hold_33 : decode cX2_hold 33 = .ok (.iload 5, 2) := by decide +kernel
theorem dX2_hold_35 : decode cX2_hold 35 = .ok (.iload 4, 2) := by decide +kernel
theorem dX2_hold_37 : decode cX2_hold 37 = .ok (.if_icmp .gt 110, 3) := by decide +kernel
theorem dX2_hold_40 : decode cX2_hold 40 = .ok (.aload_n 0, 1) := by decide +kernel
theorem dX2_hold_41 : decode cX2_hold 41 = .ok (.iload 5, 2) := by decide +kernel
theorem dX2_hold_43 : decode cX2_hold 43 = .ok (.putfield 31, 3) := by decide +kernel
theorem dX2_hold_46 : decode cX2_hold 46 = .ok (.iconst 0, 1) := by decide +kernel
theorem dX2_hold_47 : decode cX2_hold 47 = .ok (.istore 6, 2) := by decide +kernel
theorem dX2_hold_49 : decode cX2_hold 49 = .ok (.iload 6, 2) := by decide +kernel
theorem dX2_hold_51 : decode cX2_hold 51 = .ok (.aload_n 1, 1) := by decide +kernel
theorem dX2_hold_52 : decode cX2_hold 52 = .ok (.getfield 99, 3) := by decide +kernel
theorem dX2_hold_55 : decode cX2_hold 55 = .ok (.if_icmp .ge 76, 3) := by decide +kernel
theorem dX2_hold_58 : decode cX2_hold 58 = .ok (.aload_n 0, 1) := by decide +kernel
theorem dX2_hold_59 : decode cX2_hold 59 = .ok (.iload 6, 2) := by decide +kernel
theorem dX2_hold_61 : decode cX2_hold 61 = .ok (.aload_n 1, 1) := by decide +kernel
theorem dX2_hold_62 : decode cX2_hold 62 = .ok (.invokevirtual 105, 3) := by decide +kernel
theorem dX2_hold_65 : decode cX2_hold 65 = .ok (.ifCond .ne 26, 3) := by decide +kernel
theorem dX2_hold_68 : decode cX2_hold 68 = .ok (.aload_n 2, 1) := by decide +kernel
theorem dX2_hold_69 : decode cX2_hold 69 = .ok (.getfield 92, 3) := by decide +kernel
theorem dX2_hold_72 : decode cX2_hold 72 = .ok (.iload 6, 2) := by decide +kernel
theorem dX2_hold_74 : decode cX2_hold 74 = .ok (.iaload, 1) := by decide +kernel
theorem dX2_hold_75 : decode cX2_hold 75 = .ok (.aload_n 0, 1) := by decide +kernel
theorem dX2_hold_76 : decode cX2_hold 76 = .ok (.getfield 9, 3) := by decide +kernel
theorem dX2_hold_79 : decode cX2_hold 79 = .ok (.iload 6, 2) := by decide +kernel
theorem dX2_hold_81 : decode cX2_hold 81 = .ok (.iaload, 1) := by decide +kernel
theorem dX2_hold_82 : decode cX2_hold 82 = .ok (.imul, 1) := by decide +kernel
theorem dX2_hold_83 : decode cX2_hold 83 = .ok (.iload_n 3, 1) := by decide +kernel
theorem dX2_hold_84 : decode cX2_hold 84 = .ok (.if_icmp .ge 7, 3) := by decide +kernel
theorem dX2_hold_87 : decode cX2_hold 87 = .ok (.iconst 1, 1) := by decide +kernel
theorem dX2_hold_88 : decode cX2_hold 88 = .ok (.goto 4, 3) := by decide +kernel
theorem dX2_hold_91 : decode cX2_hold 91 = .ok (.iconst 0, 1) := by decide +kernel
theorem dX2_hold_92 : decode cX2_hold 92 = .ok (.istore 7, 2) := by decide +kernel
theorem dX2_hold_94 : decode cX2_hold 94 = .ok (.iload 7, 2) := by decide +kernel
theorem dX2_hold_96 : decode cX2_hold 96 = .ok (.ifCond .eq 29, 3) := by decide +kernel
theorem dX2_hold_99 : decode cX2_hold 99 = .ok (.aload_n 0, 1) := by decide +kernel
theorem dX2_hold_100 : decode cX2_hold 100 = .ok (.getfield 24, 3) := by decide +kernel
theorem dX2_hold_103 : decode cX2_hold 103 = .ok (.bipush 99, 2) := by decide +kernel
theorem dX2_hold_105 : decode cX2_hold 105 = .ok (.if_icmp .ge 20, 3) := by decide +kernel
theorem dX2_hold_108 : decode cX2_hold 108 = .ok (.aload_n 0, 1) := by decide +kernel
theorem dX2_hold_109 : decode cX2_hold 109 = .ok (.iload 6, 2) := by decide +kernel
theorem dX2_hold_111 : decode cX2_hold 111 = .ok (.aload_n 1, 1) := by decide +kernel
theorem dX2_hold_112 : decode cX2_hold 112 = .ok (.invokevirtual 95, 3) := by decide +kernel
theorem dX2_hold_115 : decode cX2_hold 115 = .ok (.aload_n 0, 1) := by decide +kernel
theorem dX2_hold_116 : decode cX2_hold 116 = .ok (.dup, 1) := by decide +kernel
theorem dX2_hold_117 : decode cX2_hold 117 = .ok (.getfield 24, 3) := by decide +kernel
theorem dX2_hold_120 : decode cX2_hold 120 = .ok (.iconst 1, 1) := by decide +kernel
theorem dX2_hold_121 : decode cX2_hold 121 = .ok (.iadd, 1) := by decide +kernel
theorem dX2_hold_122 : decode cX2_hold 122 = .ok (.putfield 24, 3) := by decide +kernel
theorem dX2_hold_125 : decode cX2_hold 125 = .ok (.iinc 6 1, 3) := by decide +kernel
theorem dX2_hold_128 : decode cX2_hold 128 = .ok (.goto (-79), 3) := by decide +kernel
theorem dX2_hold_131 : decode cX2_hold 131 = .ok (.aload_n 0, 1) := by decide +kernel
theorem dX2_hold_132 : decode cX2_hold 132 = .ok (.getfield 21, 3) := by decide +kernel
theorem dX2_hold_135 : decode cX2_hold 135 = .ok (.iload 5, 2) := by decide +kernel
theorem dX2_hold_137 : decode cX2_hold 137 = .ok (.iconst 1, 1) := by decide +kernel
theorem dX2_hold_138 : decode cX2_hold 138 = .ok (.isub, 1) := by decide +kernel
theorem dX2_hold_139 : decode cX2_hold 139 = .ok (.iload_n 3, 1) := by decide +kernel
theorem dX2_hold_140 : decode cX2_hold 140 = .ok (.iastore, 1) := by decide +kernel
theorem dX2_hold_141 : decode cX2_hold 141 = .ok (.iinc 5 1, 3) := by decide +kernel
theorem dX2_hold_144 : decode cX2_hold 144 = .ok (.goto (-111), 3) := by decide +kernel
theorem dX2_hold_147 : decode cX2_hold 147 = .ok (.return_, 1) := by decide +kernel
theorem dX2_isFrozen_0 : decode cX2_isFrozen 0 = .ok (.aload_n 0, 1) := by decide +kernel
theorem dX2_isFrozen_1 : decode cX2_isFrozen 1 = .ok (.getfield 15, 3) := by decide +kernel
theorem dX2_isFrozen_4 : decode cX2_isFrozen 4 = .ok (.iload_n 1, 1) := by decide +kernel
theorem dX2_isFrozen_5 : decode cX2_isFrozen 5 = .ok (.iaload, 1) := by decide +kernel
theorem dX2_isFrozen_6 : decode cX2_isFrozen 6 = .ok (.ifCond .eq 27, 3) := by decide +kernel
theorem dX2_isFrozen_9 : decode cX2_isFrozen 9 = .ok (.aload_n 0, 1) := by decide +kernel
theorem dX2_isFrozen_10 : decode cX2_isFrozen 10 = .ok (.getfield 31, 3) := by decide +kernel
theorem dX2_isFrozen_13 : decode cX2_isFrozen 13 = .ok (.aload_n 0, 1) := by decide +kernel
theorem dX2_isFrozen_14 : decode cX2_isFrozen 14 = .ok (.getfield 15, 3) := by decide +kernel
theorem dX2_isFrozen_17 : decode cX2_isFrozen 17 = .ok (.iload_n 1, 1) := by decide +kernel
theorem dX2_isFrozen_18 : decode cX2_isFrozen 18 = .ok (.iaload, 1) := by decide +kernel
theorem dX2_isFrozen_19 : decode cX2_isFrozen 19 = .ok (.isub, 1) := by decide +kernel
theorem dX2_isFrozen_20 : decode cX2_isFrozen 20 = .ok (.aload_n 2, 1) := by decide +kernel
theorem dX2_isFrozen_21 : decode cX2_isFrozen 21 = .ok (.getfield 109, 3) := by decide +kernel
theorem dX2_isFrozen_24 : decode cX2_isFrozen 24 = .ok (.iload_n 1, 1) := by decide +kernel
theorem dX2_isFrozen_25 : decode cX2_isFrozen 25 = .ok (.iaload, 1) := by decide +kernel
theorem dX2_isFrozen_26 : decode cX2_isFrozen 26 = .ok (.if_icmp .lt 7, 3) := by decide +kernel
theorem dX2_isFrozen_29 : decode cX2_isFrozen 29 = .ok (.iconst 1, 1) := by decide +kernel
theorem dX2_isFrozen_30 : decode cX2_isFrozen 30 = .ok (.goto 4, 3) := by decide +kernel
theorem dX2_isFrozen_33 : decode cX2_isFrozen 33 = .ok (.iconst 0, 1) := by decide +kernel
theorem dX2_isFrozen_34 : decode cX2_isFrozen 34 = .ok (.ireturn, 1) := by decide +kernel
set_option maxRecDepth 20000 in
theorem ggX2_told_X2_balance : GoodIn wsX2_told wsX2_balance := goodIn_r _ [9, 10, 11, 12, 13, 14, 15, 16, 17, 28, 29, 30, 31, 32, 33, 34, 35, 36] (by decide +kernel) (by decide +kernel)
set_option maxRecDepth 20000 in
theorem gX2_told_X2_balance : GoodIn wsX2_told (wsV RX2 112 RX2 yX2_balance wsX2_balance) := goodIn_app (goodIn_of _ (by decide +kernel)) ggX2_told_X2_balance
set_option maxRecDepth 20000 in
theorem ggX2_told_X2_whole : GoodIn wsX2_told wsX2_whole := goodIn_r _ [21, 2, 22, 28, 29, 30, 31, 32, 33, 34, 35, 36] (by decide +kernel) (by decide +kernel)
set_option maxRecDepth 20000 in
theorem gX2_told_X2_whole : GoodIn wsX2_told (wsV RX2 116 RX2 yX2_whole wsX2_whole) := goodIn_app (goodIn_of _ (by decide +kernel)) ggX2_told_X2_whole
set_option maxRecDepth 20000 in
theorem ggX2_told_X2_greatestPressure : GoodIn wsX2_told wsX2_greatestPressure := goodIn_r _ [26, 27, 15, 16, 13, 17, 28, 29, 30, 31, 32, 33, 34, 35, 36] (by decide +kernel) (by decide +kernel)
set_option maxRecDepth 20000 in
theorem gX2_told_X2_greatestPressure : GoodIn wsX2_told (wsV RX2 119 RX2 yX2_greatestPressure wsX2_greatestPressure) := goodIn_app (goodIn_of _ (by decide +kernel)) ggX2_told_X2_greatestPressure
theorem dX2_told_0 : decode cX2_told 0 = .ok (.iload_n 1, 1) := by decide +kernel
theorem dX2_told_1 : decode cX2_told 1 = .ok (.tableswitch 81 0 6 #[43, 48, 53, 58, 66, 71, 76], 43) := by decide +kernel
theorem dX2_told_44 : decode cX2_told 44 = .ok (.aload_n 0, 1) := by decide +kernel
theorem dX2_told_45 : decode cX2_told 45 = .ok (.getfield 28, 3) := by decide +kernel
theorem dX2_told_48 : decode cX2_told 48 = .ok (.ireturn, 1) := by decide +kernel
theorem dX2_told_49 : decode cX2_told 49 = .ok (.aload_n 0, 1) := by decide +kernel
theorem dX2_told_50 : decode cX2_told 50 = .ok (.getfield 31, 3) := by decide +kernel
theorem dX2_told_53 : decode cX2_told 53 = .ok (.ireturn, 1) := by decide +kernel
theorem dX2_told_54 : decode cX2_told 54 = .ok (.aload_n 0, 1) := by decide +kernel
theorem dX2_told_55 : decode cX2_told 55 = .ok (.getfield 37, 3) := by decide +kernel
theorem dX2_told_58 : decode cX2_told 58 = .ok (.ireturn, 1) := by decide +kernel
theorem dX2_told_59 : decode cX2_told 59 = .ok (.bipush 99, 2) := by decide +kernel
theorem dX2_told_61 : decode cX2_told 61 = .ok (.aload_n 0, 1) := by decide +kernel
theorem dX2_told_62 : decode cX2_told 62 = .ok (.getfield 24, 3) := by decide +kernel
theorem dX2_told_65 : decode cX2_told 65 = .ok (.isub, 1) := by decide +kernel
theorem dX2_told_66 : decode cX2_told 66 = .ok (.ireturn, 1) := by decide +kernel
theorem dX2_told_67 : decode cX2_told 67 = .ok (.aload_n 0, 1) := by decide +kernel
theorem dX2_told_68 : decode cX2_told 68 = .ok (.invokevirtual 112, 3) := by decide +kernel
theorem dX2_told_71 : decode cX2_told 71 = .ok (.ireturn, 1) := by decide +kernel
theorem dX2_told_72 : decode cX2_told 72 = .ok (.aload_n 0, 1) := by decide +kernel
theorem dX2_told_73 : decode cX2_told 73 = .ok (.invokevirtual 116, 3) := by decide +kernel
theorem dX2_told_76 : decode cX2_told 76 = .ok (.ireturn, 1) := by decide +kernel
theorem dX2_told_77 : decode cX2_told 77 = .ok (.aload_n 0, 1) := by decide +kernel
theorem dX2_told_78 : decode cX2_told 78 = .ok (.invokevirtual 119, 3) := by decide +kernel
theorem dX2_told_81 : decode cX2_told 81 = .ok (.ireturn, 1) := by decide +kernel
theorem dX2_told_82 : decode cX2_told 82 = .ok (.iconst (-1), 1) := by decide +kernel
theorem dX2_told_83 : decode cX2_told 83 = .ok (.ireturn, 1) := by decide +kernel
theorem dX2_whole_0 : decode cX2_whole 0 = .ok (.aload_n 0, 1) := by decide +kernel
theorem dX2_whole_1 : decode cX2_whole 1 = .ok (.getfield 31, 3) := by decide +kernel
theorem dX2_whole_4 : decode cX2_whole 4 = .ok (.aload_n 0, 1) := by decide +kernel
theorem dX2_whole_5 : decode cX2_whole 5 = .ok (.getfield 34, 3) := by decide +kernel
theorem dX2_whole_8 : decode cX2_whole 8 = .ok (.iadd, 1) := by decide +kernel
theorem dX2_whole_9 : decode cX2_whole 9 = .ok (.ireturn, 1) := by decide +kernel
theorem dX2_balance_0 : decode cX2_balance 0 = .ok (.bipush 60, 2) := by decide +kernel
theorem dX2_balance_2 : decode cX2_balance 2 = .ok (.istore_n 1, 1) := by decide +kernel
theorem dX2_balance_3 : decode cX2_balance 3 = .ok (.iconst 0, 1) := by decide +kernel
theorem dX2_balance_4 : decode cX2_balance 4 = .ok (.istore_n 2, 1) := by decide +kernel
theorem dX2_balance_5 : decode cX2_balance 5 = .ok (.iconst 0, 1) := by decide +kernel
theorem dX2_balance_6 : decode cX2_balance 6 = .ok (.istore_n 3, 1) := by decide +kernel
theorem dX2_balance_7 : decode cX2_balance 7 = .ok (.iload_n 3, 1) := by decide +kernel
theorem dX2_balance_8 : decode cX2_balance 8 = .ok (.bipush 6, 2) := by decide +kernel
theorem dX2_balance_10 : decode cX2_balance 10 = .ok (.if_icmp .ge 40, 3) := by decide +kernel
theorem dX2_balance_13 : decode cX2_balance 13 = .ok (.aload_n 0, 1) := by decide +kernel
theorem dX2_balance_14 : decode cX2_balance 14 = .ok (.getfield 18, 3) := by decide +kernel
theorem dX2_balance_17 : decode cX2_balance 17 = .ok (.iload_n 3, 1) := by decide +kernel
theorem dX2_balance_18 : decode cX2_balance 18 = .ok (.iaload, 1) := by decide +kernel
theorem dX2_balance_19 : decode cX2_balance 19 = .ok (.ifCond .eq 25, 3) := by decide +kernel
theorem dX2_balance_22 : decode cX2_balance 22 = .ok (.iload_n 1, 1) := by decide +kernel
theorem dX2_balance_23 : decode cX2_balance 23 = .ok (.aload_n 0, 1) := by decide +kernel
theorem dX2_balance_24 : decode cX2_balance 24 = .ok (.getfield 18, 3) := by decide +kernel
theorem dX2_balance_27 : decode cX2_balance 27 = .ok (.iload_n 3, 1) := by decide +kernel
theorem dX2_balance_28 : decode cX2_balance 28 = .ok (.iaload, 1) := by decide +kernel
theorem dX2_balance_29 : decode cX2_balance 29 = .ok (.invokestatic 60, 3) := by decide +kernel
theorem dX2_balance_32 : decode cX2_balance 32 = .ok (.istore_n 1, 1) := by decide +kernel
theorem dX2_balance_33 : decode cX2_balance 33 = .ok (.iload_n 2, 1) := by decide +kernel
theorem dX2_balance_34 : decode cX2_balance 34 = .ok (.aload_n 0, 1) := by decide +kernel
theorem dX2_balance_35 : decode cX2_balance 35 = .ok (.getfield 18, 3) := by decide +kernel
theorem dX2_balance_38 : decode cX2_balance 38 = .ok (.iload_n 3, 1) := by decide +kernel
theorem dX2_balance_39 : decode cX2_balance 39 = .ok (.iaload, 1) := by decide +kernel
theorem dX2_balance_40 : decode cX2_balance 40 = .ok (.invokestatic 70, 3) := by decide +kernel
theorem dX2_balance_43 : decode cX2_balance 43 = .ok (.istore_n 2, 1) := by decide +kernel
theorem dX2_balance_44 : decode cX2_balance 44 = .ok (.iinc 3 1, 3) := by decide +kernel
theorem dX2_balance_47 : decode cX2_balance 47 = .ok (.goto (-40), 3) := by decide +kernel
theorem dX2_balance_50 : decode cX2_balance 50 = .ok (.iconst 0, 1) := by decide +kernel
theorem dX2_balance_51 : decode cX2_balance 51 = .ok (.iload_n 2, 1) := by decide +kernel
theorem dX2_balance_52 : decode cX2_balance 52 = .ok (.iload_n 1, 1) := by decide +kernel
theorem dX2_balance_53 : decode cX2_balance 53 = .ok (.isub, 1) := by decide +kernel
theorem dX2_balance_54 : decode cX2_balance 54 = .ok (.invokestatic 70, 3) := by decide +kernel
theorem dX2_balance_57 : decode cX2_balance 57 = .ok (.ireturn, 1) := by decide +kernel
theorem dX2_greatestPressure_0 : decode cX2_greatestPressure 0 = .ok (.iconst 0, 1) := by decide +kernel
theorem dX2_greatestPressure_1 : decode cX2_greatestPressure 1 = .ok (.istore_n 1, 1) := by decide +kernel
theorem dX2_greatestPressure_2 : decode cX2_greatestPressure 2 = .ok (.iconst 0, 1) := by decide +kernel
theorem dX2_greatestPressure_3 : decode cX2_greatestPressure 3 = .ok (.istore_n 2, 1) := by decide +kernel
theorem dX2_greatestPressure_4 : decode cX2_greatestPressure 4 = .ok (.iload_n 2, 1) := by decide +kernel
theorem dX2_greatestPressure_5 : decode cX2_greatestPressure 5 = .ok (.bipush 60, 2) := by decide +kernel
theorem dX2_greatestPressure_7 : decode cX2_greatestPressure 7 = .ok (.if_icmp .ge 20, 3) := by decide +kernel
theorem dX2_greatestPressure_10 : decode cX2_greatestPressure 10 = .ok (.iload_n 1, 1) := by decide +kernel
theorem dX2_greatestPressure_11 : decode cX2_greatestPressure 11 = .ok (.aload_n 0, 1) := by decide +kernel
theorem dX2_greatestPressure_12 : decode cX2_greatestPressure 12 = .ok (.getfield 21, 3) := by decide +kernel
theorem dX2_greatestPressure_15 : decode cX2_greatestPressure 15 = .ok (.iload_n 2, 1) := by decide +kernel
theorem dX2_greatestPressure_16 : decode cX2_greatestPressure 16 = .ok (.iaload, 1) := by decide +kernel
theorem dX2_greatestPressure_17 : decode cX2_greatestPressure 17 = .ok (.invokestatic 70, 3) := by decide +kernel
theorem dX2_greatestPressure_20 : decode cX2_greatestPressure 20 = .ok (.istore_n 1, 1) := by decide +kernel
theorem dX2_greatestPressure_21 : decode cX2_greatestPressure 21 = .ok (.iinc 2 1, 3) := by decide +kernel
theorem dX2_greatestPressure_24 : decode cX2_greatestPressure 24 = .ok (.goto (-20), 3) := by decide +kernel
theorem dX2_greatestPressure_27 : decode cX2_greatestPressure 27 = .ok (.iload_n 1, 1) := by decide +kernel
theorem dX2_greatestPressure_28 : decode cX2_greatestPressure 28 = .ok (.ireturn, 1) := by decide +kernel
theorem dX2_isShort_0 : decode cX2_isShort 0 = .ok (.iconst 0, 1) := by decide +kernel
theorem dX2_isShort_1 : decode cX2_isShort 1 = .ok (.istore_n 2, 1) := by decide +kernel
theorem dX2_isShort_2 : decode cX2_isShort 2 = .ok (.iload_n 2, 1) := by decide +kernel
theorem dX2_isShort_3 : decode cX2_isShort 3 = .ok (.aload_n 1, 1) := by decide +kernel
theorem dX2_isShort_4 : decode cX2_isShort 4 = .ok (.getfield 99, 3) := by decide +kernel
theorem dX2_isShort_7 : decode cX2_isShort 7 = .ok (.if_icmp .ge 26, 3) := by decide +kernel
theorem dX2_isShort_10 : decode cX2_isShort 10 = .ok (.aload_n 0, 1) := by decide +kernel
theorem dX2_isShort_11 : decode cX2_isShort 11 = .ok (.getfield 9, 3) := by decide +kernel
theorem dX2_isShort_14 : decode cX2_isShort 14 = .ok (.iload_n 2, 1) := by decide +kernel
theorem dX2_isShort_15 : decode cX2_isShort 15 = .ok (.iaload, 1) := by decide +kernel
theorem dX2_isShort_16 : decode cX2_isShort 16 = .ok (.aload_n 1, 1) := by decide +kernel
theorem dX2_isShort_17 : decode cX2_isShort 17 = .ok (.getfield 102, 3) := by decide +kernel
theorem dX2_isShort_20 : decode cX2_isShort 20 = .ok (.iload_n 2, 1) := by decide +kernel
theorem dX2_isShort_21 : decode cX2_isShort 21 = .ok (.iaload, 1) := by decide +kernel
theorem dX2_isShort_22 : decode cX2_isShort 22 = .ok (.if_icmp .ge 5, 3) := by decide +kernel
theorem dX2_isShort_25 : decode cX2_isShort 25 = .ok (.iconst 1, 1) := by decide +kernel
theorem dX2_isShort_26 : decode cX2_isShort 26 = .ok (.ireturn, 1) := by decide +kernel
theorem dX2_isShort_27 : decode cX2_isShort 27 = .ok (.iinc 2 1, 3) := by decide +kernel
theorem dX2_isShort_30 : decode cX2_isShort 30 = .ok (.goto (-28), 3) := by decide +kernel
theorem dX2_isShort_33 : decode cX2_isShort 33 = .ok (.iconst 0, 1) := by decide +kernel
theorem dX2_isShort_34 : decode cX2_isShort 34 = .ok (.ireturn, 1) := by decide +kernel
theorem dX2_isFarOff_0 : decode cX2_isFarOff 0 = .ok (.iconst 0, 1) := by decide +kernel
theorem dX2_isFarOff_1 : decode cX2_isFarOff 1 = .ok (.istore_n 2, 1) := by decide +kernel
theorem dX2_isFarOff_2 : decode cX2_isFarOff 2 = .ok (.iload_n 2, 1) := by decide +kernel
theorem dX2_isFarOff_3 : decode cX2_isFarOff 3 = .ok (.aload_n 1, 1) := by decide +kernel
theorem dX2_isFarOff_4 : decode cX2_isFarOff 4 = .ok (.getfield 99, 3) := by decide +kernel
theorem dX2_isFarOff_7 : decode cX2_isFarOff 7 = .ok (.if_icmp .ge 31, 3) := by decide +kernel
theorem dX2_isFarOff_10 : decode cX2_isFarOff 10 = .ok (.aload_n 0, 1) := by decide +kernel
theorem dX2_isFarOff_11 : decode cX2_isFarOff 11 = .ok (.getfield 9, 3) := by decide +kernel
theorem dX2_isFarOff_14 : decode cX2_isFarOff 14 = .ok (.iload_n 2, 1) := by decide +kernel
theorem dX2_isFarOff_15 : decode cX2_isFarOff 15 = .ok (.iaload, 1) := by decide +kernel
theorem dX2_isFarOff_16 : decode cX2_isFarOff 16 = .ok (.aload_n 1, 1) := by decide +kernel
theorem dX2_isFarOff_17 : decode cX2_isFarOff 17 = .ok (.getfield 102, 3) := by decide +kernel
theorem dX2_isFarOff_20 : decode cX2_isFarOff 20 = .ok (.iload_n 2, 1) := by decide +kernel
theorem dX2_isFarOff_21 : decode cX2_isFarOff 21 = .ok (.iaload, 1) := by decide +kernel
theorem dX2_isFarOff_22 : decode cX2_isFarOff 22 = .ok (.isub, 1) := by decide +kernel
theorem dX2_isFarOff_23 : decode cX2_isFarOff 23 = .ok (.invokestatic 122, 3) := by decide +kernel
theorem dX2_isFarOff_26 : decode cX2_isFarOff 26 = .ok (.iconst 2, 1) := by decide +kernel
theorem dX2_isFarOff_27 : decode cX2_isFarOff 27 = .ok (.if_icmp .lt 5, 3) := by decide +kernel
theorem dX2_isFarOff_30 : decode cX2_isFarOff 30 = .ok (.iconst 1, 1) := by decide +kernel
theorem dX2_isFarOff_31 : decode cX2_isFarOff 31 = .ok (.ireturn, 1) := by decide +kernel
theorem dX2_isFarOff_32 : decode cX2_isFarOff 32 = .ok (.iinc 2 1, 3) := by decide +kernel
theorem dX2_isFarOff_35 : decode cX2_isFarOff 35 = .ok (.goto (-33), 3) := by decide +kernel
theorem dX2_isFarOff_38 : decode cX2_isFarOff 38 = .ok (.iconst 0, 1) := by decide +kernel
theorem dX2_isFarOff_39 : decode cX2_isFarOff 39 = .ok (.ireturn, 1) := by decide +kernel
set_option maxRecDepth 20000 in
theorem ggX3_init_X0_init : GoodIn wsX3_init wsX0_init := goodIn_r _ [19, 20, 2, 3, 21, 22, 23, 4, 24, 25, 36, 37, 38, 39, 40] (by decide +kernel) (by decide +kernel)
set_option maxRecDepth 20000 in
theorem gX3_init_X0_init_n43 : GoodIn wsX3_init (wsX0_init) := ggX3_init_X0_init
theorem dX3_init_0 : decode cX3_init 0 = .ok (.aload_n 0, 1) := by decide +kernel
theorem dX3_init_1 : decode cX3_init 1 = .ok (.invokespecial 3, 3) := by decide +kernel
theorem dX3_init_4 : decode cX3_init 4 = .ok (.aload_n 0, 1) := by decide +kernel
theorem dX3_init_5 : decode cX3_init 5 = .ok (.bipush 6, 2) := by decide +kernel
theorem dX3_init_7 : decode cX3_init 7 = .ok (.newarray .int, 2) := by decide +kernel
theorem dX3_init_9 : decode cX3_init 9 = .ok (.putfield 9, 3) := by decide +kernel
theorem dX3_init_12 : decode cX3_init 12 = .ok (.aload_n 0, 1) := by decide +kernel
theorem dX3_init_13 : decode cX3_init 13 = .ok (.iconst 4, 1) := by decide +kernel
theorem dX3_init_14 : decode cX3_init 14 = .ok (.newarray .int, 2) := by decide +kernel
theorem dX3_init_16 : decode cX3_init 16 = .ok (.putfield 15, 3) := by decide +kernel
theorem dX3_init_19 : decode cX3_init 19 = .ok (.aload_n 0, 1) := by decide +kernel
theorem dX3_init_20 : decode cX3_init 20 = .ok (.bipush 6, 2) := by decide +kernel
theorem dX3_init_22 : decode cX3_init 22 = .ok (.newarray .int, 2) := by decide +kernel
theorem dX3_init_24 : decode cX3_init 24 = .ok (.putfield 18, 3) := by decide +kernel
theorem dX3_init_27 : decode cX3_init 27 = .ok (.aload_n 0, 1) := by decide +kernel
theorem dX3_init_28 : decode cX3_init 28 = .ok (.iconst 0, 1) := by decide +kernel
theorem dX3_init_29 : decode cX3_init 29 = .ok (.putfield 21, 3) := by decide +kernel
theorem dX3_init_32 : decode cX3_init 32 = .ok (.aload_n 0, 1) := by decide +kernel
theorem dX3_init_33 : decode cX3_init 33 = .ok (.iconst 0, 1) := by decide +kernel
theorem dX3_init_34 : decode cX3_init 34 = .ok (.putfield 25, 3) := by decide +kernel
theorem dX3_init_37 : decode cX3_init 37 = .ok (.aload_n 0, 1) := by decide +kernel
theorem dX3_init_38 : decode cX3_init 38 = .ok (.iconst 0, 1) := by decide +kernel
theorem dX3_init_39 : decode cX3_init 39 = .ok (.putfield 29, 3) := by decide +kernel
theorem dX3_init_42 : decode cX3_init 42 = .ok (.aload_n 0, 1) := by decide +kernel
theorem dX3_init_43 : decode cX3_init 43 = .ok (.iconst 0, 1) := by decide +kernel
theorem dX3_init_44 : decode cX3_init 44 = .ok (.putfield 32, 3) := by decide +kernel
theorem dX3_init_47 : decode cX3_init 47 = .ok (.aload_n 0, 1) := by decide +kernel
theorem dX3_init_48 : decode cX3_init 48 = .ok (.iconst 0, 1) := by decide +kernel
theorem dX3_init_49 : decode cX3_init 49 = .ok (.putfield 35, 3) := by decide +kernel
theorem dX3_init_52 : decode cX3_init 52 = .ok (.aload_n 0, 1) := by decide +kernel
theorem dX3_init_53 : decode cX3_init 53 = .ok (.iconst 2, 1) := by decide +kernel
theorem dX3_init_54 : decode cX3_init 54 = .ok (.putfield 38, 3) := by decide +kernel
theorem dX3_init_57 : decode cX3_init 57 = .ok (.aload_n 0, 1) := by decide +kernel
theorem dX3_init_58 : decode cX3_init 58 = .ok (.new 41, 3) := by decide +kernel
theorem dX3_init_61 : decode cX3_init 61 = .ok (.dup, 1) := by decide +kernel
theorem dX3_init_62 : decode cX3_init 62 = .ok (.invokespecial 43, 3) := by decide +kernel
theorem dX3_init_65 : decode cX3_init 65 = .ok (.putfield 44, 3) := by decide +kernel
theorem dX3_init_68 : decode cX3_init 68 = .ok (.return_, 1) := by decide +kernel
set_option maxRecDepth 20000 in
theorem ggX3_startWith_X0_clear : GoodIn wsX3_startWith wsX0_clear := goodIn_r _ [18, 19, 20, 21, 42, 43, 44, 45, 46] (by decide +kernel) (by decide +kernel)
set_option maxRecDepth 20000 in
theorem gX3_startWith_X0_clear_n59 : GoodIn wsX3_startWith (wsX0_clear) := ggX3_startWith_X0_clear
theorem dX3_startWith_0 : decode cX3_startWith 0 = .ok (.aload_n 1, 1) := by decide +kernel
theorem dX3_startWith_1 : decode cX3_startWith 1 = .ok (.getfield 48, 3) := by decide +kernel
theorem dX3_startWith_4 : decode cX3_startWith 4 = .ok (.iconst 0, 1) := by decide +kernel
theorem dX3_startWith_5 : decode cX3_startWith 5 = .ok (.aload_n 0, 1) := by decide +kernel
theorem dX3_startWith_6 : decode cX3_startWith 6 = .ok (.getfield 9, 3) := by decide +kernel
theorem dX3_startWith_9 : decode cX3_startWith 9 = .ok (.iconst 0, 1) := by decide +kernel
theorem dX3_startWith_10 : decode cX3_startWith 10 = .ok (.bipush 6, 2) := by decide +kernel
theorem dX3_startWith_12 : decode cX3_startWith 12 = .ok (.invokestatic 51, 3) := by decide +kernel
theorem dX3_startWith_15 : decode cX3_startWith 15 = .ok (.aload_n 1, 1) := by decide +kernel
theorem dX3_startWith_16 : decode cX3_startWith 16 = .ok (.getfield 57, 3) := by decide +kernel
theorem dX3_startWith_19 : decode cX3_startWith 19 = .ok (.iconst 0, 1) := by decide +kernel
theorem dX3_startWith_20 : decode cX3_startWith 20 = .ok (.aload_n 0, 1) := by decide +kernel
theorem dX3_startWith_21 : decode cX3_startWith 21 = .ok (.getfield 15, 3) := by decide +kernel
theorem dX3_startWith_24 : decode cX3_startWith 24 = .ok (.iconst 0, 1) := by decide +kernel
theorem dX3_startWith_25 : decode cX3_startWith 25 = .ok (.iconst 4, 1) := by decide +kernel
theorem dX3_startWith_26 : decode cX3_startWith 26 = .ok (.invokestatic 51, 3) := by decide +kernel
theorem dX3_startWith_29 : decode cX3_startWith 29 = .ok (.aload_n 1, 1) := by decide +kernel
theorem dX3_startWith_30 : decode cX3_startWith 30 = .ok (.getfield 58, 3) := by decide +kernel
theorem dX3_startWith_33 : decode cX3_startWith 33 = .ok (.iconst 0, 1) := by decide +kernel
theorem dX3_startWith_34 : decode cX3_startWith 34 = .ok (.aload_n 0, 1) := by decide +kernel
theorem dX3_startWith_35 : decode cX3_startWith 35 = .ok (.getfield 18, 3) := by decide +kernel
theorem dX3_startWith_38 : decode cX3_startWith 38 = .ok (.iconst 0, 1) := by decide +kernel
theorem dX3_startWith_39 : decode cX3_startWith 39 = .ok (.bipush 6, 2) := by decide +kernel
theorem dX3_startWith_41 : decode cX3_startWith 41 = .ok (.invokestatic 51, 3) := by decide +kernel
theorem dX3_startWith_44 : decode cX3_startWith 44 = .ok (.aload_n 0, 1) := by decide +kernel
theorem dX3_startWith_45 : decode cX3_startWith 45 = .ok (.iconst 0, 1) := by decide +kernel
theorem dX3_startWith_46 : decode cX3_startWith 46 = .ok (.putfield 21, 3) := by decide +kernel
theorem dX3_startWith_49 : decode cX3_startWith 49 = .ok (.aload_n 0, 1) := by decide +kernel
theorem dX3_startWith_50 : decode cX3_startWith 50 = .ok (.iconst 0, 1) := by decide +kernel
theorem dX3_startWith_51 : decode cX3_startWith 51 = .ok (.putfield 25, 3) := by decide +kernel
theorem dX3_startWith_54 : decode cX3_startWith 54 = .ok (.aload_n 0, 1) := by decide +kernel
theorem dX3_startWith_55 : decode cX3_startWith 55 = .ok (.iconst 0, 1) := by decide +kernel
theorem dX3_startWith_56 : decode cX3_startWith 56 = .ok (.putfield 29, 3) := by decide +kernel
theorem dX3_startWith_59 : decode cX3_startWith 59 = .ok (.aload_n 0, 1) := by decide +kernel
theorem dX3_startWith_60 : decode cX3_startWith 60 = .ok (.iconst 0, 1) := by decide +kernel
theorem dX3_startWith_61 : decode cX3_startWith 61 = .ok (.putfield 32, 3) := by decide +kernel
theorem dX3_startWith_64 : decode cX3_startWith 64 = .ok (.aload_n 0, 1) := by decide +kernel
theorem dX3_startWith_65 : decode cX3_startWith 65 = .ok (.iconst 0, 1) := by decide +kernel
theorem dX3_startWith_66 : decode cX3_startWith 66 = .ok (.putfield 35, 3) := by decide +kernel
theorem dX3_startWith_69 : decode cX3_startWith 69 = .ok (.aload_n 0, 1) := by decide +kernel
theorem dX3_startWith_70 : decode cX3_startWith 70 = .ok (.iconst 2, 1) := by decide +kernel
theorem dX3_startWith_71 : decode cX3_startWith 71 = .ok (.putfield 38, 3) := by decide +kernel
theorem dX3_startWith_74 : decode cX3_startWith 74 = .ok (.aload_n 0, 1) := by decide +kernel
theorem dX3_startWith_75 : decode cX3_startWith 75 = .ok (.getfield 44, 3) := by decide +kernel
theorem dX3_startWith_78 : decode cX3_startWith 78 = .ok (.invokevirtual 59, 3) := by decide +kernel
theorem dX3_startWith_81 : decode cX3_startWith 81 = .ok (.return_, 1) := by decide +kernel
set_option maxRecDepth 20000 in
theorem ggX3_copyFrom_X0_copyFrom : GoodIn wsX3_copyFrom wsX0_copyFrom := goodIn_r _ [18, 19, 20, 21, 22, 23, 3, 4, 5, 24, 35, 36, 37, 38, 39] (by decide +kernel) (by decide +kernel)
set_option maxRecDepth 20000 in
theorem gX3_copyFrom_X0_copyFrom_n62 : GoodIn wsX3_copyFrom (wsX0_copyFrom) := ggX3_copyFrom_X0_copyFrom
theorem dX3_copyFrom_0 : decode cX3_copyFrom 0 = .ok (.aload_n 1, 1) := by decide +kernel
theorem dX3_copyFrom_1 : decode cX3_copyFrom 1 = .ok (.getfield 9, 3) := by decide +kernel
theorem dX3_copyFrom_4 : decode cX3_copyFrom 4 = .ok (.iconst 0, 1) := by decide +kernel
theorem dX3_copyFrom_5 : decode cX3_copyFrom 5 = .ok (.aload_n 0, 1) := by decide +kernel
theorem dX3_copyFrom_6 : decode cX3_copyFrom 6 = .ok (.getfield 9, 3) := by decide +kernel
theorem dX3_copyFrom_9 : decode cX3_copyFrom 9 = .ok (.iconst 0, 1) := by decide +kernel
theorem dX3_copyFrom_10 : decode cX3_copyFrom 10 = .ok (.bipush 6, 2) := by decide +kernel
theorem dX3_copyFrom_12 : decode cX3_copyFrom 12 = .ok (.invokestatic 51, 3) := by decide +kernel
theorem dX3_copyFrom_15 : decode cX3_copyFrom 15 = .ok (.aload_n 1, 1) := by decide +kernel
theorem dX3_copyFrom_16 : decode cX3_copyFrom 16 = .ok (.getfield 15, 3) := by decide +kernel
theorem dX3_copyFrom_19 : decode cX3_copyFrom 19 = .ok (.iconst 0, 1) := by decide +kernel
theorem dX3_copyFrom_20 : decode cX3_copyFrom 20 = .ok (.aload_n 0, 1) := by decide +kernel
theorem dX3_copyFrom_21 : decode cX3_copyFrom 21 = .ok (.getfield 15, 3) := by decide +kernel
theorem dX3_copyFrom_24 : decode cX3_copyFrom 24 = .ok (.iconst 0, 1) := by decide +kernel
theorem dX3_copyFrom_25 : decode cX3_copyFrom 25 = .ok (.iconst 4, 1) := by decide +kernel
theorem dX3_copyFrom_26 : decode cX3_copyFrom 26 = .ok (.invokestatic 51, 3) := by decide +kernel
theorem dX3_copyFrom_29 : decode cX3_copyFrom 29 = .ok (.aload_n 1, 1) := by decide +kernel
theorem dX3_copyFrom_30 : decode cX3_copyFrom 30 = .ok (.getfield 18, 3) := by decide +kernel
theorem dX3_copyFrom_33 : decode cX3_copyFrom 33 = .ok (.iconst 0, 1) := by decide +kernel
theorem dX3_copyFrom_34 : decode cX3_copyFrom 34 = .ok (.aload_n 0, 1) := by decide +kernel
theorem dX3_copyFrom_35 : decode cX3_copyFrom 35 = .ok (.getfield 18, 3) := by decide +kernel
theorem dX3_copyFrom_38 : decode cX3_copyFrom 38 = .ok (.iconst 0, 1) := by decide +kernel
theorem dX3_copyFrom_39 : decode cX3_copyFrom 39 = .ok (.bipush 6, 2) := by decide +kernel
theorem dX3_copyFrom_41 : decode cX3_copyFrom 41 = .ok (.invokestatic 51, 3) := by decide +kernel
theorem dX3_copyFrom_44 : decode cX3_copyFrom 44 = .ok (.aload_n 0, 1) := by decide +kernel
theorem dX3_copyFrom_45 : decode cX3_copyFrom 45 = .ok (.aload_n 1, 1) := by decide +kernel
theorem dX3_copyFrom_46 : decode cX3_copyFrom 46 = .ok (.getfield 21, 3) := by decide +kernel
theorem dX3_copyFrom_49 : decode cX3_copyFrom 49 = .ok (.putfield 21, 3) := by decide +kernel
theorem dX3_copyFrom_52 : decode cX3_copyFrom 52 = .ok (.aload_n 0, 1) := by decide +kernel
theorem dX3_copyFrom_53 : decode cX3_copyFrom 53 = .ok (.aload_n 1, 1) := by decide +kernel
theorem dX3_copyFrom_54 : decode cX3_copyFrom 54 = .ok (.getfield 25, 3) := by decide +kernel
theorem dX3_copyFrom_57 : decode cX3_copyFrom 57 = .ok (.putfield 25, 3) := by decide +kernel
theorem dX3_copyFrom_60 : decode cX3_copyFrom 60 = .ok (.aload_n 0, 1) := by decide +kernel
theorem dX3_copyFrom_61 : decode cX3_copyFrom 61 = .ok (.aload_n 1, 1) := by decide +kernel
theorem dX3_copyFrom_62 : decode cX3_copyFrom 62 = .ok (.getfield 29, 3) := by decide +kernel
theorem dX3_copyFrom_65 : decode cX3_copyFrom 65 = .ok (.putfield 29, 3) := by decide +kernel
theorem dX3_copyFrom_68 : decode cX3_copyFrom 68 = .ok (.aload_n 0, 1) := by decide +kernel
theorem dX3_copyFrom_69 : decode cX3_copyFrom 69 = .ok (.aload_n 1, 1) := by decide +kernel
theorem dX3_copyFrom_70 : decode cX3_copyFrom 70 = .ok (.getfield 32, 3) := by decide +kernel
theorem dX3_copyFrom_73 : decode cX3_copyFrom 73 = .ok (.putfield 32, 3) := by decide +kernel
theorem dX3_copyFrom_76 : decode cX3_copyFrom 76 = .ok (.aload_n 0, 1) := by decide +kernel
theorem dX3_copyFrom_77 : decode cX3_copyFrom 77 = .ok (.aload_n 1, 1) := by decide +kernel
theorem dX3_copyFrom_78 : decode cX3_copyFrom 78 = .ok (.getfield 35, 3) := by decide +kernel
theorem dX3_copyFrom_81 : decode cX3_copyFrom 81 = .ok (.putfield 35, 3) := by decide +kernel
theorem dX3_copyFrom_84 : decode cX3_copyFrom 84 = .ok (.aload_n 0, 1) := by decide +kernel
theorem dX3_copyFrom_85 : decode cX3_copyFrom 85 = .ok (.aload_n 1, 1) := by decide +kernel
theorem dX3_copyFrom_86 : decode cX3_copyFrom 86 = .ok (.getfield 38, 3) := by decide +kernel
theorem dX3_copyFrom_89 : decode cX3_copyFrom 89 = .ok (.putfield 38, 3) := by decide +kernel
theorem dX3_copyFrom_92 : decode cX3_copyFrom 92 = .ok (.aload_n 0, 1) := by decide +kernel
theorem dX3_copyFrom_93 : decode cX3_copyFrom 93 = .ok (.getfield 44, 3) := by decide +kernel
theorem dX3_copyFrom_96 : decode cX3_copyFrom 96 = .ok (.aload_n 1, 1) := by decide +kernel
theorem dX3_copyFrom_97 : decode cX3_copyFrom 97 = .ok (.getfield 44, 3) := by decide +kernel
theorem dX3_copyFrom_100 : decode cX3_copyFrom 100 = .ok (.invokevirtual 62, 3) := by decide +kernel
theorem dX3_copyFrom_103 : decode cX3_copyFrom 103 = .ok (.return_, 1) := by decide +kernel
theorem dX3_isIn_0 : decode cX3_isIn 0 = .ok (.aload_n 0, 1) := by decide +kernel
theorem dX3_isIn_1 : decode cX3_isIn 1 = .ok (.getfield 25, 3) := by decide +kernel
theorem dX3_isIn_4 : decode cX3_isIn 4 = .ok (.iload_n 1, 1) := by decide +kernel
theorem dX3_isIn_5 : decode cX3_isIn 5 = .ok (.ishr, 1) := by decide +kernel
theorem dX3_isIn_6 : decode cX3_isIn 6 = .ok (.iconst 1, 1) := by decide +kernel
theorem dX3_isIn_7 : decode cX3_isIn 7 = .ok (.iand, 1) := by decide +kernel
theorem dX3_isIn_8 : decode cX3_isIn 8 = .ok (.iconst 1, 1) := by decide +kernel
theorem dX3_isIn_9 : decode cX3_isIn 9 = .ok (.if_icmp .ne 7, 3) := by decide +kernel
theorem dX3_isIn_12 : decode cX3_isIn 12 = .ok (.iconst 1, 1) := by decide +kernel
theorem dX3_isIn_13 : decode cX3_isIn 13 = .ok (.goto 4, 3) := by decide +kernel
theorem dX3_isIn_16 : decode cX3_isIn 16 = .ok (.iconst 0, 1) := by decide +kernel
theorem dX3_isIn_17 : decode cX3_isIn 17 = .ok (.ireturn, 1) := by decide +kernel
theorem dX4_init_0 : decode cX4_init 0 = .ok (.aload_n 0, 1) := by decide +kernel
theorem dX4_init_1 : decode cX4_init 1 = .ok (.invokespecial 3, 3) := by decide +kernel
theorem dX4_init_4 : decode cX4_init 4 = .ok (.aload_n 0, 1) := by decide +kernel
theorem dX4_init_5 : decode cX4_init 5 = .ok (.sipush 200, 3) := by decide +kernel
theorem dX4_init_8 : decode cX4_init 8 = .ok (.newarray .int, 2) := by decide +kernel
theorem dX4_init_10 : decode cX4_init 10 = .ok (.putfield 9, 3) := by decide +kernel
theorem dX4_init_13 : decode cX4_init 13 = .ok (.aload_n 0, 1) := by decide +kernel
theorem dX4_init_14 : decode cX4_init 14 = .ok (.iconst 3, 1) := by decide +kernel
theorem dX4_init_15 : decode cX4_init 15 = .ok (.newarray .int, 2) := by decide +kernel
theorem dX4_init_17 : decode cX4_init 17 = .ok (.putfield 15, 3) := by decide +kernel
theorem dX4_init_20 : decode cX4_init 20 = .ok (.aload_n 0, 1) := by decide +kernel
theorem dX4_init_21 : decode cX4_init 21 = .ok (.iconst 0, 1) := by decide +kernel
theorem dX4_init_22 : decode cX4_init 22 = .ok (.putfield 18, 3) := by decide +kernel
theorem dX4_init_25 : decode cX4_init 25 = .ok (.return_, 1) := by decide +kernel
theorem dX4_clear_0 : decode cX4_clear 0 = .ok (.aload_n 0, 1) := by decide +kernel
theorem dX4_clear_1 : decode cX4_clear 1 = .ok (.iconst 0, 1) := by decide +kernel
theorem dX4_clear_2 : decode cX4_clear 2 = .ok (.putfield 18, 3) := by decide +kernel
theorem dX4_clear_5 : decode cX4_clear 5 = .ok (.return_, 1) := by decide +kernel
theorem dX4_append_0 : decode cX4_append 0 = .ok (.aload_n 0, 1) := by decide +kernel
theorem dX4_append_1 : decode cX4_append 1 = .ok (.getfield 18, 3) := by decide +kernel
theorem dX4_append_4 : decode cX4_append 4 = .ok (.sipush 200, 3) := by decide +kernel
theorem dX4_append_7 : decode cX4_append 7 = .ok (.if_icmp .lt 5, 3) := by decide +kernel
theorem dX4_append_10 : decode cX4_append 10 = .ok (.iconst 0, 1) := by decide +kernel
theorem dX4_append_11 : decode cX4_append 11 = .ok (.ireturn, 1) := by decide +kernel
theorem dX4_append_12 : decode cX4_append 12 = .ok (.aload_n 0, 1) := by decide +kernel
theorem dX4_append_13 : decode cX4_append 13 = .ok (.getfield 9, 3) := by decide +kernel
theorem dX4_append_16 : decode cX4_append 16 = .ok (.aload_n 0, 1) := by decide +kernel
theorem dX4_append_17 : decode cX4_append 17 = .ok (.getfield 18, 3) := by decide +kernel
theorem dX4_append_20 : decode cX4_append 20 = .ok (.iload_n 1, 1) := by decide +kernel
theorem dX4_append_21 : decode cX4_append 21 = .ok (.iastore, 1) := by decide +kernel
theorem dX4_append_22 : decode cX4_append 22 = .ok (.aload_n 0, 1) := by decide +kernel
theorem dX4_append_23 : decode cX4_append 23 = .ok (.dup, 1) := by decide +kernel
theorem dX4_append_24 : decode cX4_append 24 = .ok (.getfield 18, 3) := by decide +kernel
theorem dX4_append_27 : decode cX4_append 27 = .ok (.iconst 1, 1) := by decide +kernel
theorem dX4_append_28 : decode cX4_append 28 = .ok (.iadd, 1) := by decide +kernel
theorem dX4_append_29 : decode cX4_append 29 = .ok (.putfield 18, 3) := by decide +kernel
theorem dX4_append_32 : decode cX4_append 32 = .ok (.iconst 1, 1) := by decide +kernel
theorem dX4_append_33 : decode cX4_append 33 = .ok (.ireturn, 1) := by decide +kernel
set_option maxRecDepth 20000 in
theorem ggX4_readInto_X1_clear : GoodIn wsX4_readInto wsX1_clear := goodIn_r _ [6, 7, 8, 9, 10, 11, 12, 13, 14, 46, 47, 48, 49, 50, 51, 52, 53, 54, 55] (by decide +kernel) (by decide +kernel)
set_option maxRecDepth 20000 in
theorem gX4_readInto_X1_clear_n22 : GoodIn wsX4_readInto (wsX1_clear) := ggX4_readInto_X1_clear
set_option maxRecDepth 20000 in
theorem ggX4_readInto_X4_readItem : GoodIn wsX4_readInto wsX4_readItem := goodIn_r _ [19, 2, 20, 21, 22, 23, 18, 24, 25, 4, 26, 27, 7, 28, 29, 30, 31, 32, 33, 8, 34, 35, 36, 37, 9, 38, 39, 40, 41, 42, 10, 11, 12, 13, 14, 43, 44, 45, 46, 47, 48, 49, 50, 51, 52, 53, 54, 55] (by decide +kernel) (by decide +kernel)
set_option maxRecDepth 20000 in
theorem gX4_readInto_X4_readItem : GoodIn wsX4_readInto (wsV RX4 27 RX4 yX4_readItem wsX4_readItem) := goodIn_app (goodIn_of _ (by decide +kernel)) ggX4_readInto_X4_readItem
theorem dX4_readInto_0 : decode cX4_readInto 0 = .ok (.aload_n 1, 1) := by decide +kernel
theorem dX4_readInto_1 : decode cX4_readInto 1 = .ok (.invokevirtual 22, 3) := by decide +kernel
theorem dX4_readInto_4 : decode cX4_readInto 4 = .ok (.iconst 0, 1) := by decide +kernel
theorem dX4_readInto_5 : decode cX4_readInto 5 = .ok (.istore_n 2, 1) := by decide +kernel
theorem dX4_readInto_6 : decode cX4_readInto 6 = .ok (.iconst 0, 1) := by decide +kernel
theorem dX4_readInto_7 : decode cX4_readInto 7 = .ok (.istore_n 3, 1) := by decide +kernel
theorem dX4_readInto_8 : decode cX4_readInto 8 = .ok (.iload_n 3, 1) := by decide +kernel
theorem dX4_readInto_9 : decode cX4_readInto 9 = .ok (.aload_n 0, 1) := by decide +kernel
theorem dX4_readInto_10 : decode cX4_readInto 10 = .ok (.getfield 18, 3) := by decide +kernel
theorem dX4_readInto_13 : decode cX4_readInto 13 = .ok (.if_icmp .ge 36, 3) := by decide +kernel
theorem dX4_readInto_16 : decode cX4_readInto 16 = .ok (.aload_n 0, 1) := by decide +kernel
theorem dX4_readInto_17 : decode cX4_readInto 17 = .ok (.getfield 9, 3) := by decide +kernel
theorem dX4_readInto_20 : decode cX4_readInto 20 = .ok (.iload_n 3, 1) := by decide +kernel
theorem dX4_readInto_21 : decode cX4_readInto 21 = .ok (.iaload, 1) := by decide +kernel
theorem dX4_readInto_22 : decode cX4_readInto 22 = .ok (.bipush 59, 2) := by decide +kernel
theorem dX4_readInto_24 : decode cX4_readInto 24 = .ok (.if_icmp .ne 19, 3) := by decide +kernel
theorem dX4_readInto_27 : decode cX4_readInto 27 = .ok (.aload_n 0, 1) := by decide +kernel
theorem dX4_readInto_28 : decode cX4_readInto 28 = .ok (.iload_n 2, 1) := by decide +kernel
theorem dX4_readInto_29 : decode cX4_readInto 29 = .ok (.iload_n 3, 1) := by decide +kernel
theorem dX4_readInto_30 : decode cX4_readInto 30 = .ok (.aload_n 1, 1) := by decide +kernel
theorem dX4_readInto_31 : decode cX4_readInto 31 = .ok (.invokevirtual 27, 3) := by decide +kernel
theorem dX4_readInto_34 : decode cX4_readInto 34 = .ok (.ifCond .ne 5, 3) := by decide +kernel
theorem dX4_readInto_37 : decode cX4_readInto 37 = .ok (.iload_n 2, 1) := by decide +kernel
theorem dX4_readInto_38 : decode cX4_readInto 38 = .ok (.ireturn, 1) := by decide +kernel
theorem dX4_readInto_39 : decode cX4_readInto 39 = .ok (.iload_n 3, 1) := by decide +kernel
theorem dX4_readInto_40 : decode cX4_readInto 40 = .ok (.iconst 1, 1) := by decide +kernel
theorem dX4_readInto_41 : decode cX4_readInto 41 = .ok (.iadd, 1) := by decide +kernel
theorem dX4_readInto_42 : decode cX4_readInto 42 = .ok (.istore_n 2, 1) := by decide +kernel
theorem dX4_readInto_43 : decode cX4_readInto 43 = .ok (.iinc 3 1, 3) := by decide +kernel
theorem dX4_readInto_46 : decode cX4_readInto 46 = .ok (.goto (-38), 3) := by decide +kernel
theorem dX4_readInto_49 : decode cX4_readInto 49 = .ok (.iload_n 2, 1) := by decide +kernel
theorem dX4_readInto_50 : decode cX4_readInto 50 = .ok (.aload_n 0, 1) := by decide +kernel
theorem dX4_readInto_51 : decode cX4_readInto 51 = .ok (.getfield 18, 3) := by decide +kernel
theorem dX4_readInto_54 : decode cX4_readInto 54 = .ok (.if_icmp .ge 7, 3) := by decide +kernel
theorem dX4_readInto_57 : decode cX4_readInto 57 = .ok (.iload_n 2, 1) := by decide +kernel
theorem dX4_readInto_58 : decode cX4_readInto 58 = .ok (.goto 5, 3) := by decide +kernel
theorem dX4_readInto_61 : decode cX4_readInto 61 = .ok (.bipush (-4), 2) := by decide +kernel
theorem dX4_readInto_63 : decode cX4_readInto 63 = .ok (.ireturn, 1) := by decide +kernel
set_option maxRecDepth 20000 in
theorem ggX4_readItem_X4_readNumbers : GoodIn wsX4_readItem wsX4_readNumbers := goodIn_r _ [7, 1, 2, 35, 36, 37] (by decide +kernel) (by decide +kernel)
set_option maxRecDepth 20000 in
theorem gX4_readItem_X4_readNumbers : GoodIn wsX4_readItem (wsV RX4 31 RX4 yX4_readNumbers wsX4_readNumbers) := goodIn_app (goodIn_of _ (by decide +kernel)) ggX4_readItem_X4_readNumbers
set_option maxRecDepth 20000 in
theorem ggX4_readItem_X1_addCavity : GoodIn wsX4_readItem wsX1_addCavity := goodIn_r _ [11, 12, 13, 14, 15, 38, 39, 40, 41, 42, 43, 44, 45, 46, 47] (by decide +kernel) (by decide +kernel)
set_option maxRecDepth 20000 in
theorem gX4_readItem_X1_addCavity_n35 : GoodIn wsX4_readItem (wsX1_addCavity) := ggX4_readItem_X1_addCavity
set_option maxRecDepth 20000 in
theorem ggX4_readItem_X1_addCore : GoodIn wsX4_readItem wsX1_addCore := goodIn_r _ [18, 19, 20, 38, 39, 40, 41, 42, 43, 44, 45, 46, 47] (by decide +kernel) (by decide +kernel)
set_option maxRecDepth 20000 in
theorem gX4_readItem_X1_addCore_n39 : GoodIn wsX4_readItem (wsX1_addCore) := ggX4_readItem_X1_addCore
set_option maxRecDepth 20000 in
theorem ggX4_readItem_X1_addStage : GoodIn wsX4_readItem wsX1_addStage := goodIn_r _ [23, 24, 25, 26, 38, 39, 40, 41, 42, 43, 44, 45, 46, 47] (by decide +kernel) (by decide +kernel)
set_option maxRecDepth 20000 in
theorem gX4_readItem_X1_addStage_n43 : GoodIn wsX4_readItem (wsX1_addStage) := ggX4_readItem_X1_addStage
set_option maxRecDepth 20000 in
theorem ggX4_readItem_X1_setThree : GoodIn wsX4_readItem wsX1_setThree := goodIn_r _ [29, 30, 31, 32, 33, 34, 38, 39, 40, 41, 42, 43, 44, 45, 46, 47] (by decide +kernel) (by decide +kernel)
set_option maxRecDepth 20000 in
theorem gX4_readItem_X1_setThree_n47 : GoodIn wsX4_readItem (wsX1_setThree) := ggX4_readItem_X1_setThree
theorem dX4_readItem_0 : decode cX4_readItem 0 = .ok (.aload_n 0, 1) := by decide +kernel
theorem dX4_readItem_1 : decode cX4_readItem 1 = .ok (.iload_n 1, 1) := by decide +kernel
theorem dX4_readItem_2 : decode cX4_readItem 2 = .ok (.iconst 1, 1) := by decide +kernel
theorem dX4_readItem_3 : decode cX4_readItem 3 = .ok (.iadd, 1) := by decide +kernel
theorem dX4_readItem_4 : decode cX4_readItem 4 = .ok (.iload_n 2, 1) := by decide +kernel
theorem dX4_readItem_5 : decode cX4_readItem 5 = .ok (.invokevirtual 31, 3) := by decide +kernel
theorem dX4_readItem_8 : decode cX4_readItem 8 = .ok (.istore 4, 2) := by decide +kernel
theorem dX4_readItem_10 : decode cX4_readItem 10 = .ok (.aload_n 0, 1) := by decide +kernel
theorem dX4_readItem_11 : decode cX4_readItem 11 = .ok (.getfield 9, 3) := by decide +kernel
theorem dX4_readItem_14 : decode cX4_readItem 14 = .ok (.iload_n 1, 1) := by decide +kernel
theorem dX4_readItem_15 : decode cX4_readItem 15 = .ok (.iaload, 1) := by decide +kernel
theorem dX4_readItem_16 : decode cX4_readItem 16 = .ok (.lookupswitch 193 #[(99, 89), (104, 169), (111, 145), (115, 114), (118, 52)], 52) := by decide +kernel
theorem dX4_readItem_68 : decode cX4_readItem 68 = .ok (.iload 4, 2) := by decide +kernel
theorem dX4_readItem_70 : decode cX4_readItem 70 = .ok (.iconst 3, 1) := by decide +kernel
theorem dX4_readItem_71 : decode cX4_readItem 71 = .ok (.if_icmp .ne 32, 3) := by decide +kernel
theorem dX4_readItem_74 : decode cX4_readItem 74 = .ok (.aload_n 3, 1) := by decide +kernel
theorem dX4_readItem_75 : decode cX4_readItem 75 = .ok (.aload_n 0, 1) := by decide +kernel
theorem dX4_readItem_76 : decode cX4_readItem 76 = .ok (.getfield 15, 3) := by decide +kernel
theorem dX4_readItem_79 : decode cX4_readItem 79 = .ok (.iconst 0, 1) := by decide +kernel
theorem dX4_readItem_80 : decode cX4_readItem 80 = .ok (.iaload, 1) := by decide +kernel
theorem dX4_readItem_81 : decode cX4_readItem 81 = .ok (.aload_n 0, 1) := by decide +kernel
theorem dX4_readItem_82 : decode cX4_readItem 82 = .ok (.getfield 15, 3) := by decide +kernel
theorem dX4_readItem_85 : decode cX4_readItem 85 = .ok (.iconst 1, 1) := by decide +kernel
theorem dX4_readItem_86 : decode cX4_readItem 86 = .ok (.iaload, 1) := by decide +kernel
theorem dX4_readItem_87 : decode cX4_readItem 87 = .ok (.aload_n 0, 1) := by decide +kernel
theorem dX4_readItem_88 : decode cX4_readItem 88 = .ok (.getfield 15, 3) := by decide +kernel
theorem dX4_readItem_91 : decode cX4_readItem 91 = .ok (.iconst 2, 1) := by decide +kernel
theorem dX4_readItem_92 : decode cX4_readItem 92 = .ok (.iaload, 1) := by decide +kernel
theorem dX4_readItem_93 : decode cX4_readItem 93 = .ok (.invokevirtual 35, 3) := by decide +kernel
theorem dX4_readItem_96 : decode cX4_readItem 96 = .ok (.ifCond .eq 7, 3) := by decide +kernel
theorem dX4_readItem_99 : decode cX4_readItem 99 = .ok (.iconst 1, 1) := by decide +kernel
theorem dX4_readItem_100 : decode cX4_readItem 100 = .ok (.goto 4, 3) := by decide +kernel
theorem dX4_readItem_103 : decode cX4_readItem 103 = .ok (.iconst 0, 1) := by decide +kernel
theorem dX4_readItem_104 : decode cX4_readItem 104 = .ok (.ireturn, 1) := by decide +kernel
theorem dX4_readItem_105 : decode cX4_readItem 105 = .ok (.iload 4, 2) := by decide +kernel
theorem dX4_readItem_107 : decode cX4_readItem 107 = .ok (.iconst 1, 1) := by decide +kernel
theorem dX4_readItem_108 : decode cX4_readItem 108 = .ok (.if_icmp .ne 20, 3) := by decide +kernel
theorem dX4_readItem_111 : decode cX4_readItem 111 = .ok (.aload_n 3, 1) := by decide +kernel
theorem dX4_readItem_112 : decode cX4_readItem 112 = .ok (.aload_n 0, 1) := by decide +kernel
theorem dX4_readItem_113 : decode cX4_readItem 113 = .ok (.getfield 15, 3) := by decide +kernel
theorem dX4_readItem_116 : decode cX4_readItem 116 = .ok (.iconst 0, 1) := by decide +kernel
theorem dX4_readItem_117 : decode cX4_readItem 117 = .ok (.iaload, 1) := by decide +kernel
theorem dX4_readItem_118 : decode cX4_readItem 118 = .ok (.invokevirtual 39, 3) := by decide +kernel
theorem dX4_readItem_121 : decode cX4_readItem 121 = .ok (.ifCond .eq 7, 3) := by decide +kernel
theorem dX4_readItem_124 : decode cX4_readItem 124 = .ok (.iconst 1, 1) := by decide +kernel
theorem dX4_readItem_125 : decode cX4_readItem 125 = .ok (.goto 4, 3) := by decide +kernel
theorem dX4_readItem_128 : decode cX4_readItem 128 = .ok (.iconst 0, 1) := by decide +kernel
theorem dX4_readItem_129 : decode cX4_readItem 129 = .ok (.ireturn, 1) := by decide +kernel
theorem dX4_readItem_130 : decode cX4_readItem 130 = .ok (.iload 4, 2) := by decide +kernel
theorem dX4_readItem_132 : decode cX4_readItem 132 = .ok (.iconst 2, 1) := by decide +kernel
theorem dX4_readItem_133 : decode cX4_readItem 133 = .ok (.if_icmp .ne 26, 3) := by decide +kernel
theorem dX4_readItem_136 : decode cX4_readItem 136 = .ok (.aload_n 3, 1) := by decide +kernel
theorem dX4_readItem_137 : decode cX4_readItem 137 = .ok (.aload_n 0, 1) := by decide +kernel
theorem dX4_readItem_138 : decode cX4_readItem 138 = .ok (.getfield 15, 3) := by decide +kernel
theorem dX4_readItem_141 : decode cX4_readItem 141 = .ok (.iconst 0, 1) := by decide +kernel
theorem dX4_readItem_142 : decode cX4_readItem 142 = .ok (.iaload, 1) := by decide +kernel
theorem dX4_readItem_143 : decode cX4_readItem 143 = .ok (.aload_n 0, 1) := by decide +kernel
theorem dX4_readItem_144 : decode cX4_readItem 144 = .ok (.getfield 15, 3) := by decide +kernel
theorem dX4_readItem_147 : decode cX4_readItem 147 = .ok (.iconst 1, 1) := by decide +kernel
theorem dX4_readItem_148 : decode cX4_readItem 148 = .ok (.iaload, 1) := by decide +kernel
theorem dX4_readItem_149 : decode cX4_readItem 149 = .ok (.invokevirtual 43, 3) := by decide +kernel
theorem dX4_readItem_152 : decode cX4_readItem 152 = .ok (.ifCond .eq 7, 3) := by decide +kernel
theorem dX4_readItem_155 : decode cX4_readItem 155 = .ok (.iconst 1, 1) := by decide +kernel
theorem dX4_readItem_156 : decode cX4_readItem 156 = .ok (.goto 4, 3) := by decide +kernel
theorem dX4_readItem_159 : decode cX4_readItem 159 = .ok (.iconst 0, 1) := by decide +kernel
theorem dX4_readItem_160 : decode cX4_readItem 160 = .ok (.ireturn, 1) := by decide +kernel
theorem dX4_readItem_161 : decode cX4_readItem 161 = .ok (.iload 4, 2) := by decide +kernel
theorem dX4_readItem_163 : decode cX4_readItem 163 = .ok (.iconst 3, 1) := by decide +kernel
theorem dX4_readItem_164 : decode cX4_readItem 164 = .ok (.if_icmp .ne 19, 3) := by decide +kernel
theorem dX4_readItem_167 : decode cX4_readItem 167 = .ok (.aload_n 3, 1) := by decide +kernel
theorem dX4_readItem_168 : decode cX4_readItem 168 = .ok (.iconst 0, 1) := by decide +kernel
theorem dX4_readItem_169 : decode cX4_readItem 169 = .ok (.aload_n 0, 1) := by decide +kernel
theorem dX4_readItem_170 : decode cX4_readItem 170 = .ok (.getfield 15, 3) := by decide +kernel
theorem dX4_readItem_173 : decode cX4_readItem 173 = .ok (.invokevirtual 47, 3) := by decide +kernel
theorem dX4_readItem_176 : decode cX4_readItem 176 = .ok (.ifCond .eq 7, 3) := by decide +kernel
theorem dX4_readItem_179 : decode cX4_readItem 179 = .ok (.iconst 1, 1) := by decide +kernel
theorem dX4_readItem_180 : decode cX4_readItem 180 = .ok (.goto 4, 3) := by decide +kernel
theorem dX4_readItem_183 : decode cX4_readItem 183 = .ok (.iconst 0, 1) := by decide +kernel
theorem dX4_readItem_184 : decode cX4_readItem 184 = .ok (.ireturn, 1) := by decide +kernel
theorem dX4_readItem_185 : decode cX4_readItem 185 = .ok (.iload 4, 2) := by decide +kernel
theorem dX4_readItem_187 : decode cX4_readItem 187 = .ok (.iconst 3, 1) := by decide +kernel
theorem dX4_readItem_188 : decode cX4_readItem 188 = .ok (.if_icmp .ne 19, 3) := by decide +kernel
theorem dX4_readItem_191 : decode cX4_readItem 191 = .ok (.aload_n 3, 1) := by decide +kernel
theorem dX4_readItem_192 : decode cX4_readItem 192 = .ok (.iconst 3, 1) := by decide +kernel
theorem dX4_readItem_193 : decode cX4_readItem 193 = .ok (.aload_n 0, 1) := by decide +kernel
theorem dX4_readItem_194 : decode cX4_readItem 194 = .ok (.getfield 15, 3) := by decide +kernel
theorem dX4_readItem_197 : decode cX4_readItem 197 = .ok (.invokevirtual 47, 3) := by decide +kernel
theorem dX4_readItem_200 : decode cX4_readItem 200 = .ok (.ifCond .eq 7, 3) := by decide +kernel
theorem dX4_readItem_203 : decode cX4_readItem 203 = .ok (.iconst 1, 1) := by decide +kernel
theorem dX4_readItem_204 : decode cX4_readItem 204 = .ok (.goto 4, 3) := by decide +kernel
theorem dX4_readItem_207 : decode cX4_readItem 207 = .ok (.iconst 0, 1) := by decide +kernel
theorem dX4_readItem_208 : decode cX4_readItem 208 = .ok (.ireturn, 1) := by decide +kernel
theorem dX4_readItem_209 : decode cX4_readItem 209 = .ok (.iconst 0, 1) := by decide +kernel
theorem dX4_readItem_210 : decode cX4_readItem 210 = .ok (.ireturn, 1) := by decide +kernel
theorem dX4_readNumbers_0 : decode cX4_readNumbers 0 = .ok (.iconst 0, 1) := by decide +kernel
theorem dX4_readNumbers_1 : decode cX4_readNumbers 1 = .ok (.istore_n 3, 1) := by decide +kernel
theorem dX4_readNumbers_2 : decode cX4_readNumbers 2 = .ok (.iconst 0, 1) := by decide +kernel
theorem dX4_readNumbers_3 : decode cX4_readNumbers 3 = .ok (.istore 4, 2) := by decide +kernel
theorem dX4_readNumbers_5 : decode cX4_readNumbers 5 = .ok (.iconst 0, 1) := by decide +kernel
theorem dX4_readNumbers_6 : decode cX4_readNumbers 6 = .ok (.istore 5, 2) := by decide +kernel
theorem dX4_readNumbers_8 : decode cX4_readNumbers 8 = .ok (.iload_n 1, 1) := by decide +kernel
theorem dX4_readNumbers_9 : decode cX4_readNumbers 9 = .ok (.istore 6, 2) := by decide +kernel
theorem dX4_readNumbers_11 : decode cX4_readNumbers 11 = .ok (.iload 6, 2) := by decide +kernel
theorem dX4_readNumbers_13 : decode cX4_readNumbers 13 = .ok (.iload_n 2, 1) := by decide +kernel
theorem dX4_readNumbers_14 : decode cX4_readNumbers 14 = .ok (.if_icmp .gt 106, 3) := by decide +kernel
theorem dX4_readNumbers_17 : decode cX4_readNumbers 17 = .ok (.iload 6, 2) := by decide +kernel
theorem dX4_readNumbers_19 : decode cX4_readNumbers 19 = .ok (.iload_n 2, 1) := by decide +kernel
theorem dX4_readNumbers_20 : decode cX4_readNumbers 20 = .ok (.if_icmp .ge 13, 3) := by decide +kernel
theorem dX4_readNumbers_23 : decode cX4_readNumbers 23 = .ok (.aload_n 0, 1) := by decide +kernel
theorem dX4_readNumbers_24 : decode cX4_readNumbers 24 = .ok (.getfield 9, 3) := by decide +kernel
theorem dX4_readNumbers_27 : decode cX4_readNumbers 27 = .ok (.iload 6, 2) := by decide +kernel
theorem dX4_readNumbers_29 : decode cX4_readNumbers 29 = .ok (.iaload, 1) := by decide +kernel
theorem dX4_readNumbers_30 : decode cX4_readNumbers 30 = .ok (.goto 5, 3) := by decide +kernel
theorem dX4_readNumbers_33 : decode cX4_readNumbers 33 = .ok (.bipush 44, 2) := by decide +kernel
theorem dX4_readNumbers_35 : decode cX4_readNumbers 35 = .ok (.istore 7, 2) := by decide +kernel
theorem dX4_readNumbers_37 : decode cX4_readNumbers 37 = .ok (.iload 7, 2) := by decide +kernel
theorem dX4_readNumbers_39 : decode cX4_readNumbers 39 = .ok (.bipush 44, 2) := by decide +kernel
theorem dX4_readNumbers_41 : decode cX4_readNumbers 41 = .ok (.if_icmp .ne 35, 3) := by decide +kernel
theorem dX4_readNumbers_44 : decode cX4_readNumbers 44 = .ok (.iload 4, 2) := by decide +kernel
theorem dX4_readNumbers_46 : decode cX4_readNumbers 46 = .ok (.ifCond .eq 8, 3) := by decide +kernel
theorem dX4_readNumbers_49 : decode cX4_readNumbers 49 = .ok (.iload_n 3, 1) := by decide +kernel
theorem dX4_readNumbers_50 : decode cX4_readNumbers 50 = .ok (.iconst 3, 1) := by decide +kernel
theorem dX4_readNumbers_51 : decode cX4_readNumbers 51 = .ok (.if_icmp .lt 5, 3) := by decide +kernel
theorem dX4_readNumbers_54 : decode cX4_readNumbers 54 = .ok (.iconst 0, 1) := by decide +kernel
theorem dX4_readNumbers_55 : decode cX4_readNumbers 55 = .ok (.ireturn, 1) := by decide +kernel
theorem dX4_readNumbers_56 : decode cX4_readNumbers 56 = .ok (.aload_n 0, 1) := by decide +kernel
theorem dX4_readNumbers_57 : decode cX4_readNumbers 57 = .ok (.getfield 15, 3) := by decide +kernel
theorem dX4_readNumbers_60 : decode cX4_readNumbers 60 = .ok (.iload_n 3, 1) := by decide +kernel
theorem dX4_readNumbers_61 : decode cX4_readNumbers 61 = .ok (.iload 5, 2) := by decide +kernel
theorem dX4_readNumbers_63 : decode cX4_readNumbers 63 = .ok (.iastore, 1) := by decide +kernel
theorem dX4_readNumbers_64 : decode cX4_readNumbers 64 = .ok (.iinc 3 1, 3) := by decide +kernel
theorem dX4_readNumbers_67 : decode cX4_readNumbers 67 = .ok (.iconst 0, 1) := by decide +kernel
theorem dX4_readNumbers_68 : decode cX4_readNumbers 68 = .ok (.istore 4, 2) := by decide +kernel
theorem dX4_readNumbers_70 : decode cX4_readNumbers 70 = .ok (.iconst 0, 1) := by decide +kernel
theorem dX4_readNumbers_71 : decode cX4_readNumbers 71 = .ok (.istore 5, 2) := by decide +kernel
theorem dX4_readNumbers_73 : decode cX4_readNumbers 73 = .ok (.goto 41, 3) := by decide +kernel
theorem dX4_readNumbers_76 : decode cX4_readNumbers 76 = .ok (.iload 7, 2) := by decide +kernel
theorem dX4_readNumbers_78 : decode cX4_readNumbers 78 = .ok (.bipush 48, 2) := by decide +kernel
theorem dX4_readNumbers_80 : decode cX4_readNumbers 80 = .ok (.if_icmp .lt 16, 3) := by decide +kernel
theorem dX4_readNumbers_83 : decode cX4_readNumbers 83 = .ok (.iload 7, 2) := by decide +kernel
theorem dX4_readNumbers_85 : decode cX4_readNumbers 85 = .ok (.bipush 57, 2) := by decide +kernel
theorem dX4_readNumbers_87 : decode cX4_readNumbers 87 = .ok (.if_icmp .gt 9, 3) := by decide +kernel
theorem dX4_readNumbers_90 : decode cX4_readNumbers 90 = .ok (.iload 4, 2) := by decide +kernel
theorem dX4_readNumbers_92 : decode cX4_readNumbers 92 = .ok (.iconst 2, 1) := by decide +kernel
theorem dX4_readNumbers_93 : decode cX4_readNumbers 93 = .ok (.if_icmp .lt 5, 3) := by decide +kernel
theorem dX4_readNumbers_96 : decode cX4_readNumbers 96 = .ok (.iconst 0, 1) := by decide +kernel
theorem dX4_readNumbers_97 : decode cX4_readNumbers 97 = .ok (.ireturn, 1) := by decide +kernel
theorem dX4_readNumbers_98 : decode cX4_readNumbers 98 = .ok (.bipush 10, 2) := by decide +kernel
theorem dX4_readNumbers_100 : decode cX4_readNumbers 100 = .ok (.iload 5, 2) := by decide +kernel
theorem dX4_readNumbers_102 : decode cX4_readNumbers 102 = .ok (.imul, 1) := by decide +kernel
theorem dX4_readNumbers_103 : decode cX4_readNumbers 103 = .ok (.iload 7, 2) := by decide +kernel
theorem dX4_readNumbers_105 : decode cX4_readNumbers 105 = .ok (.iadd, 1) := by decide +kernel
theorem dX4_readNumbers_106 : decode cX4_readNumbers 106 = .ok (.bipush 48, 2) := by decide +kernel
theorem dX4_readNumbers_108 : decode cX4_readNumbers 108 = .ok (.isub, 1) := by decide +kernel
theorem dX4_readNumbers_109 : decode cX4_readNumbers 109 = .ok (.istore 5, 2) := by decide +kernel
theorem dX4_readNumbers_111 : decode cX4_readNumbers 111 = .ok (.iinc 4 1, 3) := by decide +kernel
theorem dX4_readNumbers_114 : decode cX4_readNumbers 114 = .ok (.iinc 6 1, 3) := by decide +kernel
theorem dX4_readNumbers_117 : decode cX4_readNumbers 117 = .ok (.goto (-106), 3) := by decide +kernel
theorem dX4_readNumbers_120 : decode cX4_readNumbers 120 = .ok (.iload_n 3, 1) := by decide +kernel
theorem dX4_readNumbers_121 : decode cX4_readNumbers 121 = .ok (.ireturn, 1) := by decide +kernel
set_option maxRecDepth 20000 in
theorem ggX5_init_X4_init : GoodIn wsX5_init wsX4_init := goodIn_r _ [26, 27, 2, 3, 28, 29, 30, 31, 178, 179, 180] (by decide +kernel) (by decide +kernel)
set_option maxRecDepth 20000 in
theorem gX5_init_X4_init_n11 : GoodIn wsX5_init (wsX4_init) := ggX5_init_X4_init
set_option maxRecDepth 20000 in
theorem ggX5_init_X1_init : GoodIn wsX5_init wsX1_init := goodIn_r _ [33, 34, 2, 3, 35, 28, 36, 37, 38, 39, 40, 41, 42, 43, 44, 190, 191, 192, 193, 194, 195, 196, 197, 198, 199] (by decide +kernel) (by decide +kernel)
set_option maxRecDepth 20000 in
theorem gX5_init_X1_init_n18 : GoodIn wsX5_init (wsX1_init) := ggX5_init_X1_init
set_option maxRecDepth 20000 in
theorem ggX5_init_X3_init : GoodIn wsX5_init wsX3_init := goodIn_r _ [46, 47, 2, 3, 28, 48, 49, 50, 51, 52, 53, 54, 55, 56, 57, 58, 59, 60, 61, 62, 63, 64, 65, 66, 67, 68, 200, 201, 202, 203, 204, 205, 206, 207, 208, 209, 219, 220, 221, 222, 223] (by decide +kernel) (by decide +kernel)
set_option maxRecDepth 20000 in
theorem gX5_init_X3_init_n39 : GoodIn wsX5_init (wsX3_init) := ggX5_init_X3_init
set_option maxRecDepth 20000 in
theorem ggX5_init_X2_init : GoodIn wsX5_init wsX2_init := goodIn_r _ [70, 71, 2, 3, 28, 72, 73, 74, 75, 76, 77, 78, 79, 80, 210, 211, 212, 213, 214, 215, 216, 217, 218] (by decide +kernel) (by decide +kernel)
set_option maxRecDepth 20000 in
theorem gX5_init_X2_init_n50 : GoodIn wsX5_init (wsX2_init) := ggX5_init_X2_init
set_option maxRecDepth 20000 in
theorem ggX5_init_J0_length_8abf5 : GoodIn wsX5_init wsJ0_length_8abf5 := goodIn_r _ [85, 86, 87, 88, 89, 84, 90, 91, 92] (by decide +kernel) (by decide +kernel)
set_option maxRecDepth 20000 in
theorem gX5_init_J0_length_8abf5 : GoodIn wsX5_init (wsV RX5 57 RJ0 yJ0_length_8abf5 wsJ0_length_8abf5) := goodIn_app (goodIn_of _ (by decide +kernel)) ggX5_init_J0_length_8abf5
set_option maxRecDepth 20000 in
theorem ggX5_init_J0_charAt_5068e : GoodIn wsX5_init wsJ0_charAt_5068e := goodIn_r _ [96, 86, 97, 98, 99, 84, 100, 91, 92, 101, 102, 103, 104, 105, 106, 107, 108, 109, 110, 111, 112, 113, 114, 115, 116, 117, 118, 119, 120, 121, 122, 123, 124, 125, 126, 127, 128, 129] (by decide +kernel) (by decide +kernel)
set_option maxRecDepth 20000 in
theorem gX5_init_J0_charAt_5068e : GoodIn wsX5_init (wsV RX5 63 RJ0 yJ0_charAt_5068e wsJ0_charAt_5068e) := goodIn_app (goodIn_of _ (by decide +kernel)) ggX5_init_J0_charAt_5068e
set_option maxRecDepth 20000 in
theorem ggX5_init_X4_append : GoodIn wsX5_init wsX4_append := goodIn_r _ [132, 31, 29, 178, 179, 180] (by decide +kernel) (by decide +kernel)
set_option maxRecDepth 20000 in
theorem gX5_init_X4_append_n67 : GoodIn wsX5_init (wsX4_append) := ggX5_init_X4_append
set_option maxRecDepth 20000 in
theorem ggX5_init_X4_readInto : GoodIn wsX5_init wsX4_readInto := goodIn_r _ [135, 31, 29, 136, 10, 137, 138, 35, 39, 41, 44, 139, 140, 141, 142, 143, 144, 145, 6, 146, 30, 147, 148, 149, 150, 151, 152, 153, 36, 37, 38, 154, 155, 156, 40, 157, 158, 159, 42, 43, 160, 161, 162, 178, 179, 180, 190, 191, 192, 193, 194, 195, 196, 197, 198, 199] (by decide +kernel) (by decide +kernel)
set_option maxRecDepth 20000 in
theorem gX5_init_X4_readInto_n71 : GoodIn wsX5_init (wsX4_readInto) := ggX5_init_X4_readInto
set_option maxRecDepth 20000 in
theorem ggX5_init_X5_takeDraft : GoodIn wsX5_init wsX5_takeDraft := goodIn_r _ [167, 12, 11, 19, 16, 168, 18, 169, 170, 48, 171, 140, 141, 142, 49, 50, 51, 52, 53, 54, 55, 56, 60, 172, 59, 173, 174, 64, 65, 66, 181, 182, 183, 184, 185, 186, 187, 188, 189, 190, 191, 192, 193, 194, 195, 196, 197, 198, 199, 200, 201, 202, 203, 204, 205, 206, 207, 208, 209, 219, 220, 221, 222, 223] (by decide +kernel) (by decide +kernel)
set_option maxRecDepth 20000 in
theorem gX5_init_X5_takeDraft : GoodIn wsX5_init (wsV RX5 75 RX5 yX5_takeDraft wsX5_takeDraft) := goodIn_app (goodIn_of _ (by decide +kernel)) ggX5_init_X5_takeDraft
set_option maxRecDepth 20000 in
theorem ggX5_init_X4_clear : GoodIn wsX5_init wsX4_clear := goodIn_r _ [177, 31, 178, 179, 180] (by decide +kernel) (by decide +kernel)
set_option maxRecDepth 20000 in
theorem gX5_init_X4_clear_n78 : GoodIn wsX5_init (wsX4_clear) := ggX5_init_X4_clear
theorem dX5_init_0 : decode cX5_init 0 = .ok (.aload_n 0, 1) := by decide +kernel
theorem dX5_init_1 : decode cX5_init 1 = .ok (.invokespecial 3, 3) := by decide +kernel
theorem dX5_init_4 : decode cX5_init 4 = .ok (.aload_n 0, 1) := by decide +kernel
theorem dX5_init_5 : decode cX5_init 5 = .ok (.new 9, 3) := by decide +kernel
theorem dX5_init_8 : decode cX5_init 8 = .ok (.dup, 1) := by decide +kernel
theorem dX5_init_9 : decode cX5_init 9 = .ok (.invokespecial 11, 3) := by decide +kernel
theorem dX5_init_12 : decode cX5_init 12 = .ok (.putfield 12, 3) := by decide +kernel
theorem dX5_init_15 : decode cX5_init 15 = .ok (.aload_n 0, 1) := by decide +kernel
theorem dX5_init_16 : decode cX5_init 16 = .ok (.new 16, 3) := by decide +kernel
theorem dX5_init_19 : decode cX5_init 19 = .ok (.dup, 1) := by decide +kernel
theorem dX5_init_20 : decode cX5_init 20 = .ok (.invokespecial 18, 3) := by decide +kernel
theorem dX5_init_23 : decode cX5_init 23 = .ok (.putfield 19, 3) := by decide +kernel
theorem dX5_init_26 : decode cX5_init 26 = .ok (.aload_n 0, 1) := by decide +kernel
theorem dX5_init_27 : decode cX5_init 27 = .ok (.new 16, 3) := by decide +kernel
theorem dX5_init_30 : decode cX5_init 30 = .ok (.dup, 1) := by decide +kernel
theorem dX5_init_31 : decode cX5_init 31 = .ok (.invokespecial 18, 3) := by decide +kernel
theorem dX5_init_34 : decode cX5_init 34 = .ok (.putfield 23, 3) := by decide +kernel
theorem dX5_init_37 : decode cX5_init 37 = .ok (.aload_n 0, 1) := by decide +kernel
theorem dX5_init_38 : decode cX5_init 38 = .ok (.iconst 5, 1) := by decide +kernel
theorem dX5_init_39 : decode cX5_init 39 = .ok (.anewarray 26, 3) := by decide +kernel
theorem dX5_init_42 : decode cX5_init 42 = .ok (.putfield 28, 3) := by decide +kernel
theorem dX5_init_45 : decode cX5_init 45 = .ok (.aload_n 0, 1) := by decide +kernel
theorem dX5_init_46 : decode cX5_init 46 = .ok (.iconst 0, 1) := by decide +kernel
theorem dX5_init_47 : decode cX5_init 47 = .ok (.putfield 32, 3) := by decide +kernel
theorem dX5_init_50 : decode cX5_init 50 = .ok (.aload_n 0, 1) := by decide +kernel
theorem dX5_init_51 : decode cX5_init 51 = .ok (.iconst 0, 1) := by decide +kernel
theorem dX5_init_52 : decode cX5_init 52 = .ok (.putfield 36, 3) := by decide +kernel
theorem dX5_init_55 : decode cX5_init 55 = .ok (.aload_n 0, 1) := by decide +kernel
theorem dX5_init_56 : decode cX5_init 56 = .ok (.new 26, 3) := by decide +kernel
theorem dX5_init_59 : decode cX5_init 59 = .ok (.dup, 1) := by decide +kernel
theorem dX5_init_60 : decode cX5_init 60 = .ok (.invokespecial 39, 3) := by decide +kernel
theorem dX5_init_63 : decode cX5_init 63 = .ok (.putfield 40, 3) := by decide +kernel
theorem dX5_init_66 : decode cX5_init 66 = .ok (.aload_n 0, 1) := by decide +kernel
theorem dX5_init_67 : decode cX5_init 67 = .ok (.bipush 16, 2) := by decide +kernel
theorem dX5_init_69 : decode cX5_init 69 = .ok (.anewarray 44, 3) := by decide +kernel
theorem dX5_init_72 : decode cX5_init 72 = .ok (.putfield 46, 3) := by decide +kernel
theorem dX5_init_75 : decode cX5_init 75 = .ok (.aload_n 0, 1) := by decide +kernel
theorem dX5_init_76 : decode cX5_init 76 = .ok (.new 44, 3) := by decide +kernel
theorem dX5_init_79 : decode cX5_init 79 = .ok (.dup, 1) := by decide +kernel
theorem dX5_init_80 : decode cX5_init 80 = .ok (.invokespecial 50, 3) := by decide +kernel
theorem dX5_init_83 : decode cX5_init 83 = .ok (.putfield 51, 3) := by decide +kernel
theorem dX5_init_86 : decode cX5_init 86 = .ok (.aload_n 0, 1) := by decide +kernel
theorem dX5_init_87 : decode cX5_init 87 = .ok (.getfield 28, 3) := by decide +kernel
theorem dX5_init_90 : decode cX5_init 90 = .ok (.iconst 0, 1) := by decide +kernel
theorem dX5_init_91 : decode cX5_init 91 = .ok (.aload_n 0, 1) := by decide +kernel
theorem dX5_init_92 : decode cX5_init 92 = .ok (.getfield 40, 3) := by decide +kernel
theorem dX5_init_95 : decode cX5_init 95 = .ok (.aastore, 1) := by decide +kernel
theorem dX5_init_96 : decode cX5_init 96 = .ok (.iconst 1, 1) := by decide +kernel
theorem dX5_init_97 : decode cX5_init 97 = .ok (.istore_n 1, 1) := by decide +kernel
theorem dX5_init_98 : decode cX5_init 98 = .ok (.iload_n 1, 1) := by decide +kernel
theorem dX5_init_99 : decode cX5_init 99 = .ok (.iconst 5, 1) := by decide +kernel
theorem dX5_init_100 : decode cX5_init 100 = .ok (.if_icmp .ge 22, 3) := by decide +kernel
theorem dX5_init_103 : decode cX5_init 103 = .ok (.aload_n 0, 1) := by decide +kernel
theorem dX5_init_104 : decode cX5_init 104 = .ok (.getfield 28, 3) := by decide +kernel
theorem dX5_init_107 : decode cX5_init 107 = .ok (.iload_n 1, 1) := by decide +kernel
theorem dX5_init_108 : decode cX5_init 108 = .ok (.new 26, 3) := by decide +kernel
theorem dX5_init_111 : decode cX5_init 111 = .ok (.dup, 1) := by decide +kernel
theorem dX5_init_112 : decode cX5_init 112 = .ok (.invokespecial 39, 3) := by decide +kernel
theorem dX5_init_115 : decode cX5_init 115 = .ok (.aastore, 1) := by decide +kernel
theorem dX5_init_116 : decode cX5_init 116 = .ok (.iinc 1 1, 3) := by decide +kernel
theorem dX5_init_119 : decode cX5_init 119 = .ok (.goto (-21), 3) := by decide +kernel
theorem dX5_init_122 : decode cX5_init 122 = .ok (.iconst 0, 1) := by decide +kernel
theorem dX5_init_123 : decode cX5_init 123 = .ok (.istore_n 1, 1) := by decide +kernel
theorem dX5_init_124 : decode cX5_init 124 = .ok (.iload_n 1, 1) := by decide +kernel
theorem dX5_init_125 : decode cX5_init 125 = .ok (.bipush 16, 2) := by decide +kernel
theorem dX5_init_127 : decode cX5_init 127 = .ok (.if_icmp .ge 22, 3) := by decide +kernel
theorem dX5_init_130 : decode cX5_init 130 = .ok (.aload_n 0, 1) := by decide +kernel
theorem dX5_init_131 : decode cX5_init 131 = .ok (.getfield 46, 3) := by decide +kernel
theorem dX5_init_134 : decode cX5_init 134 = .ok (.iload_n 1, 1) := by decide +kernel
theorem dX5_init_135 : decode cX5_init 135 = .ok (.new 44, 3) := by decide +kernel
theorem dX5_init_138 : decode cX5_init 138 = .ok (.dup, 1) := by decide +kernel
theorem dX5_init_139 : decode cX5_init 139 = .ok (.invokespecial 50, 3) := by decide +kernel
theorem dX5_init_142 : decode cX5_init 142 = .ok (.aastore, 1) := by decide +kernel
theorem dX5_init_143 : decode cX5_init 143 = .ok (.iinc 1 1, 3) := by decide +kernel
theorem dX5_init_146 : decode cX5_init 146 = .ok (.goto (-22), 3) := by decide +kernel
theorem dX5_init_149 : decode cX5_init 149 = .ok (.iconst 0, 1) := by decide +kernel
theorem dX5_init_150 : decode cX5_init 150 = .ok (.istore_n 1, 1) := by decide +kernel
theorem dX5_init_151 : decode cX5_init 151 = .ok (.iload_n 1, 1) := by decide +kernel
theorem dX5_init_152 : decode cX5_init 152 = .ok (.ldc 55, 2) := by decide +kernel
theorem dX5_init_154 : decode cX5_init 154 = .ok (.invokevirtual 57, 3) := by decide +kernel
theorem dX5_init_157 : decode cX5_init 157 = .ok (.if_icmp .ge 23, 3) := by decide +kernel
theorem dX5_init_160 : decode cX5_init 160 = .ok (.aload_n 0, 1) := by decide +kernel
theorem dX5_init_161 : decode cX5_init 161 = .ok (.getfield 12, 3) := by decide +kernel
theorem dX5_init_164 : decode cX5_init 164 = .ok (.ldc 55, 2) := by decide +kernel
theorem dX5_init_166 : decode cX5_init 166 = .ok (.iload_n 1, 1) := by decide +kernel
theorem dX5_init_167 : decode cX5_init 167 = .ok (.invokevirtual 63, 3) := by decide +kernel
theorem dX5_init_170 : decode cX5_init 170 = .ok (.invokevirtual 67, 3) := by decide +kernel
theorem dX5_init_173 : decode cX5_init 173 = .ok (.pop, 1) := by decide +kernel
theorem dX5_init_174 : decode cX5_init 174 = .ok (.iinc 1 1, 3) := by decide +kernel
theorem dX5_init_177 : decode cX5_init 177 = .ok (.goto (-26), 3) := by decide +kernel
theorem dX5_init_180 : decode cX5_init 180 = .ok (.aload_n 0, 1) := by decide +kernel
theorem dX5_init_181 : decode cX5_init 181 = .ok (.getfield 12, 3) := by decide +kernel
theorem dX5_init_184 : decode cX5_init 184 = .ok (.aload_n 0, 1) := by decide +kernel
theorem dX5_init_185 : decode cX5_init 185 = .ok (.getfield 23, 3) := by decide +kernel
theorem dX5_init_188 : decode cX5_init 188 = .ok (.invokevirtual 71, 3) := by decide +kernel
theorem dX5_init_191 : decode cX5_init 191 = .ok (.pop, 1) := by decide +kernel
theorem dX5_init_192 : decode cX5_init 192 = .ok (.aload_n 0, 1) := by decide +kernel
theorem dX5_init_193 : decode cX5_init 193 = .ok (.invokevirtual 75, 3) := by decide +kernel
theorem dX5_init_196 : decode cX5_init 196 = .ok (.aload_n 0, 1) := by decide +kernel
theorem dX5_init_197 : decode cX5_init 197 = .ok (.getfield 12, 3) := by decide +kernel
theorem dX5_init_200 : decode cX5_init 200 = .ok (.invokevirtual 78, 3) := by decide +kernel
theorem dX5_init_203 : decode cX5_init 203 = .ok (.return_, 1) := by decide +kernel
set_option maxRecDepth 20000 in
theorem ggX5_write_X4_append : GoodIn wsX5_write wsX4_append := goodIn_r _ [5, 6, 7, 17, 18, 19] (by decide +kernel) (by decide +kernel)
set_option maxRecDepth 20000 in
theorem gX5_write_X4_append_n67 : GoodIn wsX5_write (wsX4_append) := ggX5_write_X4_append
theorem dX5_write_0 : decode cX5_write 0 = .ok (.iload_n 1, 1) := by decide +kernel
theorem dX5_write_1 : decode cX5_write 1 = .ok (.bipush 32, 2) := by decide +kernel
theorem dX5_write_3 : decode cX5_write 3 = .ok (.if_icmp .lt 9, 3) := by decide +kernel
theorem dX5_write_6 : decode cX5_write 6 = .ok (.iload_n 1, 1) := by decide +kernel
theorem dX5_write_7 : decode cX5_write 7 = .ok (.bipush 126, 2) := by decide +kernel
theorem dX5_write_9 : decode cX5_write 9 = .ok (.if_icmp .le 5, 3) := by decide +kernel
theorem dX5_write_12 : decode cX5_write 12 = .ok (.iconst (-1), 1) := by decide +kernel
theorem dX5_write_13 : decode cX5_write 13 = .ok (.ireturn, 1) := by decide +kernel
theorem dX5_write_14 : decode cX5_write 14 = .ok (.aload_n 0, 1) := by decide +kernel
theorem dX5_write_15 : decode cX5_write 15 = .ok (.getfield 12, 3) := by decide +kernel
theorem dX5_write_18 : decode cX5_write 18 = .ok (.iload_n 1, 1) := by decide +kernel
theorem dX5_write_19 : decode cX5_write 19 = .ok (.invokevirtual 67, 3) := by decide +kernel
theorem dX5_write_22 : decode cX5_write 22 = .ok (.ifCond .eq 13, 3) := by decide +kernel
theorem dX5_write_25 : decode cX5_write 25 = .ok (.aload_n 0, 1) := by decide +kernel
theorem dX5_write_26 : decode cX5_write 26 = .ok (.getfield 12, 3) := by decide +kernel
theorem dX5_write_29 : decode cX5_write 29 = .ok (.getfield 81, 3) := by decide +kernel
theorem dX5_write_32 : decode cX5_write 32 = .ok (.goto 5, 3) := by decide +kernel
theorem dX5_write_35 : decode cX5_write 35 = .ok (.bipush (-3), 2) := by decide +kernel
theorem dX5_write_37 : decode cX5_write 37 = .ok (.ireturn, 1) := by decide +kernel
set_option maxRecDepth 20000 in
theorem ggX5_wipe_X4_clear : GoodIn wsX5_wipe wsX4_clear := goodIn_r _ [5, 6, 16, 17, 18] (by decide +kernel) (by decide +kernel)
set_option maxRecDepth 20000 in
theorem gX5_wipe_X4_clear_n78 : GoodIn wsX5_wipe (wsX4_clear) := ggX5_wipe_X4_clear
theorem dX5_wipe_0 : decode cX5_wipe 0 = .ok (.aload_n 0, 1) := by decide +kernel
theorem dX5_wipe_1 : decode cX5_wipe 1 = .ok (.getfield 12, 3) := by decide +kernel
theorem dX5_wipe_4 : decode cX5_wipe 4 = .ok (.getfield 81, 3) := by decide +kernel
theorem dX5_wipe_7 : decode cX5_wipe 7 = .ok (.istore_n 1, 1) := by decide +kernel
theorem dX5_wipe_8 : decode cX5_wipe 8 = .ok (.aload_n 0, 1) := by decide +kernel
theorem dX5_wipe_9 : decode cX5_wipe 9 = .ok (.getfield 12, 3) := by decide +kernel
theorem dX5_wipe_12 : decode cX5_wipe 12 = .ok (.invokevirtual 78, 3) := by decide +kernel
theorem dX5_wipe_15 : decode cX5_wipe 15 = .ok (.iload_n 1, 1) := by decide +kernel
theorem dX5_wipe_16 : decode cX5_wipe 16 = .ok (.ireturn, 1) := by decide +kernel
set_option maxRecDepth 20000 in
theorem ggX5_fault_X4_readInto : GoodIn wsX5_fault wsX4_readInto := goodIn_r _ [6, 7, 8, 9, 10, 11, 12, 13, 14, 15, 16, 17, 18, 19, 20, 21, 22, 23, 4, 24, 25, 26, 27, 28, 29, 30, 31, 32, 33, 34, 35, 36, 37, 38, 39, 40, 41, 42, 43, 44, 45, 46, 47, 57, 58, 59, 60, 61, 62, 63, 64, 65, 66, 67, 68, 69] (by decide +kernel) (by decide +kernel)
set_option maxRecDepth 20000 in
theorem gX5_fault_X4_readInto_n71 : GoodIn wsX5_fault (wsX4_readInto) := ggX5_fault_X4_readInto
theorem dX5_fault_0 : decode cX5_fault 0 = .ok (.aload_n 0, 1) := by decide +kernel
theorem dX5_fault_1 : decode cX5_fault 1 = .ok (.getfield 12, 3) := by decide +kernel
theorem dX5_fault_4 : decode cX5_fault 4 = .ok (.aload_n 0, 1) := by decide +kernel
theorem dX5_fault_5 : decode cX5_fault 5 = .ok (.getfield 23, 3) := by decide +kernel
theorem dX5_fault_8 : decode cX5_fault 8 = .ok (.invokevirtual 71, 3) := by decide +kernel
theorem dX5_fault_11 : decode cX5_fault 11 = .ok (.ireturn, 1) := by decide +kernel
set_option maxRecDepth 20000 in
theorem ggX5_lay_X4_readInto : GoodIn wsX5_lay wsX4_readInto := goodIn_r _ [7, 8, 9, 10, 11, 12, 13, 14, 15, 16, 17, 18, 19, 20, 21, 22, 23, 24, 5, 25, 26, 27, 28, 29, 30, 31, 32, 33, 34, 35, 36, 37, 38, 39, 40, 41, 42, 43, 44, 45, 46, 47, 48, 104, 105, 106, 94, 95, 96, 97, 98, 99, 100, 101, 102, 103] (by decide +kernel) (by decide +kernel)
set_option maxRecDepth 20000 in
theorem gX5_lay_X4_readInto_n71 : GoodIn wsX5_lay (wsX4_readInto) := ggX5_lay_X4_readInto
set_option maxRecDepth 20000 in
theorem ggX5_lay_X1_canBeLaid : GoodIn wsX5_lay wsX1_canBeLaid := goodIn_r _ [51, 14, 16, 15, 52, 53, 54, 11, 55, 40, 94, 95, 96, 97, 98, 99, 100, 101, 102, 103] (by decide +kernel) (by decide +kernel)
set_option maxRecDepth 20000 in
theorem gX5_lay_X1_canBeLaid_n83 : GoodIn wsX5_lay (wsX1_canBeLaid) := ggX5_lay_X1_canBeLaid
set_option maxRecDepth 20000 in
theorem ggX5_lay_X5_takeDraft : GoodIn wsX5_lay wsX5_takeDraft := goodIn_r _ [60, 2, 3, 61, 62, 63, 64, 65, 66, 67, 68, 19, 20, 21, 69, 70, 71, 72, 73, 74, 75, 76, 77, 78, 79, 80, 81, 82, 83, 84, 85, 86, 87, 88, 89, 90, 91, 92, 93, 94, 95, 96, 97, 98, 99, 100, 101, 102, 103, 107, 108, 109, 110, 111, 112, 113, 114, 115, 116, 117, 118, 119, 120, 121] (by decide +kernel) (by decide +kernel)
set_option maxRecDepth 20000 in
theorem gX5_lay_X5_takeDraft : GoodIn wsX5_lay (wsV RX5 75 RX5 yX5_takeDraft wsX5_takeDraft) := goodIn_app (goodIn_of _ (by decide +kernel)) ggX5_lay_X5_takeDraft
theorem dX5_lay_0 : decode cX5_lay 0 = .ok (.aload_n 0, 1) := by decide +kernel
theorem dX5_lay_1 : decode cX5_lay 1 = .ok (.getfield 12, 3) := by decide +kernel
theorem dX5_lay_4 : decode cX5_lay 4 = .ok (.aload_n 0, 1) := by decide +kernel
theorem dX5_lay_5 : decode cX5_lay 5 = .ok (.getfield 23, 3) := by decide +kernel
theorem dX5_lay_8 : decode cX5_lay 8 = .ok (.invokevirtual 71, 3) := by decide +kernel
theorem dX5_lay_11 : decode cX5_lay 11 = .ok (.bipush (-4), 2) := by decide +kernel
theorem dX5_lay_13 : decode cX5_lay 13 = .ok (.if_icmp .ne 13, 3) := by decide +kernel
theorem dX5_lay_16 : decode cX5_lay 16 = .ok (.aload_n 0, 1) := by decide +kernel
theorem dX5_lay_17 : decode cX5_lay 17 = .ok (.getfield 23, 3) := by decide +kernel
theorem dX5_lay_20 : decode cX5_lay 20 = .ok (.invokevirtual 83, 3) := by decide +kernel
theorem dX5_lay_23 : decode cX5_lay 23 = .ok (.ifCond .ne 6, 3) := by decide +kernel
theorem dX5_lay_26 : decode cX5_lay 26 = .ok (.bipush (-2), 2) := by decide +kernel
theorem dX5_lay_28 : decode cX5_lay 28 = .ok (.ireturn, 1) := by decide +kernel
theorem dX5_lay_29 : decode cX5_lay 29 = .ok (.aload_n 0, 1) := by decide +kernel
theorem dX5_lay_30 : decode cX5_lay 30 = .ok (.invokevirtual 75, 3) := by decide +kernel
theorem dX5_lay_33 : decode cX5_lay 33 = .ok (.aload_n 0, 1) := by decide +kernel
theorem dX5_lay_34 : decode cX5_lay 34 = .ok (.getfield 19, 3) := by decide +kernel
theorem dX5_lay_37 : decode cX5_lay 37 = .ok (.getfield 87, 3) := by decide +kernel
theorem dX5_lay_40 : decode cX5_lay 40 = .ok (.ireturn, 1) := by decide +kernel
set_option maxRecDepth 20000 in
theorem ggX5_takeDraft_X3_startWith : GoodIn wsX5_takeDraft wsX3_startWith := goodIn_r _ [8, 9, 10, 11, 12, 13, 14, 15, 16, 17, 18, 19, 20, 21, 22, 23, 24, 25, 26, 27, 28, 29, 39, 40, 41, 42, 43, 44, 45, 46, 47, 48, 49, 50, 51, 52, 53, 54, 55, 56, 57, 58, 59, 60, 61, 62, 63] (by decide +kernel) (by decide +kernel)
set_option maxRecDepth 20000 in
theorem gX5_takeDraft_X3_startWith_n90 : GoodIn wsX5_takeDraft (wsX3_startWith) := ggX5_takeDraft_X3_startWith
theorem dX5_takeDraft_0 : decode cX5_takeDraft 0 = .ok (.aload_n 0, 1) := by decide +kernel
theorem dX5_takeDraft_1 : decode cX5_takeDraft 1 = .ok (.getfield 23, 3) := by decide +kernel
theorem dX5_takeDraft_4 : decode cX5_takeDraft 4 = .ok (.astore_n 1, 1) := by decide +kernel
theorem dX5_takeDraft_5 : decode cX5_takeDraft 5 = .ok (.aload_n 0, 1) := by decide +kernel
theorem dX5_takeDraft_6 : decode cX5_takeDraft 6 = .ok (.aload_n 0, 1) := by decide +kernel
theorem dX5_takeDraft_7 : decode cX5_takeDraft 7 = .ok (.getfield 19, 3) := by decide +kernel
theorem dX5_takeDraft_10 : decode cX5_takeDraft 10 = .ok (.putfield 23, 3) := by decide +kernel
theorem dX5_takeDraft_13 : decode cX5_takeDraft 13 = .ok (.aload_n 0, 1) := by decide +kernel
theorem dX5_takeDraft_14 : decode cX5_takeDraft 14 = .ok (.aload_n 1, 1) := by decide +kernel
theorem dX5_takeDraft_15 : decode cX5_takeDraft 15 = .ok (.putfield 19, 3) := by decide +kernel
theorem dX5_takeDraft_18 : decode cX5_takeDraft 18 = .ok (.aload_n 0, 1) := by decide +kernel
theorem dX5_takeDraft_19 : decode cX5_takeDraft 19 = .ok (.getfield 40, 3) := by decide +kernel
theorem dX5_takeDraft_22 : decode cX5_takeDraft 22 = .ok (.aload_n 0, 1) := by decide +kernel
theorem dX5_takeDraft_23 : decode cX5_takeDraft 23 = .ok (.getfield 19, 3) := by decide +kernel
theorem dX5_takeDraft_26 : decode cX5_takeDraft 26 = .ok (.invokevirtual 90, 3) := by decide +kernel
theorem dX5_takeDraft_29 : decode cX5_takeDraft 29 = .ok (.aload_n 0, 1) := by decide +kernel
theorem dX5_takeDraft_30 : decode cX5_takeDraft 30 = .ok (.iconst 0, 1) := by decide +kernel
theorem dX5_takeDraft_31 : decode cX5_takeDraft 31 = .ok (.putfield 36, 3) := by decide +kernel
theorem dX5_takeDraft_34 : decode cX5_takeDraft 34 = .ok (.return_, 1) := by decide +kernel
set_option maxRecDepth 20000 in
theorem ggX5_mould_X5_isFlag : GoodIn wsX5_mould wsX5_isFlag := goodIn_r _ [4] (by decide +kernel) (by decide +kernel)
set_option maxRecDepth 20000 in
theorem gX5_mould_X5_isFlag : GoodIn wsX5_mould (va_wsS RX5 94 yX5_isFlag wsX5_isFlag) := goodIn_app (goodIn_of _ (by decide +kernel)) ggX5_mould_X5_isFlag
set_option maxRecDepth 20000 in
theorem ggX5_mould_X5_shutMould : GoodIn wsX5_mould wsX5_shutMould := goodIn_r _ [8, 9, 10, 11, 12, 3, 13, 14, 15, 16, 17, 18, 19, 20, 21, 22, 23, 24, 25, 26, 27, 28, 29, 30, 31, 32, 33, 34, 35, 36, 37, 38, 39, 40, 41, 42, 43, 44, 45, 46, 47, 48, 53, 54, 55, 56, 57, 58, 59, 60, 61, 62, 63, 64, 65, 66, 67, 68, 69, 70, 71, 72, 73, 74, 75, 76] (by decide +kernel) (by decide +kernel)
set_option maxRecDepth 20000 in
theorem gX5_mould_X5_shutMould : GoodIn wsX5_mould (wsV RX5 97 RX5 yX5_shutMould wsX5_shutMould) := goodIn_app (goodIn_of _ (by decide +kernel)) ggX5_mould_X5_shutMould
set_option maxRecDepth 20000 in
theorem ggX5_mould_X5_openMould : GoodIn wsX5_mould wsX5_openMould := goodIn_r _ [52, 9, 10, 11, 12, 3, 13, 14, 15, 16, 17, 18, 19, 20, 21, 22, 23, 24, 25, 26, 27, 28, 29, 30, 31, 32, 33, 34, 35, 36, 37, 38, 39, 40, 41, 42, 43, 44, 45, 46, 47, 48, 53, 54, 55, 56, 57, 58, 59, 60, 61, 62, 63, 64, 65, 66, 67, 68, 69, 70, 71, 72, 73, 74, 75, 76] (by decide +kernel) (by decide +kernel)
set_option maxRecDepth 20000 in
theorem gX5_mould_X5_openMould : GoodIn wsX5_mould (wsV RX5 100 RX5 yX5_openMould wsX5_openMould) := goodIn_app (goodIn_of _ (by decide +kernel)) ggX5_mould_X5_openMould
theorem dX5_mould_0 : decode cX5_mould 0 = .ok (.iload_n 1, 1) := by decide +kernel
theorem dX5_mould_1 : decode cX5_mould 1 = .ok (.invokestatic 94, 3) := by decide +kernel
theorem dX5_mould_4 : decode cX5_mould 4 = .ok (.ifCond .ne 5, 3) := by decide +kernel
theorem dX5_mould_7 : decode cX5_mould 7 = .ok (.iconst (-1), 1) := by decide +kernel
theorem dX5_mould_8 : decode cX5_mould 8 = .ok (.ireturn, 1) := by decide +kernel
theorem dX5_mould_9 : decode cX5_mould 9 = .ok (.iload_n 1, 1) := by decide +kernel
theorem dX5_mould_10 : decode cX5_mould 10 = .ok (.iconst 1, 1) := by decide +kernel
theorem dX5_mould_11 : decode cX5_mould 11 = .ok (.if_icmp .ne 10, 3) := by decide +kernel
theorem dX5_mould_14 : decode cX5_mould 14 = .ok (.aload_n 0, 1) := by decide +kernel
theorem dX5_mould_15 : decode cX5_mould 15 = .ok (.invokevirtual 97, 3) := by decide +kernel
theorem dX5_mould_18 : decode cX5_mould 18 = .ok (.goto 7, 3) := by decide +kernel
theorem dX5_mould_21 : decode cX5_mould 21 = .ok (.aload_n 0, 1) := by decide +kernel
theorem dX5_mould_22 : decode cX5_mould 22 = .ok (.invokevirtual 100, 3) := by decide +kernel
theorem dX5_mould_25 : decode cX5_mould 25 = .ok (.ireturn, 1) := by decide +kernel
set_option maxRecDepth 20000 in
theorem ggX5_shutMould_X5_startChange : GoodIn wsX5_shutMould wsX5_startChange := goodIn_r _ [6, 7, 8, 1, 9, 10, 11, 12, 13, 14, 15, 16, 17, 18, 19, 20, 21, 22, 23, 24, 25, 26, 27, 28, 29, 30, 31, 32, 33, 34, 35, 36, 37, 38, 39, 40, 41, 42, 43, 44, 45, 46, 47, 48, 49, 50, 51, 52, 53, 54, 55, 56, 57, 58, 59, 60, 61, 62, 63, 64, 65] (by decide +kernel) (by decide +kernel)
set_option maxRecDepth 20000 in
theorem gX5_shutMould_X5_startChange : GoodIn wsX5_shutMould (wsV RX5 107 RX5 yX5_startChange wsX5_startChange) := goodIn_app (goodIn_of _ (by decide +kernel)) ggX5_shutMould_X5_startChange
theorem dX5_shutMould_0 : decode cX5_shutMould 0 = .ok (.aload_n 0, 1) := by decide +kernel
theorem dX5_shutMould_1 : decode cX5_shutMould 1 = .ok (.getfield 40, 3) := by decide +kernel
theorem dX5_shutMould_4 : decode cX5_shutMould 4 = .ok (.getfield 103, 3) := by decide +kernel
theorem dX5_shutMould_7 : decode cX5_shutMould 7 = .ok (.ifCond .eq 6, 3) := by decide +kernel
theorem dX5_shutMould_10 : decode cX5_shutMould 10 = .ok (.bipush (-2), 2) := by decide +kernel
theorem dX5_shutMould_12 : decode cX5_shutMould 12 = .ok (.ireturn, 1) := by decide +kernel
theorem dX5_shutMould_13 : decode cX5_shutMould 13 = .ok (.aload_n 0, 1) := by decide +kernel
theorem dX5_shutMould_14 : decode cX5_shutMould 14 = .ok (.invokevirtual 107, 3) := by decide +kernel
theorem dX5_shutMould_17 : decode cX5_shutMould 17 = .ok (.aload_n 0, 1) := by decide +kernel
theorem dX5_shutMould_18 : decode cX5_shutMould 18 = .ok (.getfield 40, 3) := by decide +kernel
theorem dX5_shutMould_21 : decode cX5_shutMould 21 = .ok (.iconst 1, 1) := by decide +kernel
theorem dX5_shutMould_22 : decode cX5_shutMould 22 = .ok (.putfield 103, 3) := by decide +kernel
theorem dX5_shutMould_25 : decode cX5_shutMould 25 = .ok (.iconst 0, 1) := by decide +kernel
theorem dX5_shutMould_26 : decode cX5_shutMould 26 = .ok (.ireturn, 1) := by decide +kernel
set_option maxRecDepth 20000 in
theorem ggX5_openMould_X5_startChange : GoodIn wsX5_openMould wsX5_startChange := goodIn_r _ [6, 7, 8, 1, 9, 10, 11, 12, 13, 14, 15, 16, 17, 18, 19, 20, 21, 22, 23, 24, 25, 26, 27, 28, 29, 30, 31, 32, 33, 34, 35, 36, 37, 38, 39, 40, 41, 42, 43, 44, 45, 46, 47, 48, 49, 50, 51, 52, 53, 54, 55, 56, 57, 58, 59, 60, 61, 62, 63, 64, 65] (by decide +kernel) (by decide +kernel)
set_option maxRecDepth 20000 in
theorem gX5_openMould_X5_startChange : GoodIn wsX5_openMould (wsV RX5 107 RX5 yX5_startChange wsX5_startChange) := goodIn_app (goodIn_of _ (by decide +kernel)) ggX5_openMould_X5_startChange
theorem dX5_openMould_0 : decode cX5_openMould 0 = .ok (.aload_n 0, 1) := by decide +kernel
theorem dX5_openMould_1 : decode cX5_openMould 1 = .ok (.getfield 40, 3) := by decide +kernel
theorem dX5_openMould_4 : decode cX5_openMould 4 = .ok (.getfield 103, 3) := by decide +kernel
theorem dX5_openMould_7 : decode cX5_openMould 7 = .ok (.ifCond .eq 23, 3) := by decide +kernel
theorem dX5_openMould_10 : decode cX5_openMould 10 = .ok (.aload_n 0, 1) := by decide +kernel
theorem dX5_openMould_11 : decode cX5_openMould 11 = .ok (.getfield 40, 3) := by decide +kernel
theorem dX5_openMould_14 : decode cX5_openMould 14 = .ok (.getfield 110, 3) := by decide +kernel
theorem dX5_openMould_17 : decode cX5_openMould 17 = .ok (.ifCond .ne 13, 3) := by decide +kernel
theorem dX5_openMould_20 : decode cX5_openMould 20 = .ok (.aload_n 0, 1) := by decide +kernel
theorem dX5_openMould_21 : decode cX5_openMould 21 = .ok (.getfield 40, 3) := by decide +kernel
theorem dX5_openMould_24 : decode cX5_openMould 24 = .ok (.getfield 113, 3) := by decide +kernel
theorem dX5_openMould_27 : decode cX5_openMould 27 = .ok (.ifCond .eq 6, 3) := by decide +kernel
theorem dX5_openMould_30 : decode cX5_openMould 30 = .ok (.bipush (-2), 2) := by decide +kernel
theorem dX5_openMould_32 : decode cX5_openMould 32 = .ok (.ireturn, 1) := by decide +kernel
theorem dX5_openMould_33 : decode cX5_openMould 33 = .ok (.aload_n 0, 1) := by decide +kernel
theorem dX5_openMould_34 : decode cX5_openMould 34 = .ok (.getfield 40, 3) := by decide +kernel
theorem dX5_openMould_37 : decode cX5_openMould 37 = .ok (.getfield 116, 3) := by decide +kernel
theorem dX5_openMould_40 : decode cX5_openMould 40 = .ok (.ifCond .eq 7, 3) := by decide +kernel
theorem dX5_openMould_43 : decode cX5_openMould 43 = .ok (.iconst 1, 1) := by decide +kernel
theorem dX5_openMould_44 : decode cX5_openMould 44 = .ok (.goto 4, 3) := by decide +kernel
theorem dX5_openMould_47 : decode cX5_openMould 47 = .ok (.iconst 0, 1) := by decide +kernel
theorem dX5_openMould_48 : decode cX5_openMould 48 = .ok (.istore_n 1, 1) := by decide +kernel
theorem dX5_openMould_49 : decode cX5_openMould 49 = .ok (.aload_n 0, 1) := by decide +kernel
theorem dX5_openMould_50 : decode cX5_openMould 50 = .ok (.invokevirtual 107, 3) := by decide +kernel
theorem dX5_openMould_53 : decode cX5_openMould 53 = .ok (.aload_n 0, 1) := by decide +kernel
theorem dX5_openMould_54 : decode cX5_openMould 54 = .ok (.getfield 40, 3) := by decide +kernel
theorem dX5_openMould_57 : decode cX5_openMould 57 = .ok (.iconst 0, 1) := by decide +kernel
theorem dX5_openMould_58 : decode cX5_openMould 58 = .ok (.putfield 103, 3) := by decide +kernel
theorem dX5_openMould_61 : decode cX5_openMould 61 = .ok (.aload_n 0, 1) := by decide +kernel
theorem dX5_openMould_62 : decode cX5_openMould 62 = .ok (.getfield 40, 3) := by decide +kernel
theorem dX5_openMould_65 : decode cX5_openMould 65 = .ok (.iconst 0, 1) := by decide +kernel
theorem dX5_openMould_66 : decode cX5_openMould 66 = .ok (.putfield 116, 3) := by decide +kernel
theorem dX5_openMould_69 : decode cX5_openMould 69 = .ok (.iload_n 1, 1) := by decide +kernel
theorem dX5_openMould_70 : decode cX5_openMould 70 = .ok (.ireturn, 1) := by decide +kernel
set_option maxRecDepth 20000 in
theorem ggX5_core_X5_isCore : GoodIn wsX5_core wsX5_isCore := goodIn_r _ [6, 7, 72, 73, 74, 75, 76, 77, 78, 79, 80, 91, 92, 93, 94, 95, 96, 97, 98, 99, 100] (by decide +kernel) (by decide +kernel)
set_option maxRecDepth 20000 in
theorem gX5_core_X5_isCore : GoodIn wsX5_core (wsV RX5 119 RX5 yX5_isCore wsX5_isCore) := goodIn_app (goodIn_of _ (by decide +kernel)) ggX5_core_X5_isCore
set_option maxRecDepth 20000 in
theorem ggX5_core_X5_isFlag : GoodIn wsX5_core wsX5_isFlag := goodIn_r _ [10] (by decide +kernel) (by decide +kernel)
set_option maxRecDepth 20000 in
theorem gX5_core_X5_isFlag : GoodIn wsX5_core (va_wsS RX5 94 yX5_isFlag wsX5_isFlag) := goodIn_app (goodIn_of _ (by decide +kernel)) ggX5_core_X5_isFlag
set_option maxRecDepth 20000 in
theorem ggX5_core_X5_barrier : GoodIn wsX5_core wsX5_barrier := goodIn_r _ [14, 1, 15, 16, 17, 18, 19, 20, 21, 22, 5, 23, 7, 2, 3, 4, 6, 24, 25, 26, 27, 72, 73, 74, 75, 76, 77, 78, 79, 80, 81, 82, 83, 84, 85, 86, 87, 88, 89, 90, 91, 92, 93, 94, 95, 96, 97, 98, 99, 100] (by decide +kernel) (by decide +kernel)
set_option maxRecDepth 20000 in
theorem gX5_core_X5_barrier : GoodIn wsX5_core (wsV RX5 122 RX5 yX5_barrier wsX5_barrier) := goodIn_app (goodIn_of _ (by decide +kernel)) ggX5_core_X5_barrier
set_option maxRecDepth 20000 in
theorem ggX5_core_X5_startChange : GoodIn wsX5_core wsX5_startChange := goodIn_r _ [31, 32, 33, 1, 34, 35, 36, 37, 38, 39, 16, 40, 41, 42, 43, 44, 45, 46, 47, 48, 49, 19, 50, 51, 52, 53, 54, 55, 56, 57, 58, 59, 60, 61, 62, 63, 64, 72, 73, 74, 75, 76, 77, 78, 79, 80, 81, 82, 83, 84, 85, 86, 87, 88, 89, 90, 101, 102, 103, 104, 105] (by decide +kernel) (by decide +kernel)
set_option maxRecDepth 20000 in
theorem gX5_core_X5_startChange : GoodIn wsX5_core (wsV RX5 107 RX5 yX5_startChange wsX5_startChange) := goodIn_app (goodIn_of _ (by decide +kernel)) ggX5_core_X5_startChange
set_option maxRecDepth 20000 in
theorem ggX5_core_J6_bitCount_0f7a4 : GoodIn wsX5_core wsJ6_bitCount_0f7a4 := goodIn_r _ [68, 69, 70, 71] (by decide +kernel) (by decide +kernel)
set_option maxRecDepth 20000 in
theorem gX5_core_J6_bitCount_0f7a4 : GoodIn wsX5_core (va_wsS RX5 126 yJ6_bitCount_0f7a4 wsJ6_bitCount_0f7a4) := goodIn_app (goodIn_of _ (by decide +kernel)) ggX5_core_J6_bitCount_0f7a4
theorem dX5_core_0 : decode cX5_core 0 = .ok (.aload_n 0, 1) := by decide +kernel
theorem dX5_core_1 : decode cX5_core 1 = .ok (.iload_n 1, 1) := by decide +kernel
theorem dX5_core_2 : decode cX5_core 2 = .ok (.invokevirtual 119, 3) := by decide +kernel
theorem dX5_core_5 : decode cX5_core 5 = .ok (.ifCond .eq 10, 3) := by decide +kernel
theorem dX5_core_8 : decode cX5_core 8 = .ok (.iload_n 2, 1) := by decide +kernel
theorem dX5_core_9 : decode cX5_core 9 = .ok (.invokestatic 94, 3) := by decide +kernel
theorem dX5_core_12 : decode cX5_core 12 = .ok (.ifCond .ne 5, 3) := by decide +kernel
theorem dX5_core_15 : decode cX5_core 15 = .ok (.iconst (-1), 1) := by decide +kernel
theorem dX5_core_16 : decode cX5_core 16 = .ok (.ireturn, 1) := by decide +kernel
theorem dX5_core_17 : decode cX5_core 17 = .ok (.aload_n 0, 1) := by decide +kernel
theorem dX5_core_18 : decode cX5_core 18 = .ok (.iload_n 1, 1) := by decide +kernel
theorem dX5_core_19 : decode cX5_core 19 = .ok (.iload_n 2, 1) := by decide +kernel
theorem dX5_core_20 : decode cX5_core 20 = .ok (.invokevirtual 122, 3) := by decide +kernel
theorem dX5_core_23 : decode cX5_core 23 = .ok (.ifCond .eq 6, 3) := by decide +kernel
theorem dX5_core_26 : decode cX5_core 26 = .ok (.bipush (-2), 2) := by decide +kernel
theorem dX5_core_28 : decode cX5_core 28 = .ok (.ireturn, 1) := by decide +kernel
theorem dX5_core_29 : decode cX5_core 29 = .ok (.aload_n 0, 1) := by decide +kernel
theorem dX5_core_30 : decode cX5_core 30 = .ok (.invokevirtual 107, 3) := by decide +kernel
theorem dX5_core_33 : decode cX5_core 33 = .ok (.aload_n 0, 1) := by decide +kernel
theorem dX5_core_34 : decode cX5_core 34 = .ok (.getfield 40, 3) := by decide +kernel
theorem dX5_core_37 : decode cX5_core 37 = .ok (.dup, 1) := by decide +kernel
theorem dX5_core_38 : decode cX5_core 38 = .ok (.getfield 110, 3) := by decide +kernel
theorem dX5_core_41 : decode cX5_core 41 = .ok (.iconst 1, 1) := by decide +kernel
theorem dX5_core_42 : decode cX5_core 42 = .ok (.iload_n 1, 1) := by decide +kernel
theorem dX5_core_43 : decode cX5_core 43 = .ok (.ishl, 1) := by decide +kernel
theorem dX5_core_44 : decode cX5_core 44 = .ok (.ixor, 1) := by decide +kernel
theorem dX5_core_45 : decode cX5_core 45 = .ok (.putfield 110, 3) := by decide +kernel
theorem dX5_core_48 : decode cX5_core 48 = .ok (.aload_n 0, 1) := by decide +kernel
theorem dX5_core_49 : decode cX5_core 49 = .ok (.getfield 40, 3) := by decide +kernel
theorem dX5_core_52 : decode cX5_core 52 = .ok (.getfield 110, 3) := by decide +kernel
theorem dX5_core_55 : decode cX5_core 55 = .ok (.invokestatic 126, 3) := by decide +kernel
theorem dX5_core_58 : decode cX5_core 58 = .ok (.ireturn, 1) := by decide +kernel
set_option maxRecDepth 20000 in
theorem ggX5_against_X5_isCore : GoodIn wsX5_against wsX5_isCore := goodIn_r _ [5, 6, 28, 29, 30, 31, 32, 33, 34, 35, 36, 37, 38, 39, 40, 41, 42, 43, 44, 45, 46] (by decide +kernel) (by decide +kernel)
set_option maxRecDepth 20000 in
theorem gX5_against_X5_isCore : GoodIn wsX5_against (wsV RX5 119 RX5 yX5_isCore wsX5_isCore) := goodIn_app (goodIn_of _ (by decide +kernel)) ggX5_against_X5_isCore
set_option maxRecDepth 20000 in
theorem ggX5_against_X5_isFlag : GoodIn wsX5_against wsX5_isFlag := goodIn_r _ [9] (by decide +kernel) (by decide +kernel)
set_option maxRecDepth 20000 in
theorem gX5_against_X5_isFlag : GoodIn wsX5_against (va_wsS RX5 94 yX5_isFlag wsX5_isFlag) := goodIn_app (goodIn_of _ (by decide +kernel)) ggX5_against_X5_isFlag
set_option maxRecDepth 20000 in
theorem ggX5_against_X5_barrier : GoodIn wsX5_against wsX5_barrier := goodIn_r _ [13, 14, 15, 16, 17, 18, 19, 20, 21, 22, 4, 23, 6, 1, 2, 3, 5, 24, 25, 26, 27, 28, 29, 30, 31, 32, 33, 34, 35, 36, 47, 48, 49, 50, 51, 52, 53, 54, 55, 56, 37, 38, 39, 40, 41, 42, 43, 44, 45, 46] (by decide +kernel) (by decide +kernel)
set_option maxRecDepth 20000 in
theorem gX5_against_X5_barrier : GoodIn wsX5_against (wsV RX5 122 RX5 yX5_barrier wsX5_barrier) := goodIn_app (goodIn_of _ (by decide +kernel)) ggX5_against_X5_barrier
theorem dX5_against_0 : decode cX5_against 0 = .ok (.aload_n 0, 1) := by decide +kernel
theorem dX5_against_1 : decode cX5_against 1 = .ok (.iload_n 1, 1) := by decide +kernel
theorem dX5_against_2 : decode cX5_against 2 = .ok (.invokevirtual 119, 3) := by decide +kernel
theorem dX5_against_5 : decode cX5_against 5 = .ok (.ifCond .eq 10, 3) := by decide +kernel
theorem dX5_against_8 : decode cX5_against 8 = .ok (.iload_n 2, 1) := by decide +kernel
theorem dX5_against_9 : decode cX5_against 9 = .ok (.invokestatic 94, 3) := by decide +kernel
theorem dX5_against_12 : decode cX5_against 12 = .ok (.ifCond .ne 5, 3) := by decide +kernel
theorem dX5_against_15 : decode cX5_against 15 = .ok (.iconst (-1), 1) := by decide +kernel
theorem dX5_against_16 : decode cX5_against 16 = .ok (.ireturn, 1) := by decide +kernel
theorem dX5_against_17 : decode cX5_against 17 = .ok (.aload_n 0, 1) := by decide +kernel
theorem dX5_against_18 : decode cX5_against 18 = .ok (.iload_n 1, 1) := by decide +kernel
theorem dX5_against_19 : decode cX5_against 19 = .ok (.iload_n 2, 1) := by decide +kernel
theorem dX5_against_20 : decode cX5_against 20 = .ok (.invokevirtual 122, 3) := by decide +kernel
theorem dX5_against_23 : decode cX5_against 23 = .ok (.ireturn, 1) := by decide +kernel
set_option maxRecDepth 20000 in
theorem ggX5_barrier_X3_isIn : GoodIn wsX5_barrier wsX3_isIn := goodIn_r _ [5, 6, 30, 31, 32, 33, 34, 35, 36, 37, 38, 39] (by decide +kernel) (by decide +kernel)
set_option maxRecDepth 20000 in
theorem gX5_barrier_X3_isIn_n132 : GoodIn wsX5_barrier (wsX3_isIn) := ggX5_barrier_X3_isIn
set_option maxRecDepth 20000 in
theorem ggX5_barrier_X5_outAheadOf : GoodIn wsX5_barrier wsX5_outAheadOf := goodIn_r _ [11, 12, 1, 13, 14, 15, 10, 16, 2, 3, 4, 5, 6, 21, 22, 23, 24, 25, 26, 27, 28, 29, 40, 41, 42, 43, 44, 45, 46, 47, 48, 49, 30, 31, 32, 33, 34, 35, 36, 37, 38, 39] (by decide +kernel) (by decide +kernel)
set_option maxRecDepth 20000 in
theorem gX5_barrier_X5_outAheadOf : GoodIn wsX5_barrier (wsV RX5 135 RX5 yX5_outAheadOf wsX5_outAheadOf) := goodIn_app (goodIn_of _ (by decide +kernel)) ggX5_barrier_X5_outAheadOf
set_option maxRecDepth 20000 in
theorem ggX5_barrier_X5_inBehind : GoodIn wsX5_barrier wsX5_inBehind := goodIn_r _ [20, 12, 1, 2, 3, 4, 5, 6, 21, 22, 23, 24, 25, 26, 27, 28, 29, 40, 41, 42, 43, 44, 45, 46, 47, 48, 49, 30, 31, 32, 33, 34, 35, 36, 37, 38, 39] (by decide +kernel) (by decide +kernel)
set_option maxRecDepth 20000 in
theorem gX5_barrier_X5_inBehind : GoodIn wsX5_barrier (wsV RX5 138 RX5 yX5_inBehind wsX5_inBehind) := goodIn_app (goodIn_of _ (by decide +kernel)) ggX5_barrier_X5_inBehind
theorem dX5_barrier_0 : decode cX5_barrier 0 = .ok (.iload_n 2, 1) := by decide +kernel
theorem dX5_barrier_1 : decode cX5_barrier 1 = .ok (.iconst 1, 1) := by decide +kernel
theorem dX5_barrier_2 : decode cX5_barrier 2 = .ok (.if_icmp .ne 7, 3) := by decide +kernel
theorem dX5_barrier_5 : decode cX5_barrier 5 = .ok (.iconst 1, 1) := by decide +kernel
theorem dX5_barrier_6 : decode cX5_barrier 6 = .ok (.goto 4, 3) := by decide +kernel
theorem dX5_barrier_9 : decode cX5_barrier 9 = .ok (.iconst 0, 1) := by decide +kernel
theorem dX5_barrier_10 : decode cX5_barrier 10 = .ok (.istore_n 3, 1) := by decide +kernel
theorem dX5_barrier_11 : decode cX5_barrier 11 = .ok (.aload_n 0, 1) := by decide +kernel
theorem dX5_barrier_12 : decode cX5_barrier 12 = .ok (.getfield 40, 3) := by decide +kernel
theorem dX5_barrier_15 : decode cX5_barrier 15 = .ok (.iload_n 1, 1) := by decide +kernel
theorem dX5_barrier_16 : decode cX5_barrier 16 = .ok (.invokevirtual 132, 3) := by decide +kernel
theorem dX5_barrier_19 : decode cX5_barrier 19 = .ok (.iload_n 3, 1) := by decide +kernel
theorem dX5_barrier_20 : decode cX5_barrier 20 = .ok (.if_icmp .ne 5, 3) := by decide +kernel
theorem dX5_barrier_23 : decode cX5_barrier 23 = .ok (.iconst 1, 1) := by decide +kernel
theorem dX5_barrier_24 : decode cX5_barrier 24 = .ok (.ireturn, 1) := by decide +kernel
theorem dX5_barrier_25 : decode cX5_barrier 25 = .ok (.aload_n 0, 1) := by decide +kernel
theorem dX5_barrier_26 : decode cX5_barrier 26 = .ok (.getfield 40, 3) := by decide +kernel
theorem dX5_barrier_29 : decode cX5_barrier 29 = .ok (.getfield 103, 3) := by decide +kernel
theorem dX5_barrier_32 : decode cX5_barrier 32 = .ok (.ifCond .ne 5, 3) := by decide +kernel
theorem dX5_barrier_35 : decode cX5_barrier 35 = .ok (.iconst 2, 1) := by decide +kernel
theorem dX5_barrier_36 : decode cX5_barrier 36 = .ok (.ireturn, 1) := by decide +kernel
theorem dX5_barrier_37 : decode cX5_barrier 37 = .ok (.iload_n 3, 1) := by decide +kernel
theorem dX5_barrier_38 : decode cX5_barrier 38 = .ok (.ifCond .eq 16, 3) := by decide +kernel
theorem dX5_barrier_41 : decode cX5_barrier 41 = .ok (.aload_n 0, 1) := by decide +kernel
theorem dX5_barrier_42 : decode cX5_barrier 42 = .ok (.getfield 40, 3) := by decide +kernel
theorem dX5_barrier_45 : decode cX5_barrier 45 = .ok (.getfield 116, 3) := by decide +kernel
theorem dX5_barrier_48 : decode cX5_barrier 48 = .ok (.ifCond .eq 18, 3) := by decide +kernel
theorem dX5_barrier_51 : decode cX5_barrier 51 = .ok (.goto 13, 3) := by decide +kernel
theorem dX5_barrier_54 : decode cX5_barrier 54 = .ok (.aload_n 0, 1) := by decide +kernel
theorem dX5_barrier_55 : decode cX5_barrier 55 = .ok (.getfield 40, 3) := by decide +kernel
theorem dX5_barrier_58 : decode cX5_barrier 58 = .ok (.getfield 113, 3) := by decide +kernel
theorem dX5_barrier_61 : decode cX5_barrier 61 = .ok (.ifCond .eq 5, 3) := by decide +kernel
theorem dX5_barrier_64 : decode cX5_barrier 64 = .ok (.iconst 3, 1) := by decide +kernel
theorem dX5_barrier_65 : decode cX5_barrier 65 = .ok (.ireturn, 1) := by decide +kernel
theorem dX5_barrier_66 : decode cX5_barrier 66 = .ok (.iload_n 3, 1) := by decide +kernel
theorem dX5_barrier_67 : decode cX5_barrier 67 = .ok (.ifCond .eq 11, 3) := by decide +kernel
theorem dX5_barrier_70 : decode cX5_barrier 70 = .ok (.aload_n 0, 1) := by decide +kernel
theorem dX5_barrier_71 : decode cX5_barrier 71 = .ok (.iload_n 1, 1) := by decide +kernel
theorem dX5_barrier_72 : decode cX5_barrier 72 = .ok (.invokevirtual 135, 3) := by decide +kernel
theorem dX5_barrier_75 : decode cX5_barrier 75 = .ok (.goto 8, 3) := by decide +kernel
theorem dX5_barrier_78 : decode cX5_barrier 78 = .ok (.aload_n 0, 1) := by decide +kernel
theorem dX5_barrier_79 : decode cX5_barrier 79 = .ok (.iload_n 1, 1) := by decide +kernel
theorem dX5_barrier_80 : decode cX5_barrier 80 = .ok (.invokevirtual 138, 3) := by decide +kernel
theorem dX5_barrier_83 : decode cX5_barrier 83 = .ok (.istore 4, 2) := by decide +kernel
theorem dX5_barrier_85 : decode cX5_barrier 85 = .ok (.iload 4, 2) := by decide +kernel
theorem dX5_barrier_87 : decode cX5_barrier 87 = .ok (.bipush 9, 2) := by decide +kernel
theorem dX5_barrier_89 : decode cX5_barrier 89 = .ok (.if_icmp .ne 7, 3) := by decide +kernel
theorem dX5_barrier_92 : decode cX5_barrier 92 = .ok (.iconst 0, 1) := by decide +kernel
theorem dX5_barrier_93 : decode cX5_barrier 93 = .ok (.goto 7, 3) := by decide +kernel
theorem dX5_barrier_96 : decode cX5_barrier 96 = .ok (.iconst 4, 1) := by decide +kernel
theorem dX5_barrier_97 : decode cX5_barrier 97 = .ok (.iload 4, 2) := by decide +kernel
theorem dX5_barrier_99 : decode cX5_barrier 99 = .ok (.iadd, 1) := by decide +kernel
theorem dX5_barrier_100 : decode cX5_barrier 100 = .ok (.ireturn, 1) := by decide +kernel
set_option maxRecDepth 20000 in
theorem ggX5_outAheadOf_X5_isCore : GoodIn wsX5_outAheadOf wsX5_isCore := goodIn_r _ [7, 1, 13, 14, 15, 16, 17, 18, 19, 20, 21, 22, 23, 24, 25, 26, 27, 28, 29, 30, 31] (by decide +kernel) (by decide +kernel)
set_option maxRecDepth 20000 in
theorem gX5_outAheadOf_X5_isCore : GoodIn wsX5_outAheadOf (wsV RX5 119 RX5 yX5_isCore wsX5_isCore) := goodIn_app (goodIn_of _ (by decide +kernel)) ggX5_outAheadOf_X5_isCore
set_option maxRecDepth 20000 in
theorem ggX5_outAheadOf_X3_isIn : GoodIn wsX5_outAheadOf wsX3_isIn := goodIn_r _ [11, 12, 32, 33, 34, 35, 36, 37, 38, 39, 40, 41] (by decide +kernel) (by decide +kernel)
set_option maxRecDepth 20000 in
theorem gX5_outAheadOf_X3_isIn_n132 : GoodIn wsX5_outAheadOf (wsX3_isIn) := ggX5_outAheadOf_X3_isIn
theorem dX5_outAheadOf_0 : decode cX5_outAheadOf 0 = .ok (.aload_n 0, 1) := by decide +kernel
theorem dX5_outAheadOf_1 : decode cX5_outAheadOf 1 = .ok (.getfield 19, 3) := by decide +kernel
theorem dX5_outAheadOf_4 : decode cX5_outAheadOf 4 = .ok (.getfield 141, 3) := by decide +kernel
theorem dX5_outAheadOf_7 : decode cX5_outAheadOf 7 = .ok (.iload_n 1, 1) := by decide +kernel
theorem dX5_outAheadOf_8 : decode cX5_outAheadOf 8 = .ok (.iaload, 1) := by decide +kernel
theorem dX5_outAheadOf_9 : decode cX5_outAheadOf 9 = .ok (.istore_n 2, 1) := by decide +kernel
theorem dX5_outAheadOf_10 : decode cX5_outAheadOf 10 = .ok (.aload_n 0, 1) := by decide +kernel
theorem dX5_outAheadOf_11 : decode cX5_outAheadOf 11 = .ok (.iload_n 2, 1) := by decide +kernel
theorem dX5_outAheadOf_12 : decode cX5_outAheadOf 12 = .ok (.invokevirtual 119, 3) := by decide +kernel
theorem dX5_outAheadOf_15 : decode cX5_outAheadOf 15 = .ok (.ifCond .eq 18, 3) := by decide +kernel
theorem dX5_outAheadOf_18 : decode cX5_outAheadOf 18 = .ok (.aload_n 0, 1) := by decide +kernel
theorem dX5_outAheadOf_19 : decode cX5_outAheadOf 19 = .ok (.getfield 40, 3) := by decide +kernel
theorem dX5_outAheadOf_22 : decode cX5_outAheadOf 22 = .ok (.iload_n 2, 1) := by decide +kernel
theorem dX5_outAheadOf_23 : decode cX5_outAheadOf 23 = .ok (.invokevirtual 132, 3) := by decide +kernel
theorem dX5_outAheadOf_26 : decode cX5_outAheadOf 26 = .ok (.ifCond .ne 7, 3) := by decide +kernel
theorem dX5_outAheadOf_29 : decode cX5_outAheadOf 29 = .ok (.iload_n 2, 1) := by decide +kernel
theorem dX5_outAheadOf_30 : decode cX5_outAheadOf 30 = .ok (.goto 5, 3) := by decide +kernel
theorem dX5_outAheadOf_33 : decode cX5_outAheadOf 33 = .ok (.bipush 9, 2) := by decide +kernel
theorem dX5_outAheadOf_35 : decode cX5_outAheadOf 35 = .ok (.ireturn, 1) := by decide +kernel
set_option maxRecDepth 20000 in
theorem ggX5_inBehind_X3_isIn : GoodIn wsX5_inBehind wsX3_isIn := goodIn_r _ [6, 7, 27, 28, 29, 30, 31, 32, 33, 34, 35, 36] (by decide +kernel) (by decide +kernel)
set_option maxRecDepth 20000 in
theorem gX5_inBehind_X3_isIn_n132 : GoodIn wsX5_inBehind (wsX3_isIn) := ggX5_inBehind_X3_isIn
theorem dX5_inBehind_0 : decode cX5_inBehind 0 = .ok (.iconst 0, 1) := by decide +kernel
theorem dX5_inBehind_1 : decode cX5_inBehind 1 = .ok (.istore_n 2, 1) := by decide +kernel
theorem dX5_inBehind_2 : decode cX5_inBehind 2 = .ok (.iload_n 2, 1) := by decide +kernel
theorem dX5_inBehind_3 : decode cX5_inBehind 3 = .ok (.aload_n 0, 1) := by decide +kernel
theorem dX5_inBehind_4 : decode cX5_inBehind 4 = .ok (.getfield 19, 3) := by decide +kernel
theorem dX5_inBehind_7 : decode cX5_inBehind 7 = .ok (.getfield 145, 3) := by decide +kernel
theorem dX5_inBehind_10 : decode cX5_inBehind 10 = .ok (.if_icmp .ge 35, 3) := by decide +kernel
theorem dX5_inBehind_13 : decode cX5_inBehind 13 = .ok (.aload_n 0, 1) := by decide +kernel
theorem dX5_inBehind_14 : decode cX5_inBehind 14 = .ok (.getfield 19, 3) := by decide +kernel
theorem dX5_inBehind_17 : decode cX5_inBehind 17 = .ok (.getfield 141, 3) := by decide +kernel
theorem dX5_inBehind_20 : decode cX5_inBehind 20 = .ok (.iload_n 2, 1) := by decide +kernel
theorem dX5_inBehind_21 : decode cX5_inBehind 21 = .ok (.iaload, 1) := by decide +kernel
theorem dX5_inBehind_22 : decode cX5_inBehind 22 = .ok (.iload_n 1, 1) := by decide +kernel
theorem dX5_inBehind_23 : decode cX5_inBehind 23 = .ok (.if_icmp .ne 16, 3) := by decide +kernel
theorem dX5_inBehind_26 : decode cX5_inBehind 26 = .ok (.aload_n 0, 1) := by decide +kernel
theorem dX5_inBehind_27 : decode cX5_inBehind 27 = .ok (.getfield 40, 3) := by decide +kernel
theorem dX5_inBehind_30 : decode cX5_inBehind 30 = .ok (.iload_n 2, 1) := by decide +kernel
theorem dX5_inBehind_31 : decode cX5_inBehind 31 = .ok (.invokevirtual 132, 3) := by decide +kernel
theorem dX5_inBehind_34 : decode cX5_inBehind 34 = .ok (.ifCond .eq 5, 3) := by decide +kernel
theorem dX5_inBehind_37 : decode cX5_inBehind 37 = .ok (.iload_n 2, 1) := by decide +kernel
theorem dX5_inBehind_38 : decode cX5_inBehind 38 = .ok (.ireturn, 1) := by decide +kernel
theorem dX5_inBehind_39 : decode cX5_inBehind 39 = .ok (.iinc 2 1, 3) := by decide +kernel
theorem dX5_inBehind_42 : decode cX5_inBehind 42 = .ok (.goto (-40), 3) := by decide +kernel
theorem dX5_inBehind_45 : decode cX5_inBehind 45 = .ok (.bipush 9, 2) := by decide +kernel
theorem dX5_inBehind_47 : decode cX5_inBehind 47 = .ok (.ireturn, 1) := by decide +kernel
set_option maxRecDepth 20000 in
theorem ggX5_drag_X5_isCavity : GoodIn wsX5_drag wsX5_isCavity := goodIn_r _ [6, 7, 47, 48, 49, 50, 51, 52, 53, 54, 55, 66, 67, 68, 69, 70, 71, 72, 73, 74, 75] (by decide +kernel) (by decide +kernel)
set_option maxRecDepth 20000 in
theorem gX5_drag_X5_isCavity : GoodIn wsX5_drag (wsV RX5 148 RX5 yX5_isCavity wsX5_isCavity) := goodIn_app (goodIn_of _ (by decide +kernel)) ggX5_drag_X5_isCavity
set_option maxRecDepth 20000 in
theorem ggX5_drag_X5_startChange : GoodIn wsX5_drag wsX5_startChange := goodIn_r _ [11, 12, 13, 1, 14, 15, 16, 17, 18, 19, 20, 21, 22, 23, 24, 25, 26, 27, 28, 29, 30, 31, 32, 33, 34, 35, 36, 37, 38, 39, 40, 41, 42, 43, 44, 45, 46, 47, 48, 49, 50, 51, 52, 53, 54, 55, 56, 57, 58, 59, 60, 61, 62, 63, 64, 65, 76, 77, 78, 79, 80] (by decide +kernel) (by decide +kernel)
set_option maxRecDepth 20000 in
theorem gX5_drag_X5_startChange : GoodIn wsX5_drag (wsV RX5 107 RX5 yX5_startChange wsX5_startChange) := goodIn_app (goodIn_of _ (by decide +kernel)) ggX5_drag_X5_startChange
theorem dX5_drag_0 : decode cX5_drag 0 = .ok (.aload_n 0, 1) := by decide +kernel
theorem dX5_drag_1 : decode cX5_drag 1 = .ok (.iload_n 1, 1) := by decide +kernel
theorem dX5_drag_2 : decode cX5_drag 2 = .ok (.invokevirtual 148, 3) := by decide +kernel
theorem dX5_drag_5 : decode cX5_drag 5 = .ok (.ifCond .eq 14, 3) := by decide +kernel
theorem dX5_drag_8 : decode cX5_drag 8 = .ok (.iload_n 2, 1) := by decide +kernel
theorem dX5_drag_9 : decode cX5_drag 9 = .ok (.iconst 1, 1) := by decide +kernel
theorem dX5_drag_10 : decode cX5_drag 10 = .ok (.if_icmp .lt 9, 3) := by decide +kernel
theorem dX5_drag_13 : decode cX5_drag 13 = .ok (.iload_n 2, 1) := by decide +kernel
theorem dX5_drag_14 : decode cX5_drag 14 = .ok (.bipush 9, 2) := by decide +kernel
theorem dX5_drag_16 : decode cX5_drag 16 = .ok (.if_icmp .le 5, 3) := by decide +kernel
theorem dX5_drag_19 : decode cX5_drag 19 = .ok (.iconst (-1), 1) := by decide +kernel
theorem dX5_drag_20 : decode cX5_drag 20 = .ok (.ireturn, 1) := by decide +kernel
theorem dX5_drag_21 : decode cX5_drag 21 = .ok (.aload_n 0, 1) := by decide +kernel
theorem dX5_drag_22 : decode cX5_drag 22 = .ok (.getfield 40, 3) := by decide +kernel
theorem dX5_drag_25 : decode cX5_drag 25 = .ok (.getfield 151, 3) := by decide +kernel
theorem dX5_drag_28 : decode cX5_drag 28 = .ok (.iload_n 1, 1) := by decide +kernel
theorem dX5_drag_29 : decode cX5_drag 29 = .ok (.iaload, 1) := by decide +kernel
theorem dX5_drag_30 : decode cX5_drag 30 = .ok (.istore_n 3, 1) := by decide +kernel
theorem dX5_drag_31 : decode cX5_drag 31 = .ok (.iload_n 3, 1) := by decide +kernel
theorem dX5_drag_32 : decode cX5_drag 32 = .ok (.iload_n 2, 1) := by decide +kernel
theorem dX5_drag_33 : decode cX5_drag 33 = .ok (.if_icmp .ne 6, 3) := by decide +kernel
theorem dX5_drag_36 : decode cX5_drag 36 = .ok (.bipush (-2), 2) := by decide +kernel
theorem dX5_drag_38 : decode cX5_drag 38 = .ok (.ireturn, 1) := by decide +kernel
theorem dX5_drag_39 : decode cX5_drag 39 = .ok (.aload_n 0, 1) := by decide +kernel
theorem dX5_drag_40 : decode cX5_drag 40 = .ok (.invokevirtual 107, 3) := by decide +kernel
theorem dX5_drag_43 : decode cX5_drag 43 = .ok (.aload_n 0, 1) := by decide +kernel
theorem dX5_drag_44 : decode cX5_drag 44 = .ok (.getfield 40, 3) := by decide +kernel
theorem dX5_drag_47 : decode cX5_drag 47 = .ok (.getfield 151, 3) := by decide +kernel
theorem dX5_drag_50 : decode cX5_drag 50 = .ok (.iload_n 1, 1) := by decide +kernel
theorem dX5_drag_51 : decode cX5_drag 51 = .ok (.iload_n 2, 1) := by decide +kernel
theorem dX5_drag_52 : decode cX5_drag 52 = .ok (.iastore, 1) := by decide +kernel
theorem dX5_drag_53 : decode cX5_drag 53 = .ok (.iload_n 3, 1) := by decide +kernel
theorem dX5_drag_54 : decode cX5_drag 54 = .ok (.ireturn, 1) := by decide +kernel
set_option maxRecDepth 20000 in
theorem ggX5_speed_X5_startChange : GoodIn wsX5_speed wsX5_startChange := goodIn_r _ [7, 8, 9, 2, 10, 11, 12, 13, 14, 15, 16, 17, 18, 19, 20, 21, 22, 23, 24, 25, 26, 27, 28, 29, 30, 31, 32, 33, 34, 35, 36, 37, 38, 39, 40, 41, 42, 43, 44, 45, 46, 47, 48, 49, 50, 51, 62, 63, 64, 65, 66, 67, 68, 69, 70, 71, 72, 73, 74, 75, 76] (by decide +kernel) (by decide +kernel)
set_option maxRecDepth 20000 in
theorem gX5_speed_X5_startChange : GoodIn wsX5_speed (wsV RX5 107 RX5 yX5_startChange wsX5_startChange) := goodIn_app (goodIn_of _ (by decide +kernel)) ggX5_speed_X5_startChange
theorem dX5_speed_0 : decode cX5_speed 0 = .ok (.iload_n 1, 1) := by decide +kernel
theorem dX5_speed_1 : decode cX5_speed 1 = .ok (.ifCond .lt 25, 3) := by decide +kernel
theorem dX5_speed_4 : decode cX5_speed 4 = .ok (.iload_n 1, 1) := by decide +kernel
theorem dX5_speed_5 : decode cX5_speed 5 = .ok (.aload_n 0, 1) := by decide +kernel
theorem dX5_speed_6 : decode cX5_speed 6 = .ok (.getfield 19, 3) := by decide +kernel
theorem dX5_speed_9 : decode cX5_speed 9 = .ok (.getfield 154, 3) := by decide +kernel
theorem dX5_speed_12 : decode cX5_speed 12 = .ok (.if_icmp .ge 14, 3) := by decide +kernel
theorem dX5_speed_15 : decode cX5_speed 15 = .ok (.iload_n 2, 1) := by decide +kernel
theorem dX5_speed_16 : decode cX5_speed 16 = .ok (.iconst 1, 1) := by decide +kernel
theorem dX5_speed_17 : decode cX5_speed 17 = .ok (.if_icmp .lt 9, 3) := by decide +kernel
theorem dX5_speed_20 : decode cX5_speed 20 = .ok (.iload_n 2, 1) := by decide +kernel
theorem dX5_speed_21 : decode cX5_speed 21 = .ok (.bipush 9, 2) := by decide +kernel
theorem dX5_speed_23 : decode cX5_speed 23 = .ok (.if_icmp .le 5, 3) := by decide +kernel
theorem dX5_speed_26 : decode cX5_speed 26 = .ok (.iconst (-1), 1) := by decide +kernel
theorem dX5_speed_27 : decode cX5_speed 27 = .ok (.ireturn, 1) := by decide +kernel
theorem dX5_speed_28 : decode cX5_speed 28 = .ok (.aload_n 0, 1) := by decide +kernel
theorem dX5_speed_29 : decode cX5_speed 29 = .ok (.getfield 40, 3) := by decide +kernel
theorem dX5_speed_32 : decode cX5_speed 32 = .ok (.getfield 157, 3) := by decide +kernel
theorem dX5_speed_35 : decode cX5_speed 35 = .ok (.iload_n 1, 1) := by decide +kernel
theorem dX5_speed_36 : decode cX5_speed 36 = .ok (.iaload, 1) := by decide +kernel
theorem dX5_speed_37 : decode cX5_speed 37 = .ok (.istore_n 3, 1) := by decide +kernel
theorem dX5_speed_38 : decode cX5_speed 38 = .ok (.iload_n 3, 1) := by decide +kernel
theorem dX5_speed_39 : decode cX5_speed 39 = .ok (.iload_n 2, 1) := by decide +kernel
theorem dX5_speed_40 : decode cX5_speed 40 = .ok (.if_icmp .ne 6, 3) := by decide +kernel
theorem dX5_speed_43 : decode cX5_speed 43 = .ok (.bipush (-2), 2) := by decide +kernel
theorem dX5_speed_45 : decode cX5_speed 45 = .ok (.ireturn, 1) := by decide +kernel
theorem dX5_speed_46 : decode cX5_speed 46 = .ok (.aload_n 0, 1) := by decide +kernel
theorem dX5_speed_47 : decode cX5_speed 47 = .ok (.invokevirtual 107, 3) := by decide +kernel
theorem dX5_speed_50 : decode cX5_speed 50 = .ok (.aload_n 0, 1) := by decide +kernel
theorem dX5_speed_51 : decode cX5_speed 51 = .ok (.getfield 40, 3) := by decide +kernel
theorem dX5_speed_54 : decode cX5_speed 54 = .ok (.getfield 157, 3) := by decide +kernel
theorem dX5_speed_57 : decode cX5_speed 57 = .ok (.iload_n 1, 1) := by decide +kernel
theorem dX5_speed_58 : decode cX5_speed 58 = .ok (.iload_n 2, 1) := by decide +kernel
theorem dX5_speed_59 : decode cX5_speed 59 = .ok (.iastore, 1) := by decide +kernel
theorem dX5_speed_60 : decode cX5_speed 60 = .ok (.iload_n 3, 1) := by decide +kernel
theorem dX5_speed_61 : decode cX5_speed 61 = .ok (.ireturn, 1) := by decide +kernel
set_option maxRecDepth 20000 in
theorem ggX5_tell_X5_startChange : GoodIn wsX5_tell wsX5_startChange := goodIn_r _ [8, 9, 10, 3, 11, 12, 13, 14, 15, 16, 17, 18, 19, 20, 21, 22, 23, 24, 25, 26, 27, 28, 29, 30, 31, 32, 33, 34, 35, 36, 37, 38, 39, 40, 41, 42, 43, 44, 45, 46, 47, 48, 49, 50, 51, 52, 53, 54, 55, 56, 57, 58, 59, 60, 61, 62, 63, 64, 65, 66, 67] (by decide +kernel) (by decide +kernel)
set_option maxRecDepth 20000 in
theorem gX5_tell_X5_startChange : GoodIn wsX5_tell (wsV RX5 107 RX5 yX5_startChange wsX5_startChange) := goodIn_app (goodIn_of _ (by decide +kernel)) ggX5_tell_X5_startChange
theorem dX5_tell_0 : decode cX5_tell 0 = .ok (.iload_n 1, 1) := by decide +kernel
theorem dX5_tell_1 : decode cX5_tell 1 = .ok (.ifCond .lt 27, 3) := by decide +kernel
theorem dX5_tell_4 : decode cX5_tell 4 = .ok (.iload_n 1, 1) := by decide +kernel
theorem dX5_tell_5 : decode cX5_tell 5 = .ok (.bipush 6, 2) := by decide +kernel
theorem dX5_tell_7 : decode cX5_tell 7 = .ok (.if_icmp .ge 21, 3) := by decide +kernel
theorem dX5_tell_10 : decode cX5_tell 10 = .ok (.iload_n 2, 1) := by decide +kernel
theorem dX5_tell_11 : decode cX5_tell 11 = .ok (.getstatic 160, 3) := by decide +kernel
theorem dX5_tell_14 : decode cX5_tell 14 = .ok (.iload_n 1, 1) := by decide +kernel
theorem dX5_tell_15 : decode cX5_tell 15 = .ok (.iaload, 1) := by decide +kernel
theorem dX5_tell_16 : decode cX5_tell 16 = .ok (.if_icmp .lt 12, 3) := by decide +kernel
theorem dX5_tell_19 : decode cX5_tell 19 = .ok (.iload_n 2, 1) := by decide +kernel
theorem dX5_tell_20 : decode cX5_tell 20 = .ok (.getstatic 163, 3) := by decide +kernel
theorem dX5_tell_23 : decode cX5_tell 23 = .ok (.iload_n 1, 1) := by decide +kernel
theorem dX5_tell_24 : decode cX5_tell 24 = .ok (.iaload, 1) := by decide +kernel
theorem dX5_tell_25 : decode cX5_tell 25 = .ok (.if_icmp .le 5, 3) := by decide +kernel
theorem dX5_tell_28 : decode cX5_tell 28 = .ok (.iconst (-1), 1) := by decide +kernel
theorem dX5_tell_29 : decode cX5_tell 29 = .ok (.ireturn, 1) := by decide +kernel
theorem dX5_tell_30 : decode cX5_tell 30 = .ok (.aload_n 0, 1) := by decide +kernel
theorem dX5_tell_31 : decode cX5_tell 31 = .ok (.getfield 40, 3) := by decide +kernel
theorem dX5_tell_34 : decode cX5_tell 34 = .ok (.getfield 166, 3) := by decide +kernel
theorem dX5_tell_37 : decode cX5_tell 37 = .ok (.iload_n 1, 1) := by decide +kernel
theorem dX5_tell_38 : decode cX5_tell 38 = .ok (.iaload, 1) := by decide +kernel
theorem dX5_tell_39 : decode cX5_tell 39 = .ok (.istore_n 3, 1) := by decide +kernel
theorem dX5_tell_40 : decode cX5_tell 40 = .ok (.iload_n 3, 1) := by decide +kernel
theorem dX5_tell_41 : decode cX5_tell 41 = .ok (.iload_n 2, 1) := by decide +kernel
theorem dX5_tell_42 : decode cX5_tell 42 = .ok (.if_icmp .ne 6, 3) := by decide +kernel
theorem dX5_tell_45 : decode cX5_tell 45 = .ok (.bipush (-2), 2) := by decide +kernel
theorem dX5_tell_47 : decode cX5_tell 47 = .ok (.ireturn, 1) := by decide +kernel
theorem dX5_tell_48 : decode cX5_tell 48 = .ok (.aload_n 0, 1) := by decide +kernel
theorem dX5_tell_49 : decode cX5_tell 49 = .ok (.invokevirtual 107, 3) := by decide +kernel
theorem dX5_tell_52 : decode cX5_tell 52 = .ok (.aload_n 0, 1) := by decide +kernel
theorem dX5_tell_53 : decode cX5_tell 53 = .ok (.getfield 40, 3) := by decide +kernel
theorem dX5_tell_56 : decode cX5_tell 56 = .ok (.getfield 166, 3) := by decide +kernel
theorem dX5_tell_59 : decode cX5_tell 59 = .ok (.iload_n 1, 1) := by decide +kernel
theorem dX5_tell_60 : decode cX5_tell 60 = .ok (.iload_n 2, 1) := by decide +kernel
theorem dX5_tell_61 : decode cX5_tell 61 = .ok (.iastore, 1) := by decide +kernel
theorem dX5_tell_62 : decode cX5_tell 62 = .ok (.iload_n 3, 1) := by decide +kernel
theorem dX5_tell_63 : decode cX5_tell 63 = .ok (.ireturn, 1) := by decide +kernel
set_option maxRecDepth 20000 in
theorem ggX5_shoot_X5_isReady : GoodIn wsX5_shoot wsX5_isReady := goodIn_r _ [8, 1, 3, 9, 10, 11, 12, 13, 14, 15, 111, 112, 113, 114, 115, 116, 117, 118, 119, 120, 121, 122, 123, 124, 125, 126, 127, 128, 129, 130, 131, 132, 133, 134, 135, 136, 137, 138, 139] (by decide +kernel) (by decide +kernel)
set_option maxRecDepth 20000 in
theorem gX5_shoot_X5_isReady : GoodIn wsX5_shoot (wsV RX5 169 RX5 yX5_isReady wsX5_isReady) := goodIn_app (goodIn_of _ (by decide +kernel)) ggX5_shoot_X5_isReady
set_option maxRecDepth 20000 in
theorem ggX5_shoot_X5_startChange : GoodIn wsX5_shoot wsX5_startChange := goodIn_r _ [19, 20, 21, 1, 22, 23, 24, 25, 26, 27, 28, 29, 30, 31, 32, 33, 34, 35, 36, 37, 38, 39, 40, 41, 42, 43, 44, 45, 46, 47, 48, 49, 50, 51, 52, 53, 54, 111, 112, 113, 114, 115, 116, 117, 118, 119, 120, 121, 122, 123, 124, 125, 126, 127, 128, 129, 140, 141, 142, 143, 144] (by decide +kernel) (by decide +kernel)
set_option maxRecDepth 20000 in
theorem gX5_shoot_X5_startChange : GoodIn wsX5_shoot (wsV RX5 107 RX5 yX5_startChange wsX5_startChange) := goodIn_app (goodIn_of _ (by decide +kernel)) ggX5_shoot_X5_startChange
set_option maxRecDepth 20000 in
theorem ggX5_shoot_X2_make : GoodIn wsX5_shoot wsX2_make := goodIn_r _ [58, 59, 60, 61, 62, 56, 63, 64, 65, 66, 67, 68, 69, 70, 71, 72, 73, 74, 75, 24, 25, 26, 76, 77, 78, 79, 80, 81, 82, 83, 84, 85, 86, 87, 88, 89, 90, 91, 92, 93, 94, 95, 96, 97, 98, 99, 100, 101, 102, 103, 104, 105, 106, 107, 120, 121, 122, 123, 124, 125, 126, 127, 128, 129, 145, 146, 147, 148, 149, 150, 151, 152, 153, 130, 131, 132, 133, 134, 135, 136, 137, 138, 139] (by decide +kernel) (by decide +kernel)
set_option maxRecDepth 20000 in
theorem gX5_shoot_X2_make_n175 : GoodIn wsX5_shoot (wsX2_make) := ggX5_shoot_X2_make
set_option maxRecDepth 20000 in
theorem ggX5_shoot_X2_whole : GoodIn wsX5_shoot wsX2_whole := goodIn_r _ [110, 69, 59, 145, 146, 147, 148, 149, 150, 151, 152, 153] (by decide +kernel) (by decide +kernel)
set_option maxRecDepth 20000 in
theorem gX5_shoot_X2_whole_n179 : GoodIn wsX5_shoot (wsX2_whole) := ggX5_shoot_X2_whole
theorem dX5_shoot_0 : decode cX5_shoot 0 = .ok (.aload_n 0, 1) := by decide +kernel
theorem dX5_shoot_1 : decode cX5_shoot 1 = .ok (.invokevirtual 169, 3) := by decide +kernel
theorem dX5_shoot_4 : decode cX5_shoot 4 = .ok (.ifCond .eq 13, 3) := by decide +kernel
theorem dX5_shoot_7 : decode cX5_shoot 7 = .ok (.aload_n 0, 1) := by decide +kernel
theorem dX5_shoot_8 : decode cX5_shoot 8 = .ok (.getfield 40, 3) := by decide +kernel
theorem dX5_shoot_11 : decode cX5_shoot 11 = .ok (.getfield 116, 3) := by decide +kernel
theorem dX5_shoot_14 : decode cX5_shoot 14 = .ok (.ifCond .eq 6, 3) := by decide +kernel
theorem dX5_shoot_17 : decode cX5_shoot 17 = .ok (.bipush (-2), 2) := by decide +kernel
theorem dX5_shoot_19 : decode cX5_shoot 19 = .ok (.ireturn, 1) := by decide +kernel
theorem dX5_shoot_20 : decode cX5_shoot 20 = .ok (.aload_n 0, 1) := by decide +kernel
theorem dX5_shoot_21 : decode cX5_shoot 21 = .ok (.invokevirtual 107, 3) := by decide +kernel
theorem dX5_shoot_24 : decode cX5_shoot 24 = .ok (.aload_n 0, 1) := by decide +kernel
theorem dX5_shoot_25 : decode cX5_shoot 25 = .ok (.getfield 46, 3) := by decide +kernel
theorem dX5_shoot_28 : decode cX5_shoot 28 = .ok (.aload_n 0, 1) := by decide +kernel
theorem dX5_shoot_29 : decode cX5_shoot 29 = .ok (.getfield 40, 3) := by decide +kernel
theorem dX5_shoot_32 : decode cX5_shoot 32 = .ok (.getfield 172, 3) := by decide +kernel
theorem dX5_shoot_35 : decode cX5_shoot 35 = .ok (.bipush 16, 2) := by decide +kernel
theorem dX5_shoot_37 : decode cX5_shoot 37 = .ok (.irem, 1) := by decide +kernel
theorem dX5_shoot_38 : decode cX5_shoot 38 = .ok (.aaload, 1) := by decide +kernel
theorem dX5_shoot_39 : decode cX5_shoot 39 = .ok (.astore_n 1, 1) := by decide +kernel
theorem dX5_shoot_40 : decode cX5_shoot 40 = .ok (.aload_n 1, 1) := by decide +kernel
theorem dX5_shoot_41 : decode cX5_shoot 41 = .ok (.aload_n 0, 1) := by decide +kernel
theorem dX5_shoot_42 : decode cX5_shoot 42 = .ok (.getfield 19, 3) := by decide +kernel
theorem dX5_shoot_45 : decode cX5_shoot 45 = .ok (.aload_n 0, 1) := by decide +kernel
theorem dX5_shoot_46 : decode cX5_shoot 46 = .ok (.getfield 40, 3) := by decide +kernel
theorem dX5_shoot_49 : decode cX5_shoot 49 = .ok (.iconst 0, 1) := by decide +kernel
theorem dX5_shoot_50 : decode cX5_shoot 50 = .ok (.invokevirtual 175, 3) := by decide +kernel
theorem dX5_shoot_53 : decode cX5_shoot 53 = .ok (.aload_n 0, 1) := by decide +kernel
theorem dX5_shoot_54 : decode cX5_shoot 54 = .ok (.getfield 40, 3) := by decide +kernel
theorem dX5_shoot_57 : decode cX5_shoot 57 = .ok (.dup, 1) := by decide +kernel
theorem dX5_shoot_58 : decode cX5_shoot 58 = .ok (.getfield 172, 3) := by decide +kernel
theorem dX5_shoot_61 : decode cX5_shoot 61 = .ok (.iconst 1, 1) := by decide +kernel
theorem dX5_shoot_62 : decode cX5_shoot 62 = .ok (.iadd, 1) := by decide +kernel
theorem dX5_shoot_63 : decode cX5_shoot 63 = .ok (.putfield 172, 3) := by decide +kernel
theorem dX5_shoot_66 : decode cX5_shoot 66 = .ok (.aload_n 0, 1) := by decide +kernel
theorem dX5_shoot_67 : decode cX5_shoot 67 = .ok (.getfield 40, 3) := by decide +kernel
theorem dX5_shoot_70 : decode cX5_shoot 70 = .ok (.iconst 1, 1) := by decide +kernel
theorem dX5_shoot_71 : decode cX5_shoot 71 = .ok (.putfield 116, 3) := by decide +kernel
theorem dX5_shoot_74 : decode cX5_shoot 74 = .ok (.aload_n 0, 1) := by decide +kernel
theorem dX5_shoot_75 : decode cX5_shoot 75 = .ok (.getfield 40, 3) := by decide +kernel
theorem dX5_shoot_78 : decode cX5_shoot 78 = .ok (.iconst 1, 1) := by decide +kernel
theorem dX5_shoot_79 : decode cX5_shoot 79 = .ok (.putfield 113, 3) := by decide +kernel
theorem dX5_shoot_82 : decode cX5_shoot 82 = .ok (.aload_n 1, 1) := by decide +kernel
theorem dX5_shoot_83 : decode cX5_shoot 83 = .ok (.invokevirtual 179, 3) := by decide +kernel
theorem dX5_shoot_86 : decode cX5_shoot 86 = .ok (.ireturn, 1) := by decide +kernel
set_option maxRecDepth 20000 in
theorem ggX5_waitCool_X5_startChange : GoodIn wsX5_waitCool wsX5_startChange := goodIn_r _ [6, 7, 8, 1, 9, 10, 11, 12, 13, 14, 15, 16, 17, 18, 19, 20, 21, 22, 23, 24, 25, 26, 27, 28, 29, 30, 31, 32, 33, 34, 35, 36, 37, 38, 39, 40, 41, 55, 56, 57, 58, 59, 60, 61, 62, 63, 64, 65, 66, 67, 68, 69, 70, 71, 72, 73, 83, 84, 85, 86, 87] (by decide +kernel) (by decide +kernel)
set_option maxRecDepth 20000 in
theorem gX5_waitCool_X5_startChange : GoodIn wsX5_waitCool (wsV RX5 107 RX5 yX5_startChange wsX5_startChange) := goodIn_app (goodIn_of _ (by decide +kernel)) ggX5_waitCool_X5_startChange
set_option maxRecDepth 20000 in
theorem ggX5_waitCool_X5_keptShots : GoodIn wsX5_waitCool wsX5_keptShots := goodIn_r _ [45, 1, 10, 11, 12, 13, 55, 56, 57, 58, 59, 60, 61, 62, 63, 64, 65, 66, 67, 68, 69, 70, 71, 72, 73] (by decide +kernel) (by decide +kernel)
set_option maxRecDepth 20000 in
theorem gX5_waitCool_X5_keptShots : GoodIn wsX5_waitCool (wsV RX5 182 RX5 yX5_keptShots wsX5_keptShots) := goodIn_app (goodIn_of _ (by decide +kernel)) ggX5_waitCool_X5_keptShots
set_option maxRecDepth 20000 in
theorem ggX5_waitCool_X5_keptShot : GoodIn wsX5_waitCool wsX5_keptShot := goodIn_r _ [49, 50, 1, 42, 43, 44, 5, 45, 10, 11, 12, 13, 51, 52, 53, 54, 55, 56, 57, 58, 59, 60, 61, 62, 63, 64, 65, 66, 67, 68, 69, 70, 71, 72, 73] (by decide +kernel) (by decide +kernel)
set_option maxRecDepth 20000 in
theorem gX5_waitCool_X5_keptShot : GoodIn wsX5_waitCool (wsV RX5 185 RX5 yX5_keptShot wsX5_keptShot) := goodIn_app (goodIn_of _ (by decide +kernel)) ggX5_waitCool_X5_keptShot
theorem dX5_waitCool_0 : decode cX5_waitCool 0 = .ok (.aload_n 0, 1) := by decide +kernel
theorem dX5_waitCool_1 : decode cX5_waitCool 1 = .ok (.getfield 40, 3) := by decide +kernel
theorem dX5_waitCool_4 : decode cX5_waitCool 4 = .ok (.getfield 113, 3) := by decide +kernel
theorem dX5_waitCool_7 : decode cX5_waitCool 7 = .ok (.ifCond .ne 6, 3) := by decide +kernel
theorem dX5_waitCool_10 : decode cX5_waitCool 10 = .ok (.bipush (-2), 2) := by decide +kernel
theorem dX5_waitCool_12 : decode cX5_waitCool 12 = .ok (.ireturn, 1) := by decide +kernel
theorem dX5_waitCool_13 : decode cX5_waitCool 13 = .ok (.aload_n 0, 1) := by decide +kernel
theorem dX5_waitCool_14 : decode cX5_waitCool 14 = .ok (.invokevirtual 107, 3) := by decide +kernel
theorem dX5_waitCool_17 : decode cX5_waitCool 17 = .ok (.aload_n 0, 1) := by decide +kernel
theorem dX5_waitCool_18 : decode cX5_waitCool 18 = .ok (.getfield 40, 3) := by decide +kernel
theorem dX5_waitCool_21 : decode cX5_waitCool 21 = .ok (.iconst 0, 1) := by decide +kernel
theorem dX5_waitCool_22 : decode cX5_waitCool 22 = .ok (.putfield 113, 3) := by decide +kernel
theorem dX5_waitCool_25 : decode cX5_waitCool 25 = .ok (.aload_n 0, 1) := by decide +kernel
theorem dX5_waitCool_26 : decode cX5_waitCool 26 = .ok (.aload_n 0, 1) := by decide +kernel
theorem dX5_waitCool_27 : decode cX5_waitCool 27 = .ok (.invokevirtual 182, 3) := by decide +kernel
theorem dX5_waitCool_30 : decode cX5_waitCool 30 = .ok (.iconst 1, 1) := by decide +kernel
theorem dX5_waitCool_31 : decode cX5_waitCool 31 = .ok (.isub, 1) := by decide +kernel
theorem dX5_waitCool_32 : decode cX5_waitCool 32 = .ok (.invokevirtual 185, 3) := by decide +kernel
theorem dX5_waitCool_35 : decode cX5_waitCool 35 = .ok (.getfield 189, 3) := by decide +kernel
theorem dX5_waitCool_38 : decode cX5_waitCool 38 = .ok (.ireturn, 1) := by decide +kernel
theorem dX5_undo_0 : decode cX5_undo 0 = .ok (.aload_n 0, 1) := by decide +kernel
theorem dX5_undo_1 : decode cX5_undo 1 = .ok (.getfield 36, 3) := by decide +kernel
theorem dX5_undo_4 : decode cX5_undo 4 = .ok (.ifCond .ne 6, 3) := by decide +kernel
theorem dX5_undo_7 : decode cX5_undo 7 = .ok (.bipush (-2), 2) := by decide +kernel
theorem dX5_undo_9 : decode cX5_undo 9 = .ok (.ireturn, 1) := by decide +kernel
theorem dX5_undo_10 : decode cX5_undo 10 = .ok (.aload_n 0, 1) := by decide +kernel
theorem dX5_undo_11 : decode cX5_undo 11 = .ok (.dup, 1) := by decide +kernel
theorem dX5_undo_12 : decode cX5_undo 12 = .ok (.getfield 36, 3) := by decide +kernel
theorem dX5_undo_15 : decode cX5_undo 15 = .ok (.iconst 1, 1) := by decide +kernel
theorem dX5_undo_16 : decode cX5_undo 16 = .ok (.isub, 1) := by decide +kernel
theorem dX5_undo_17 : decode cX5_undo 17 = .ok (.putfield 36, 3) := by decide +kernel
theorem dX5_undo_20 : decode cX5_undo 20 = .ok (.aload_n 0, 1) := by decide +kernel
theorem dX5_undo_21 : decode cX5_undo 21 = .ok (.aload_n 0, 1) := by decide +kernel
theorem dX5_undo_22 : decode cX5_undo 22 = .ok (.getfield 32, 3) := by decide +kernel
theorem dX5_undo_25 : decode cX5_undo 25 = .ok (.iconst 5, 1) := by decide +kernel
theorem dX5_undo_26 : decode cX5_undo 26 = .ok (.iadd, 1) := by decide +kernel
theorem dX5_undo_27 : decode cX5_undo 27 = .ok (.iconst 1, 1) := by decide +kernel
theorem dX5_undo_28 : decode cX5_undo 28 = .ok (.isub, 1) := by decide +kernel
theorem dX5_undo_29 : decode cX5_undo 29 = .ok (.iconst 5, 1) := by decide +kernel
theorem dX5_undo_30 : decode cX5_undo 30 = .ok (.irem, 1) := by decide +kernel
theorem dX5_undo_31 : decode cX5_undo 31 = .ok (.putfield 32, 3) := by decide +kernel
theorem dX5_undo_34 : decode cX5_undo 34 = .ok (.aload_n 0, 1) := by decide +kernel
theorem dX5_undo_35 : decode cX5_undo 35 = .ok (.aload_n 0, 1) := by decide +kernel
theorem dX5_undo_36 : decode cX5_undo 36 = .ok (.getfield 28, 3) := by decide +kernel
theorem dX5_undo_39 : decode cX5_undo 39 = .ok (.aload_n 0, 1) := by decide +kernel
theorem dX5_undo_40 : decode cX5_undo 40 = .ok (.getfield 32, 3) := by decide +kernel
theorem dX5_undo_43 : decode cX5_undo 43 = .ok (.aaload, 1) := by decide +kernel
theorem dX5_undo_44 : decode cX5_undo 44 = .ok (.putfield 40, 3) := by decide +kernel
theorem dX5_undo_47 : decode cX5_undo 47 = .ok (.aload_n 0, 1) := by decide +kernel
theorem dX5_undo_48 : decode cX5_undo 48 = .ok (.getfield 36, 3) := by decide +kernel
theorem dX5_undo_51 : decode cX5_undo 51 = .ok (.ireturn, 1) := by decide +kernel
set_option maxRecDepth 20000 in
theorem ggX5_startChange_X3_copyFrom : GoodIn wsX5_startChange wsX3_copyFrom := goodIn_r _ [12, 13, 14, 15, 16, 17, 18, 19, 20, 21, 22, 23, 24, 25, 26, 27, 28, 29, 30, 31, 32, 33, 34, 35, 36, 46, 47, 48, 49, 50, 51, 52, 53, 54, 55, 56, 57, 58, 59, 60] (by decide +kernel) (by decide +kernel)
set_option maxRecDepth 20000 in
theorem gX5_startChange_X3_copyFrom_n192 : GoodIn wsX5_startChange (wsX3_copyFrom) := ggX5_startChange_X3_copyFrom
theorem dX5_startChange_0 : decode cX5_startChange 0 = .ok (.aload_n 0, 1) := by decide +kernel
theorem dX5_startChange_1 : decode cX5_startChange 1 = .ok (.aload_n 0, 1) := by decide +kernel
theorem dX5_startChange_2 : decode cX5_startChange 2 = .ok (.getfield 32, 3) := by decide +kernel
theorem dX5_startChange_5 : decode cX5_startChange 5 = .ok (.iconst 1, 1) := by decide +kernel
theorem dX5_startChange_6 : decode cX5_startChange 6 = .ok (.iadd, 1) := by decide +kernel
theorem dX5_startChange_7 : decode cX5_startChange 7 = .ok (.iconst 5, 1) := by decide +kernel
theorem dX5_startChange_8 : decode cX5_startChange 8 = .ok (.irem, 1) := by decide +kernel
theorem dX5_startChange_9 : decode cX5_startChange 9 = .ok (.putfield 32, 3) := by decide +kernel
theorem dX5_startChange_12 : decode cX5_startChange 12 = .ok (.aload_n 0, 1) := by decide +kernel
theorem dX5_startChange_13 : decode cX5_startChange 13 = .ok (.getfield 28, 3) := by decide +kernel
theorem dX5_startChange_16 : decode cX5_startChange 16 = .ok (.aload_n 0, 1) := by decide +kernel
theorem dX5_startChange_17 : decode cX5_startChange 17 = .ok (.getfield 32, 3) := by decide +kernel
theorem dX5_startChange_20 : decode cX5_startChange 20 = .ok (.aaload, 1) := by decide +kernel
theorem dX5_startChange_21 : decode cX5_startChange 21 = .ok (.aload_n 0, 1) := by decide +kernel
theorem dX5_startChange_22 : decode cX5_startChange 22 = .ok (.getfield 40, 3) := by decide +kernel
theorem dX5_startChange_25 : decode cX5_startChange 25 = .ok (.invokevirtual 192, 3) := by decide +kernel
theorem dX5_startChange_28 : decode cX5_startChange 28 = .ok (.aload_n 0, 1) := by decide +kernel
theorem dX5_startChange_29 : decode cX5_startChange 29 = .ok (.aload_n 0, 1) := by decide +kernel
theorem dX5_startChange_30 : decode cX5_startChange 30 = .ok (.getfield 28, 3) := by decide +kernel
theorem dX5_startChange_33 : decode cX5_startChange 33 = .ok (.aload_n 0, 1) := by decide +kernel
theorem dX5_startChange_34 : decode cX5_startChange 34 = .ok (.getfield 32, 3) := by decide +kernel
theorem dX5_startChange_37 : decode cX5_startChange 37 = .ok (.aaload, 1) := by decide +kernel
theorem dX5_startChange_38 : decode cX5_startChange 38 = .ok (.putfield 40, 3) := by decide +kernel
theorem dX5_startChange_41 : decode cX5_startChange 41 = .ok (.aload_n 0, 1) := by decide +kernel
theorem dX5_startChange_42 : decode cX5_startChange 42 = .ok (.aload_n 0, 1) := by decide +kernel
theorem dX5_startChange_43 : decode cX5_startChange 43 = .ok (.getfield 36, 3) := by decide +kernel
theorem dX5_startChange_46 : decode cX5_startChange 46 = .ok (.iconst 1, 1) := by decide +kernel
theorem dX5_startChange_47 : decode cX5_startChange 47 = .ok (.iadd, 1) := by decide +kernel
theorem dX5_startChange_48 : decode cX5_startChange 48 = .ok (.iconst 4, 1) := by decide +kernel
theorem dX5_startChange_49 : decode cX5_startChange 49 = .ok (.invokestatic 196, 3) := by decide +kernel
theorem dX5_startChange_52 : decode cX5_startChange 52 = .ok (.putfield 36, 3) := by decide +kernel
theorem dX5_startChange_55 : decode cX5_startChange 55 = .ok (.return_, 1) := by decide +kernel
set_option maxRecDepth 20000 in
theorem ggX5_teach_X5_isShot : GoodIn wsX5_teach wsX5_isShot := goodIn_r _ [7, 8, 9, 10, 6, 11, 2, 12, 13, 14, 15, 72, 73, 74, 75, 76, 77, 78, 79, 80, 81, 82, 83, 84, 85, 86, 87, 88, 89, 90] (by decide +kernel) (by decide +kernel)
set_option maxRecDepth 20000 in
theorem gX5_teach_X5_isShot : GoodIn wsX5_teach (wsV RX5 201 RX5 yX5_isShot wsX5_isShot) := goodIn_app (goodIn_of _ (by decide +kernel)) ggX5_teach_X5_isShot
set_option maxRecDepth 20000 in
theorem ggX5_teach_X5_keptShot : GoodIn wsX5_teach wsX5_keptShot := goodIn_r _ [19, 20, 2, 8, 9, 10, 6, 11, 12, 13, 14, 15, 21, 22, 23, 24, 72, 73, 74, 75, 76, 77, 78, 79, 80, 81, 82, 83, 84, 85, 86, 87, 88, 89, 90] (by decide +kernel) (by decide +kernel)
set_option maxRecDepth 20000 in
theorem gX5_teach_X5_keptShot : GoodIn wsX5_teach (wsV RX5 185 RX5 yX5_keptShot wsX5_keptShot) := goodIn_app (goodIn_of _ (by decide +kernel)) ggX5_teach_X5_keptShot
set_option maxRecDepth 20000 in
theorem ggX5_teach_X2_isShort : GoodIn wsX5_teach wsX2_isShort := goodIn_r _ [28, 29, 96, 97, 98, 99, 100, 101, 102, 103, 104, 105, 106, 107, 108, 109, 110, 111, 112, 113, 114] (by decide +kernel) (by decide +kernel)
set_option maxRecDepth 20000 in
theorem gX5_teach_X2_isShort_n204 : GoodIn wsX5_teach (wsX2_isShort) := ggX5_teach_X2_isShort
set_option maxRecDepth 20000 in
theorem ggX5_teach_X5_startChange : GoodIn wsX5_teach wsX5_startChange := goodIn_r _ [33, 34, 35, 2, 36, 12, 13, 14, 15, 37, 38, 39, 40, 41, 42, 43, 44, 45, 46, 47, 48, 49, 50, 51, 52, 53, 54, 55, 56, 57, 58, 59, 60, 61, 62, 63, 64, 72, 73, 74, 75, 76, 77, 78, 79, 80, 81, 82, 83, 84, 85, 86, 87, 88, 89, 90, 91, 92, 93, 94, 95] (by decide +kernel) (by decide +kernel)
set_option maxRecDepth 20000 in
theorem gX5_teach_X5_startChange : GoodIn wsX5_teach (wsV RX5 107 RX5 yX5_startChange wsX5_startChange) := goodIn_app (goodIn_of _ (by decide +kernel)) ggX5_teach_X5_startChange
set_option maxRecDepth 20000 in
theorem ggX5_teach_X0_learn : GoodIn wsX5_teach wsX0_learn := goodIn_r _ [67, 59, 62, 68, 13, 14, 15, 64, 69, 70, 71, 60, 61, 91, 92, 93, 94, 95, 106, 107, 108, 109, 110, 111, 112, 113, 114] (by decide +kernel) (by decide +kernel)
set_option maxRecDepth 20000 in
theorem gX5_teach_X0_learn_n212 : GoodIn wsX5_teach (wsX0_learn) := ggX5_teach_X0_learn
theorem dX5_teach_0 : decode cX5_teach 0 = .ok (.aload_n 0, 1) := by decide +kernel
theorem dX5_teach_1 : decode cX5_teach 1 = .ok (.iload_n 1, 1) := by decide +kernel
theorem dX5_teach_2 : decode cX5_teach 2 = .ok (.invokevirtual 201, 3) := by decide +kernel
theorem dX5_teach_5 : decode cX5_teach 5 = .ok (.ifCond .ne 5, 3) := by decide +kernel
theorem dX5_teach_8 : decode cX5_teach 8 = .ok (.iconst (-1), 1) := by decide +kernel
theorem dX5_teach_9 : decode cX5_teach 9 = .ok (.ireturn, 1) := by decide +kernel
theorem dX5_teach_10 : decode cX5_teach 10 = .ok (.aload_n 0, 1) := by decide +kernel
theorem dX5_teach_11 : decode cX5_teach 11 = .ok (.iload_n 1, 1) := by decide +kernel
theorem dX5_teach_12 : decode cX5_teach 12 = .ok (.invokevirtual 185, 3) := by decide +kernel
theorem dX5_teach_15 : decode cX5_teach 15 = .ok (.astore_n 2, 1) := by decide +kernel
theorem dX5_teach_16 : decode cX5_teach 16 = .ok (.aload_n 2, 1) := by decide +kernel
theorem dX5_teach_17 : decode cX5_teach 17 = .ok (.aload_n 0, 1) := by decide +kernel
theorem dX5_teach_18 : decode cX5_teach 18 = .ok (.getfield 19, 3) := by decide +kernel
theorem dX5_teach_21 : decode cX5_teach 21 = .ok (.invokevirtual 204, 3) := by decide +kernel
theorem dX5_teach_24 : decode cX5_teach 24 = .ok (.ifCond .eq 6, 3) := by decide +kernel
theorem dX5_teach_27 : decode cX5_teach 27 = .ok (.bipush (-2), 2) := by decide +kernel
theorem dX5_teach_29 : decode cX5_teach 29 = .ok (.ireturn, 1) := by decide +kernel
theorem dX5_teach_30 : decode cX5_teach 30 = .ok (.aload_n 0, 1) := by decide +kernel
theorem dX5_teach_31 : decode cX5_teach 31 = .ok (.invokevirtual 107, 3) := by decide +kernel
theorem dX5_teach_34 : decode cX5_teach 34 = .ok (.aload_n 0, 1) := by decide +kernel
theorem dX5_teach_35 : decode cX5_teach 35 = .ok (.getfield 40, 3) := by decide +kernel
theorem dX5_teach_38 : decode cX5_teach 38 = .ok (.getfield 208, 3) := by decide +kernel
theorem dX5_teach_41 : decode cX5_teach 41 = .ok (.aload_n 2, 1) := by decide +kernel
theorem dX5_teach_42 : decode cX5_teach 42 = .ok (.invokevirtual 212, 3) := by decide +kernel
theorem dX5_teach_45 : decode cX5_teach 45 = .ok (.aload_n 0, 1) := by decide +kernel
theorem dX5_teach_46 : decode cX5_teach 46 = .ok (.getfield 40, 3) := by decide +kernel
theorem dX5_teach_49 : decode cX5_teach 49 = .ok (.getfield 208, 3) := by decide +kernel
theorem dX5_teach_52 : decode cX5_teach 52 = .ok (.getfield 218, 3) := by decide +kernel
theorem dX5_teach_55 : decode cX5_teach 55 = .ok (.ireturn, 1) := by decide +kernel
set_option maxRecDepth 20000 in
theorem ggX5_forget_X5_startChange : GoodIn wsX5_forget wsX5_startChange := goodIn_r _ [6, 7, 8, 1, 9, 10, 11, 12, 13, 14, 15, 16, 17, 18, 19, 20, 21, 22, 23, 24, 25, 26, 27, 28, 29, 30, 31, 32, 33, 34, 35, 36, 37, 38, 39, 40, 41, 45, 46, 47, 48, 49, 50, 51, 52, 53, 54, 55, 56, 57, 58, 59, 60, 61, 62, 63, 64, 65, 66, 67, 68] (by decide +kernel) (by decide +kernel)
set_option maxRecDepth 20000 in
theorem gX5_forget_X5_startChange : GoodIn wsX5_forget (wsV RX5 107 RX5 yX5_startChange wsX5_startChange) := goodIn_app (goodIn_of _ (by decide +kernel)) ggX5_forget_X5_startChange
set_option maxRecDepth 20000 in
theorem ggX5_forget_X0_clear : GoodIn wsX5_forget wsX0_clear := goodIn_r _ [44, 36, 37, 38, 64, 65, 66, 67, 68] (by decide +kernel) (by decide +kernel)
set_option maxRecDepth 20000 in
theorem gX5_forget_X0_clear_n221 : GoodIn wsX5_forget (wsX0_clear) := ggX5_forget_X0_clear
theorem dX5_forget_0 : decode cX5_forget 0 = .ok (.aload_n 0, 1) := by decide +kernel
theorem dX5_forget_1 : decode cX5_forget 1 = .ok (.getfield 40, 3) := by decide +kernel
theorem dX5_forget_4 : decode cX5_forget 4 = .ok (.getfield 208, 3) := by decide +kernel
theorem dX5_forget_7 : decode cX5_forget 7 = .ok (.getfield 218, 3) := by decide +kernel
theorem dX5_forget_10 : decode cX5_forget 10 = .ok (.istore_n 1, 1) := by decide +kernel
theorem dX5_forget_11 : decode cX5_forget 11 = .ok (.iload_n 1, 1) := by decide +kernel
theorem dX5_forget_12 : decode cX5_forget 12 = .ok (.ifCond .ne 6, 3) := by decide +kernel
theorem dX5_forget_15 : decode cX5_forget 15 = .ok (.bipush (-2), 2) := by decide +kernel
theorem dX5_forget_17 : decode cX5_forget 17 = .ok (.ireturn, 1) := by decide +kernel
theorem dX5_forget_18 : decode cX5_forget 18 = .ok (.aload_n 0, 1) := by decide +kernel
theorem dX5_forget_19 : decode cX5_forget 19 = .ok (.invokevirtual 107, 3) := by decide +kernel
theorem dX5_forget_22 : decode cX5_forget 22 = .ok (.aload_n 0, 1) := by decide +kernel
theorem dX5_forget_23 : decode cX5_forget 23 = .ok (.getfield 40, 3) := by decide +kernel
theorem dX5_forget_26 : decode cX5_forget 26 = .ok (.getfield 208, 3) := by decide +kernel
theorem dX5_forget_29 : decode cX5_forget 29 = .ok (.invokevirtual 221, 3) := by decide +kernel
theorem dX5_forget_32 : decode cX5_forget 32 = .ok (.iload_n 1, 1) := by decide +kernel
theorem dX5_forget_33 : decode cX5_forget 33 = .ok (.ireturn, 1) := by decide +kernel
set_option maxRecDepth 20000 in
theorem ggX5_wide_X5_startChange : GoodIn wsX5_wide wsX5_startChange := goodIn_r _ [6, 7, 8, 1, 9, 10, 11, 12, 13, 14, 15, 16, 17, 18, 19, 20, 21, 22, 23, 24, 25, 26, 27, 28, 29, 30, 31, 32, 33, 34, 35, 36, 37, 38, 39, 40, 41, 42, 43, 44, 45, 46, 47, 48, 49, 50, 51, 52, 53, 54, 55, 56, 57, 58, 59, 60, 61, 62, 63, 64, 65] (by decide +kernel) (by decide +kernel)
set_option maxRecDepth 20000 in
theorem gX5_wide_X5_startChange : GoodIn wsX5_wide (wsV RX5 107 RX5 yX5_startChange wsX5_startChange) := goodIn_app (goodIn_of _ (by decide +kernel)) ggX5_wide_X5_startChange
theorem dX5_wide_0 : decode cX5_wide 0 = .ok (.iload_n 1, 1) := by decide +kernel
theorem dX5_wide_1 : decode cX5_wide 1 = .ok (.ifCond .lt 9, 3) := by decide +kernel
theorem dX5_wide_4 : decode cX5_wide 4 = .ok (.iload_n 1, 1) := by decide +kernel
theorem dX5_wide_5 : decode cX5_wide 5 = .ok (.bipush 20, 2) := by decide +kernel
theorem dX5_wide_7 : decode cX5_wide 7 = .ok (.if_icmp .le 5, 3) := by decide +kernel
theorem dX5_wide_10 : decode cX5_wide 10 = .ok (.iconst (-1), 1) := by decide +kernel
theorem dX5_wide_11 : decode cX5_wide 11 = .ok (.ireturn, 1) := by decide +kernel
theorem dX5_wide_12 : decode cX5_wide 12 = .ok (.aload_n 0, 1) := by decide +kernel
theorem dX5_wide_13 : decode cX5_wide 13 = .ok (.getfield 40, 3) := by decide +kernel
theorem dX5_wide_16 : decode cX5_wide 16 = .ok (.getfield 222, 3) := by decide +kernel
theorem dX5_wide_19 : decode cX5_wide 19 = .ok (.istore_n 2, 1) := by decide +kernel
theorem dX5_wide_20 : decode cX5_wide 20 = .ok (.iload_n 2, 1) := by decide +kernel
theorem dX5_wide_21 : decode cX5_wide 21 = .ok (.iload_n 1, 1) := by decide +kernel
theorem dX5_wide_22 : decode cX5_wide 22 = .ok (.if_icmp .ne 6, 3) := by decide +kernel
theorem dX5_wide_25 : decode cX5_wide 25 = .ok (.bipush (-2), 2) := by decide +kernel
theorem dX5_wide_27 : decode cX5_wide 27 = .ok (.ireturn, 1) := by decide +kernel
theorem dX5_wide_28 : decode cX5_wide 28 = .ok (.aload_n 0, 1) := by decide +kernel
theorem dX5_wide_29 : decode cX5_wide 29 = .ok (.invokevirtual 107, 3) := by decide +kernel
theorem dX5_wide_32 : decode cX5_wide 32 = .ok (.aload_n 0, 1) := by decide +kernel
theorem dX5_wide_33 : decode cX5_wide 33 = .ok (.getfield 40, 3) := by decide +kernel
theorem dX5_wide_36 : decode cX5_wide 36 = .ok (.iload_n 1, 1) := by decide +kernel
theorem dX5_wide_37 : decode cX5_wide 37 = .ok (.putfield 222, 3) := by decide +kernel
theorem dX5_wide_40 : decode cX5_wide 40 = .ok (.iload_n 2, 1) := by decide +kernel
theorem dX5_wide_41 : decode cX5_wide 41 = .ok (.ireturn, 1) := by decide +kernel
set_option maxRecDepth 20000 in
theorem ggX5_band_X5_isTick : GoodIn wsX5_band wsX5_isTick := goodIn_r _ [5] (by decide +kernel) (by decide +kernel)
set_option maxRecDepth 20000 in
theorem gX5_band_X5_isTick : GoodIn wsX5_band (va_wsS RX5 225 yX5_isTick wsX5_isTick) := goodIn_app (goodIn_of _ (by decide +kernel)) ggX5_band_X5_isTick
set_option maxRecDepth 20000 in
theorem ggX5_band_X5_isFlag : GoodIn wsX5_band wsX5_isFlag := goodIn_r _ [8] (by decide +kernel) (by decide +kernel)
set_option maxRecDepth 20000 in
theorem gX5_band_X5_isFlag : GoodIn wsX5_band (va_wsS RX5 94 yX5_isFlag wsX5_isFlag) := goodIn_app (goodIn_of _ (by decide +kernel)) ggX5_band_X5_isFlag
theorem dX5_band_0 : decode cX5_band 0 = .ok (.iload_n 1, 1) := by decide +kernel
theorem dX5_band_1 : decode cX5_band 1 = .ok (.invokestatic 225, 3) := by decide +kernel
theorem dX5_band_4 : decode cX5_band 4 = .ok (.ifCond .eq 10, 3) := by decide +kernel
theorem dX5_band_7 : decode cX5_band 7 = .ok (.iload_n 2, 1) := by decide +kernel
theorem dX5_band_8 : decode cX5_band 8 = .ok (.invokestatic 94, 3) := by decide +kernel
theorem dX5_band_11 : decode cX5_band 11 = .ok (.ifCond .ne 5, 3) := by decide +kernel
theorem dX5_band_14 : decode cX5_band 14 = .ok (.iconst (-1), 1) := by decide +kernel
theorem dX5_band_15 : decode cX5_band 15 = .ok (.ireturn, 1) := by decide +kernel
theorem dX5_band_16 : decode cX5_band 16 = .ok (.iload_n 1, 1) := by decide +kernel
theorem dX5_band_17 : decode cX5_band 17 = .ok (.aload_n 0, 1) := by decide +kernel
theorem dX5_band_18 : decode cX5_band 18 = .ok (.getfield 40, 3) := by decide +kernel
theorem dX5_band_21 : decode cX5_band 21 = .ok (.getfield 208, 3) := by decide +kernel
theorem dX5_band_24 : decode cX5_band 24 = .ok (.getfield 228, 3) := by decide +kernel
theorem dX5_band_27 : decode cX5_band 27 = .ok (.if_icmp .le 6, 3) := by decide +kernel
theorem dX5_band_30 : decode cX5_band 30 = .ok (.bipush (-4), 2) := by decide +kernel
theorem dX5_band_32 : decode cX5_band 32 = .ok (.ireturn, 1) := by decide +kernel
theorem dX5_band_33 : decode cX5_band 33 = .ok (.iload_n 2, 1) := by decide +kernel
theorem dX5_band_34 : decode cX5_band 34 = .ok (.ifCond .ne 20, 3) := by decide +kernel
theorem dX5_band_37 : decode cX5_band 37 = .ok (.aload_n 0, 1) := by decide +kernel
theorem dX5_band_38 : decode cX5_band 38 = .ok (.getfield 40, 3) := by decide +kernel
theorem dX5_band_41 : decode cX5_band 41 = .ok (.getfield 208, 3) := by decide +kernel
theorem dX5_band_44 : decode cX5_band 44 = .ok (.getfield 231, 3) := by decide +kernel
theorem dX5_band_47 : decode cX5_band 47 = .ok (.iload_n 1, 1) := by decide +kernel
theorem dX5_band_48 : decode cX5_band 48 = .ok (.iconst 1, 1) := by decide +kernel
theorem dX5_band_49 : decode cX5_band 49 = .ok (.isub, 1) := by decide +kernel
theorem dX5_band_50 : decode cX5_band 50 = .ok (.iaload, 1) := by decide +kernel
theorem dX5_band_51 : decode cX5_band 51 = .ok (.goto 17, 3) := by decide +kernel
theorem dX5_band_54 : decode cX5_band 54 = .ok (.aload_n 0, 1) := by decide +kernel
theorem dX5_band_55 : decode cX5_band 55 = .ok (.getfield 40, 3) := by decide +kernel
theorem dX5_band_58 : decode cX5_band 58 = .ok (.getfield 208, 3) := by decide +kernel
theorem dX5_band_61 : decode cX5_band 61 = .ok (.getfield 234, 3) := by decide +kernel
theorem dX5_band_64 : decode cX5_band 64 = .ok (.iload_n 1, 1) := by decide +kernel
theorem dX5_band_65 : decode cX5_band 65 = .ok (.iconst 1, 1) := by decide +kernel
theorem dX5_band_66 : decode cX5_band 66 = .ok (.isub, 1) := by decide +kernel
theorem dX5_band_67 : decode cX5_band 67 = .ok (.iaload, 1) := by decide +kernel
theorem dX5_band_68 : decode cX5_band 68 = .ok (.ireturn, 1) := by decide +kernel
set_option maxRecDepth 20000 in
theorem ggX5_shot_X5_isShot : GoodIn wsX5_shot wsX5_isShot := goodIn_r _ [6, 7, 8, 9, 5, 10, 1, 11, 12, 13, 14, 76, 77, 78, 79, 80, 81, 82, 83, 84, 85, 86, 87, 88, 89, 90, 91, 92, 93, 94] (by decide +kernel) (by decide +kernel)
set_option maxRecDepth 20000 in
theorem gX5_shot_X5_isShot : GoodIn wsX5_shot (wsV RX5 201 RX5 yX5_isShot wsX5_isShot) := goodIn_app (goodIn_of _ (by decide +kernel)) ggX5_shot_X5_isShot
set_option maxRecDepth 20000 in
theorem ggX5_shot_X5_keptShot : GoodIn wsX5_shot wsX5_keptShot := goodIn_r _ [18, 19, 1, 7, 8, 9, 5, 10, 11, 12, 13, 14, 20, 21, 22, 23, 76, 77, 78, 79, 80, 81, 82, 83, 84, 85, 86, 87, 88, 89, 90, 91, 92, 93, 94] (by decide +kernel) (by decide +kernel)
set_option maxRecDepth 20000 in
theorem gX5_shot_X5_keptShot : GoodIn wsX5_shot (wsV RX5 185 RX5 yX5_keptShot wsX5_keptShot) := goodIn_app (goodIn_of _ (by decide +kernel)) ggX5_shot_X5_keptShot
set_option maxRecDepth 20000 in
theorem ggX5_shot_X0_amissIn : GoodIn wsX5_shot wsX0_amissIn := goodIn_r _ [27, 28, 29, 100, 101, 102, 103, 104, 105, 106, 107, 108, 95, 96, 97, 98, 99] (by decide +kernel) (by decide +kernel)
set_option maxRecDepth 20000 in
theorem gX5_shot_X0_amissIn_n237 : GoodIn wsX5_shot (wsX0_amissIn) := ggX5_shot_X0_amissIn
set_option maxRecDepth 20000 in
theorem ggX5_shot_X5_isBad : GoodIn wsX5_shot wsX5_isBad := goodIn_r _ [33, 34, 1, 35, 36, 37, 38, 39, 40, 41, 13, 42, 43, 25, 44, 45, 46, 47, 48, 49, 24, 26, 27, 28, 29, 76, 77, 78, 79, 80, 81, 82, 83, 84, 85, 86, 87, 88, 89, 90, 91, 92, 93, 94, 109, 110, 111, 112, 113, 114, 115, 116, 117, 118, 100, 101, 102, 103, 104, 105, 106, 107, 108, 95, 96, 97, 98, 99] (by decide +kernel) (by decide +kernel)
set_option maxRecDepth 20000 in
theorem gX5_shot_X5_isBad : GoodIn wsX5_shot (wsV RX5 241 RX5 yX5_isBad wsX5_isBad) := goodIn_app (goodIn_of _ (by decide +kernel)) ggX5_shot_X5_isBad
set_option maxRecDepth 20000 in
theorem ggX5_shot_X2_told : GoodIn wsX5_shot wsX2_told := goodIn_r _ [52, 53, 54, 55, 56, 57, 58, 59, 36, 60, 61, 62, 12, 13, 14, 63, 64, 65, 66, 67, 68, 69, 70, 71, 72, 73, 74, 75, 100, 101, 102, 103, 104, 105, 106, 107, 108] (by decide +kernel) (by decide +kernel)
set_option maxRecDepth 20000 in
theorem gX5_shot_X2_told_n245 : GoodIn wsX5_shot (wsX2_told) := ggX5_shot_X2_told
theorem dX5_shot_0 : decode cX5_shot 0 = .ok (.aload_n 0, 1) := by decide +kernel
theorem dX5_shot_1 : decode cX5_shot 1 = .ok (.iload_n 1, 1) := by decide +kernel
theorem dX5_shot_2 : decode cX5_shot 2 = .ok (.invokevirtual 201, 3) := by decide +kernel
theorem dX5_shot_5 : decode cX5_shot 5 = .ok (.ifCond .eq 13, 3) := by decide +kernel
theorem dX5_shot_8 : decode cX5_shot 8 = .ok (.iload_n 2, 1) := by decide +kernel
theorem dX5_shot_9 : decode cX5_shot 9 = .ok (.ifCond .lt 9, 3) := by decide +kernel
theorem dX5_shot_12 : decode cX5_shot 12 = .ok (.iload_n 2, 1) := by decide +kernel
theorem dX5_shot_13 : decode cX5_shot 13 = .ok (.bipush 8, 2) := by decide +kernel
theorem dX5_shot_15 : decode cX5_shot 15 = .ok (.if_icmp .le 5, 3) := by decide +kernel
theorem dX5_shot_18 : decode cX5_shot 18 = .ok (.iconst (-1), 1) := by decide +kernel
theorem dX5_shot_19 : decode cX5_shot 19 = .ok (.ireturn, 1) := by decide +kernel
theorem dX5_shot_20 : decode cX5_shot 20 = .ok (.aload_n 0, 1) := by decide +kernel
theorem dX5_shot_21 : decode cX5_shot 21 = .ok (.iload_n 1, 1) := by decide +kernel
theorem dX5_shot_22 : decode cX5_shot 22 = .ok (.invokevirtual 185, 3) := by decide +kernel
theorem dX5_shot_25 : decode cX5_shot 25 = .ok (.astore_n 3, 1) := by decide +kernel
theorem dX5_shot_26 : decode cX5_shot 26 = .ok (.iload_n 2, 1) := by decide +kernel
theorem dX5_shot_27 : decode cX5_shot 27 = .ok (.bipush 7, 2) := by decide +kernel
theorem dX5_shot_29 : decode cX5_shot 29 = .ok (.if_icmp .ne 40, 3) := by decide +kernel
theorem dX5_shot_32 : decode cX5_shot 32 = .ok (.aload_n 0, 1) := by decide +kernel
theorem dX5_shot_33 : decode cX5_shot 33 = .ok (.getfield 40, 3) := by decide +kernel
theorem dX5_shot_36 : decode cX5_shot 36 = .ok (.getfield 208, 3) := by decide +kernel
theorem dX5_shot_39 : decode cX5_shot 39 = .ok (.getfield 218, 3) := by decide +kernel
theorem dX5_shot_42 : decode cX5_shot 42 = .ok (.ifCond .ne 8, 3) := by decide +kernel
theorem dX5_shot_45 : decode cX5_shot 45 = .ok (.bipush (-4), 2) := by decide +kernel
theorem dX5_shot_47 : decode cX5_shot 47 = .ok (.goto 21, 3) := by decide +kernel
theorem dX5_shot_50 : decode cX5_shot 50 = .ok (.aload_n 0, 1) := by decide +kernel
theorem dX5_shot_51 : decode cX5_shot 51 = .ok (.getfield 40, 3) := by decide +kernel
theorem dX5_shot_54 : decode cX5_shot 54 = .ok (.getfield 208, 3) := by decide +kernel
theorem dX5_shot_57 : decode cX5_shot 57 = .ok (.aload_n 3, 1) := by decide +kernel
theorem dX5_shot_58 : decode cX5_shot 58 = .ok (.aload_n 0, 1) := by decide +kernel
theorem dX5_shot_59 : decode cX5_shot 59 = .ok (.getfield 40, 3) := by decide +kernel
theorem dX5_shot_62 : decode cX5_shot 62 = .ok (.getfield 222, 3) := by decide +kernel
theorem dX5_shot_65 : decode cX5_shot 65 = .ok (.invokevirtual 237, 3) := by decide +kernel
theorem dX5_shot_68 : decode cX5_shot 68 = .ok (.ireturn, 1) := by decide +kernel
theorem dX5_shot_69 : decode cX5_shot 69 = .ok (.iload_n 2, 1) := by decide +kernel
theorem dX5_shot_70 : decode cX5_shot 70 = .ok (.bipush 8, 2) := by decide +kernel
theorem dX5_shot_72 : decode cX5_shot 72 = .ok (.if_icmp .ne 17, 3) := by decide +kernel
theorem dX5_shot_75 : decode cX5_shot 75 = .ok (.aload_n 0, 1) := by decide +kernel
theorem dX5_shot_76 : decode cX5_shot 76 = .ok (.aload_n 3, 1) := by decide +kernel
theorem dX5_shot_77 : decode cX5_shot 77 = .ok (.invokevirtual 241, 3) := by decide +kernel
theorem dX5_shot_80 : decode cX5_shot 80 = .ok (.ifCond .eq 7, 3) := by decide +kernel
theorem dX5_shot_83 : decode cX5_shot 83 = .ok (.iconst 1, 1) := by decide +kernel
theorem dX5_shot_84 : decode cX5_shot 84 = .ok (.goto 4, 3) := by decide +kernel
theorem dX5_shot_87 : decode cX5_shot 87 = .ok (.iconst 0, 1) := by decide +kernel
theorem dX5_shot_88 : decode cX5_shot 88 = .ok (.ireturn, 1) := by decide +kernel
theorem dX5_shot_89 : decode cX5_shot 89 = .ok (.aload_n 3, 1) := by decide +kernel
theorem dX5_shot_90 : decode cX5_shot 90 = .ok (.iload_n 2, 1) := by decide +kernel
theorem dX5_shot_91 : decode cX5_shot 91 = .ok (.invokevirtual 245, 3) := by decide +kernel
theorem dX5_shot_94 : decode cX5_shot 94 = .ok (.ireturn, 1) := by decide +kernel
set_option maxRecDepth 20000 in
theorem ggX5_isBad_X2_isFarOff : GoodIn wsX5_isBad wsX2_isFarOff := goodIn_r _ [6, 7, 8, 9, 10, 11, 44, 45, 46, 47, 48, 49, 50, 51, 52, 53, 54, 55, 56, 57, 58, 59, 60, 61, 62] (by decide +kernel) (by decide +kernel)
set_option maxRecDepth 20000 in
theorem gX5_isBad_X2_isFarOff_n248 : GoodIn wsX5_isBad (wsX2_isFarOff) := ggX5_isBad_X2_isFarOff
set_option maxRecDepth 20000 in
theorem ggX5_isBad_X0_rejects : GoodIn wsX5_isBad wsX0_rejects := goodIn_r _ [15, 16, 17, 18, 19, 20, 21, 13, 22, 23, 24, 63, 64, 65, 66, 67, 54, 55, 56, 57, 58, 59, 60, 61, 62] (by decide +kernel) (by decide +kernel)
set_option maxRecDepth 20000 in
theorem gX5_isBad_X0_rejects_n251 : GoodIn wsX5_isBad (wsX0_rejects) := ggX5_isBad_X0_rejects
theorem dX5_isBad_0 : decode cX5_isBad 0 = .ok (.aload_n 1, 1) := by decide +kernel
theorem dX5_isBad_1 : decode cX5_isBad 1 = .ok (.aload_n 0, 1) := by decide +kernel
theorem dX5_isBad_2 : decode cX5_isBad 2 = .ok (.getfield 19, 3) := by decide +kernel
theorem dX5_isBad_5 : decode cX5_isBad 5 = .ok (.invokevirtual 248, 3) := by decide +kernel
theorem dX5_isBad_8 : decode cX5_isBad 8 = .ok (.ifCond .ne 24, 3) := by decide +kernel
theorem dX5_isBad_11 : decode cX5_isBad 11 = .ok (.aload_n 0, 1) := by decide +kernel
theorem dX5_isBad_12 : decode cX5_isBad 12 = .ok (.getfield 40, 3) := by decide +kernel
theorem dX5_isBad_15 : decode cX5_isBad 15 = .ok (.getfield 208, 3) := by decide +kernel
theorem dX5_isBad_18 : decode cX5_isBad 18 = .ok (.aload_n 1, 1) := by decide +kernel
theorem dX5_isBad_19 : decode cX5_isBad 19 = .ok (.aload_n 0, 1) := by decide +kernel
theorem dX5_isBad_20 : decode cX5_isBad 20 = .ok (.getfield 40, 3) := by decide +kernel
theorem dX5_isBad_23 : decode cX5_isBad 23 = .ok (.getfield 222, 3) := by decide +kernel
theorem dX5_isBad_26 : decode cX5_isBad 26 = .ok (.invokevirtual 251, 3) := by decide +kernel
theorem dX5_isBad_29 : decode cX5_isBad 29 = .ok (.ifCond .eq 7, 3) := by decide +kernel
theorem dX5_isBad_32 : decode cX5_isBad 32 = .ok (.iconst 1, 1) := by decide +kernel
theorem dX5_isBad_33 : decode cX5_isBad 33 = .ok (.goto 4, 3) := by decide +kernel
theorem dX5_isBad_36 : decode cX5_isBad 36 = .ok (.iconst 0, 1) := by decide +kernel
theorem dX5_isBad_37 : decode cX5_isBad 37 = .ok (.ireturn, 1) := by decide +kernel
set_option maxRecDepth 20000 in
theorem ggX5_curve_X5_isShot : GoodIn wsX5_curve wsX5_isShot := goodIn_r _ [5, 6, 7, 8, 4, 9, 10, 11, 12, 13, 14, 36, 37, 38, 39, 40, 41, 42, 43, 44, 45, 46, 47, 48, 49, 50, 51, 52, 53, 54] (by decide +kernel) (by decide +kernel)
set_option maxRecDepth 20000 in
theorem gX5_curve_X5_isShot : GoodIn wsX5_curve (wsV RX5 201 RX5 yX5_isShot wsX5_isShot) := goodIn_app (goodIn_of _ (by decide +kernel)) ggX5_curve_X5_isShot
set_option maxRecDepth 20000 in
theorem ggX5_curve_X5_isTick : GoodIn wsX5_curve wsX5_isTick := goodIn_r _ [17] (by decide +kernel) (by decide +kernel)
set_option maxRecDepth 20000 in
theorem gX5_curve_X5_isTick : GoodIn wsX5_curve (va_wsS RX5 225 yX5_isTick wsX5_isTick) := goodIn_app (goodIn_of _ (by decide +kernel)) ggX5_curve_X5_isTick
set_option maxRecDepth 20000 in
theorem ggX5_curve_X5_keptShot : GoodIn wsX5_curve wsX5_keptShot := goodIn_r _ [21, 22, 10, 6, 7, 8, 4, 9, 11, 12, 13, 14, 23, 24, 25, 26, 36, 37, 38, 39, 40, 41, 42, 43, 44, 45, 46, 47, 48, 49, 50, 51, 52, 53, 54] (by decide +kernel) (by decide +kernel)
set_option maxRecDepth 20000 in
theorem gX5_curve_X5_keptShot : GoodIn wsX5_curve (wsV RX5 185 RX5 yX5_keptShot wsX5_keptShot) := goodIn_app (goodIn_of _ (by decide +kernel)) ggX5_curve_X5_keptShot
theorem dX5_curve_0 : decode cX5_curve 0 = .ok (.aload_n 0, 1) := by decide +kernel
theorem dX5_curve_1 : decode cX5_curve 1 = .ok (.iload_n 1, 1) := by decide +kernel
theorem dX5_curve_2 : decode cX5_curve 2 = .ok (.invokevirtual 201, 3) := by decide +kernel
theorem dX5_curve_5 : decode cX5_curve 5 = .ok (.ifCond .eq 10, 3) := by decide +kernel
theorem dX5_curve_8 : decode cX5_curve 8 = .ok (.iload_n 2, 1) := by decide +kernel
theorem dX5_curve_9 : decode cX5_curve 9 = .ok (.invokestatic 225, 3) := by decide +kernel
theorem dX5_curve_12 : decode cX5_curve 12 = .ok (.ifCond .ne 5, 3) := by decide +kernel
theorem dX5_curve_15 : decode cX5_curve 15 = .ok (.iconst (-1), 1) := by decide +kernel
theorem dX5_curve_16 : decode cX5_curve 16 = .ok (.ireturn, 1) := by decide +kernel
theorem dX5_curve_17 : decode cX5_curve 17 = .ok (.aload_n 0, 1) := by decide +kernel
theorem dX5_curve_18 : decode cX5_curve 18 = .ok (.iload_n 1, 1) := by decide +kernel
theorem dX5_curve_19 : decode cX5_curve 19 = .ok (.invokevirtual 185, 3) := by decide +kernel
theorem dX5_curve_22 : decode cX5_curve 22 = .ok (.astore_n 3, 1) := by decide +kernel
theorem dX5_curve_23 : decode cX5_curve 23 = .ok (.iload_n 2, 1) := by decide +kernel
theorem dX5_curve_24 : decode cX5_curve 24 = .ok (.aload_n 3, 1) := by decide +kernel
theorem dX5_curve_25 : decode cX5_curve 25 = .ok (.getfield 255, 3) := by decide +kernel
theorem dX5_curve_28 : decode cX5_curve 28 = .ok (.if_icmp .le 8, 3) := by decide +kernel
theorem dX5_curve_31 : decode cX5_curve 31 = .ok (.bipush (-4), 2) := by decide +kernel
theorem dX5_curve_33 : decode cX5_curve 33 = .ok (.goto 11, 3) := by decide +kernel
theorem dX5_curve_36 : decode cX5_curve 36 = .ok (.aload_n 3, 1) := by decide +kernel
theorem dX5_curve_37 : decode cX5_curve 37 = .ok (.getfield 258, 3) := by decide +kernel
theorem dX5_curve_40 : decode cX5_curve 40 = .ok (.iload_n 2, 1) := by decide +kernel
theorem dX5_curve_41 : decode cX5_curve 41 = .ok (.iconst 1, 1) := by decide +kernel
theorem dX5_curve_42 : decode cX5_curve 42 = .ok (.isub, 1) := by decide +kernel
theorem dX5_curve_43 : decode cX5_curve 43 = .ok (.iaload, 1) := by decide +kernel
theorem dX5_curve_44 : decode cX5_curve 44 = .ok (.ireturn, 1) := by decide +kernel
set_option maxRecDepth 20000 in
theorem ggX5_cavity_X5_isCavity : GoodIn wsX5_cavity wsX5_isCavity := goodIn_r _ [7, 1, 8, 9, 10, 11, 12, 13, 14, 15, 16, 17, 18, 19, 20, 21, 22, 23, 24, 25, 26] (by decide +kernel) (by decide +kernel)
set_option maxRecDepth 20000 in
theorem gX5_cavity_X5_isCavity : GoodIn wsX5_cavity (wsV RX5 148 RX5 yX5_isCavity wsX5_isCavity) := goodIn_app (goodIn_of _ (by decide +kernel)) ggX5_cavity_X5_isCavity
theorem dX5_cavity_0 : decode cX5_cavity 0 = .ok (.aload_n 0, 1) := by decide +kernel
theorem dX5_cavity_1 : decode cX5_cavity 1 = .ok (.iload_n 1, 1) := by decide +kernel
theorem dX5_cavity_2 : decode cX5_cavity 2 = .ok (.invokevirtual 148, 3) := by decide +kernel
theorem dX5_cavity_5 : decode cX5_cavity 5 = .ok (.ifCond .ne 5, 3) := by decide +kernel
theorem dX5_cavity_8 : decode cX5_cavity 8 = .ok (.iconst (-1), 1) := by decide +kernel
theorem dX5_cavity_9 : decode cX5_cavity 9 = .ok (.ireturn, 1) := by decide +kernel
theorem dX5_cavity_10 : decode cX5_cavity 10 = .ok (.iload_n 2, 1) := by decide +kernel
theorem dX5_cavity_11 : decode cX5_cavity 11 = .ok (.tableswitch 55 0 2 #[25, 35, 45], 25) := by decide +kernel
theorem dX5_cavity_36 : decode cX5_cavity 36 = .ok (.aload_n 0, 1) := by decide +kernel
theorem dX5_cavity_37 : decode cX5_cavity 37 = .ok (.getfield 19, 3) := by decide +kernel
theorem dX5_cavity_40 : decode cX5_cavity 40 = .ok (.getfield 261, 3) := by decide +kernel
theorem dX5_cavity_43 : decode cX5_cavity 43 = .ok (.iload_n 1, 1) := by decide +kernel
theorem dX5_cavity_44 : decode cX5_cavity 44 = .ok (.iaload, 1) := by decide +kernel
theorem dX5_cavity_45 : decode cX5_cavity 45 = .ok (.ireturn, 1) := by decide +kernel
theorem dX5_cavity_46 : decode cX5_cavity 46 = .ok (.aload_n 0, 1) := by decide +kernel
theorem dX5_cavity_47 : decode cX5_cavity 47 = .ok (.getfield 40, 3) := by decide +kernel
theorem dX5_cavity_50 : decode cX5_cavity 50 = .ok (.getfield 151, 3) := by decide +kernel
theorem dX5_cavity_53 : decode cX5_cavity 53 = .ok (.iload_n 1, 1) := by decide +kernel
theorem dX5_cavity_54 : decode cX5_cavity 54 = .ok (.iaload, 1) := by decide +kernel
theorem dX5_cavity_55 : decode cX5_cavity 55 = .ok (.ireturn, 1) := by decide +kernel
theorem dX5_cavity_56 : decode cX5_cavity 56 = .ok (.aload_n 0, 1) := by decide +kernel
theorem dX5_cavity_57 : decode cX5_cavity 57 = .ok (.getfield 19, 3) := by decide +kernel
theorem dX5_cavity_60 : decode cX5_cavity 60 = .ok (.getfield 264, 3) := by decide +kernel
theorem dX5_cavity_63 : decode cX5_cavity 63 = .ok (.iload_n 1, 1) := by decide +kernel
theorem dX5_cavity_64 : decode cX5_cavity 64 = .ok (.iaload, 1) := by decide +kernel
theorem dX5_cavity_65 : decode cX5_cavity 65 = .ok (.ireturn, 1) := by decide +kernel
theorem dX5_cavity_66 : decode cX5_cavity 66 = .ok (.iconst (-1), 1) := by decide +kernel
theorem dX5_cavity_67 : decode cX5_cavity 67 = .ok (.ireturn, 1) := by decide +kernel
set_option maxRecDepth 20000 in
theorem ggX5_filled_X5_isShot : GoodIn wsX5_filled wsX5_isShot := goodIn_r _ [10, 11, 12, 13, 9, 14, 15, 16, 17, 4, 18, 41, 42, 43, 44, 45, 46, 47, 48, 49, 60, 61, 62, 63, 64, 65, 66, 67, 68, 69] (by decide +kernel) (by decide +kernel)
set_option maxRecDepth 20000 in
theorem gX5_filled_X5_isShot : GoodIn wsX5_filled (wsV RX5 201 RX5 yX5_isShot wsX5_isShot) := goodIn_app (goodIn_of _ (by decide +kernel)) ggX5_filled_X5_isShot
set_option maxRecDepth 20000 in
theorem ggX5_filled_X5_isCavity : GoodIn wsX5_filled wsX5_isCavity := goodIn_r _ [22, 1, 41, 42, 43, 44, 45, 46, 47, 48, 49, 50, 51, 52, 53, 54, 55, 56, 57, 58, 59] (by decide +kernel) (by decide +kernel)
set_option maxRecDepth 20000 in
theorem gX5_filled_X5_isCavity : GoodIn wsX5_filled (wsV RX5 148 RX5 yX5_isCavity wsX5_isCavity) := goodIn_app (goodIn_of _ (by decide +kernel)) ggX5_filled_X5_isCavity
set_option maxRecDepth 20000 in
theorem ggX5_filled_X5_keptShot : GoodIn wsX5_filled wsX5_keptShot := goodIn_r _ [26, 27, 15, 11, 12, 13, 9, 14, 16, 17, 4, 18, 28, 29, 30, 31, 41, 42, 43, 44, 45, 46, 47, 48, 49, 60, 61, 62, 63, 64, 65, 66, 67, 68, 69] (by decide +kernel) (by decide +kernel)
set_option maxRecDepth 20000 in
theorem gX5_filled_X5_keptShot : GoodIn wsX5_filled (wsV RX5 185 RX5 yX5_keptShot wsX5_keptShot) := goodIn_app (goodIn_of _ (by decide +kernel)) ggX5_filled_X5_keptShot
theorem dX5_filled_0 : decode cX5_filled 0 = .ok (.aload_n 0, 1) := by decide +kernel
theorem dX5_filled_1 : decode cX5_filled 1 = .ok (.iload_n 1, 1) := by decide +kernel
theorem dX5_filled_2 : decode cX5_filled 2 = .ok (.invokevirtual 201, 3) := by decide +kernel
theorem dX5_filled_5 : decode cX5_filled 5 = .ok (.ifCond .eq 11, 3) := by decide +kernel
theorem dX5_filled_8 : decode cX5_filled 8 = .ok (.aload_n 0, 1) := by decide +kernel
theorem dX5_filled_9 : decode cX5_filled 9 = .ok (.iload_n 2, 1) := by decide +kernel
theorem dX5_filled_10 : decode cX5_filled 10 = .ok (.invokevirtual 148, 3) := by decide +kernel
theorem dX5_filled_13 : decode cX5_filled 13 = .ok (.ifCond .ne 5, 3) := by decide +kernel
theorem dX5_filled_16 : decode cX5_filled 16 = .ok (.iconst (-1), 1) := by decide +kernel
theorem dX5_filled_17 : decode cX5_filled 17 = .ok (.ireturn, 1) := by decide +kernel
theorem dX5_filled_18 : decode cX5_filled 18 = .ok (.aload_n 0, 1) := by decide +kernel
theorem dX5_filled_19 : decode cX5_filled 19 = .ok (.iload_n 1, 1) := by decide +kernel
theorem dX5_filled_20 : decode cX5_filled 20 = .ok (.invokevirtual 185, 3) := by decide +kernel
theorem dX5_filled_23 : decode cX5_filled 23 = .ok (.astore 4, 2) := by decide +kernel
theorem dX5_filled_25 : decode cX5_filled 25 = .ok (.aload 4, 2) := by decide +kernel
theorem dX5_filled_27 : decode cX5_filled 27 = .ok (.getfield 267, 3) := by decide +kernel
theorem dX5_filled_30 : decode cX5_filled 30 = .ok (.iload_n 2, 1) := by decide +kernel
theorem dX5_filled_31 : decode cX5_filled 31 = .ok (.iaload, 1) := by decide +kernel
theorem dX5_filled_32 : decode cX5_filled 32 = .ok (.istore 5, 2) := by decide +kernel
theorem dX5_filled_34 : decode cX5_filled 34 = .ok (.aload_n 0, 1) := by decide +kernel
theorem dX5_filled_35 : decode cX5_filled 35 = .ok (.getfield 19, 3) := by decide +kernel
theorem dX5_filled_38 : decode cX5_filled 38 = .ok (.getfield 261, 3) := by decide +kernel
theorem dX5_filled_41 : decode cX5_filled 41 = .ok (.iload_n 2, 1) := by decide +kernel
theorem dX5_filled_42 : decode cX5_filled 42 = .ok (.iaload, 1) := by decide +kernel
theorem dX5_filled_43 : decode cX5_filled 43 = .ok (.istore 6, 2) := by decide +kernel
theorem dX5_filled_45 : decode cX5_filled 45 = .ok (.iload_n 3, 1) := by decide +kernel
theorem dX5_filled_46 : decode cX5_filled 46 = .ok (.tableswitch 103 0 4 #[34, 37, 47, 57, 80], 34) := by decide +kernel
theorem dX5_filled_80 : decode cX5_filled 80 = .ok (.iload 5, 2) := by decide +kernel
theorem dX5_filled_82 : decode cX5_filled 82 = .ok (.ireturn, 1) := by decide +kernel
theorem dX5_filled_83 : decode cX5_filled 83 = .ok (.iconst 0, 1) := by decide +kernel
theorem dX5_filled_84 : decode cX5_filled 84 = .ok (.iload 6, 2) := by decide +kernel
theorem dX5_filled_86 : decode cX5_filled 86 = .ok (.iload 5, 2) := by decide +kernel
theorem dX5_filled_88 : decode cX5_filled 88 = .ok (.isub, 1) := by decide +kernel
theorem dX5_filled_89 : decode cX5_filled 89 = .ok (.invokestatic 270, 3) := by decide +kernel
theorem dX5_filled_92 : decode cX5_filled 92 = .ok (.ireturn, 1) := by decide +kernel
theorem dX5_filled_93 : decode cX5_filled 93 = .ok (.iconst 0, 1) := by decide +kernel
theorem dX5_filled_94 : decode cX5_filled 94 = .ok (.iload 5, 2) := by decide +kernel
theorem dX5_filled_96 : decode cX5_filled 96 = .ok (.iload 6, 2) := by decide +kernel
theorem dX5_filled_98 : decode cX5_filled 98 = .ok (.isub, 1) := by decide +kernel
theorem dX5_filled_99 : decode cX5_filled 99 = .ok (.invokestatic 270, 3) := by decide +kernel
theorem dX5_filled_102 : decode cX5_filled 102 = .ok (.ireturn, 1) := by decide +kernel
theorem dX5_filled_103 : decode cX5_filled 103 = .ok (.aload 4, 2) := by decide +kernel
theorem dX5_filled_105 : decode cX5_filled 105 = .ok (.getfield 273, 3) := by decide +kernel
theorem dX5_filled_108 : decode cX5_filled 108 = .ok (.iload_n 2, 1) := by decide +kernel
theorem dX5_filled_109 : decode cX5_filled 109 = .ok (.iaload, 1) := by decide +kernel
theorem dX5_filled_110 : decode cX5_filled 110 = .ok (.ifCond .ne 8, 3) := by decide +kernel
theorem dX5_filled_113 : decode cX5_filled 113 = .ok (.bipush (-4), 2) := by decide +kernel
theorem dX5_filled_115 : decode cX5_filled 115 = .ok (.goto 10, 3) := by decide +kernel
theorem dX5_filled_118 : decode cX5_filled 118 = .ok (.aload 4, 2) := by decide +kernel
theorem dX5_filled_120 : decode cX5_filled 120 = .ok (.getfield 273, 3) := by decide +kernel
theorem dX5_filled_123 : decode cX5_filled 123 = .ok (.iload_n 2, 1) := by decide +kernel
theorem dX5_filled_124 : decode cX5_filled 124 = .ok (.iaload, 1) := by decide +kernel
theorem dX5_filled_125 : decode cX5_filled 125 = .ok (.ireturn, 1) := by decide +kernel
theorem dX5_filled_126 : decode cX5_filled 126 = .ok (.aload 4, 2) := by decide +kernel
theorem dX5_filled_128 : decode cX5_filled 128 = .ok (.getfield 276, 3) := by decide +kernel
theorem dX5_filled_131 : decode cX5_filled 131 = .ok (.iload_n 2, 1) := by decide +kernel
theorem dX5_filled_132 : decode cX5_filled 132 = .ok (.iaload, 1) := by decide +kernel
theorem dX5_filled_133 : decode cX5_filled 133 = .ok (.ifCond .ne 8, 3) := by decide +kernel
theorem dX5_filled_136 : decode cX5_filled 136 = .ok (.bipush (-4), 2) := by decide +kernel
theorem dX5_filled_138 : decode cX5_filled 138 = .ok (.goto 10, 3) := by decide +kernel
theorem dX5_filled_141 : decode cX5_filled 141 = .ok (.aload 4, 2) := by decide +kernel
theorem dX5_filled_143 : decode cX5_filled 143 = .ok (.getfield 276, 3) := by decide +kernel
theorem dX5_filled_146 : decode cX5_filled 146 = .ok (.iload_n 2, 1) := by decide +kernel
theorem dX5_filled_147 : decode cX5_filled 147 = .ok (.iaload, 1) := by decide +kernel
theorem dX5_filled_148 : decode cX5_filled 148 = .ok (.ireturn, 1) := by decide +kernel
theorem dX5_filled_149 : decode cX5_filled 149 = .ok (.iconst (-1), 1) := by decide +kernel
theorem dX5_filled_150 : decode cX5_filled 150 = .ok (.ireturn, 1) := by decide +kernel
set_option maxRecDepth 20000 in
theorem ggX5_tried_X2_make : GoodIn wsX5_tried wsX2_make := goodIn_r _ [7, 8, 9, 10, 11, 5, 12, 13, 14, 15, 16, 17, 18, 19, 20, 21, 22, 23, 24, 25, 26, 27, 28, 29, 30, 31, 32, 33, 34, 35, 36, 37, 38, 39, 40, 41, 42, 43, 44, 45, 46, 47, 48, 49, 50, 51, 52, 53, 54, 55, 56, 57, 58, 59, 84, 85, 86, 87, 88, 89, 90, 91, 92, 93, 94, 95, 96, 97, 98, 99, 100, 101, 102, 103, 104, 105, 106, 107, 108, 109, 110, 111, 112] (by decide +kernel) (by decide +kernel)
set_option maxRecDepth 20000 in
theorem gX5_tried_X2_make_n175 : GoodIn wsX5_tried (wsX2_make) := ggX5_tried_X2_make
set_option maxRecDepth 20000 in
theorem ggX5_tried_X2_told : GoodIn wsX5_tried wsX2_told := goodIn_r _ [62, 31, 18, 19, 17, 63, 64, 65, 5, 66, 15, 24, 25, 26, 27, 28, 29, 30, 67, 68, 69, 70, 8, 71, 72, 73, 74, 16, 94, 95, 96, 97, 98, 99, 100, 101, 102] (by decide +kernel) (by decide +kernel)
set_option maxRecDepth 20000 in
theorem gX5_tried_X2_told_n245 : GoodIn wsX5_tried (wsX2_told) := ggX5_tried_X2_told
theorem dX5_tried_0 : decode cX5_tried 0 = .ok (.iload_n 1, 1) := by decide +kernel
theorem dX5_tried_1 : decode cX5_tried 1 = .ok (.bipush (-8), 2) := by decide +kernel
theorem dX5_tried_3 : decode cX5_tried 3 = .ok (.if_icmp .lt 19, 3) := by decide +kernel
theorem dX5_tried_6 : decode cX5_tried 6 = .ok (.iload_n 1, 1) := by decide +kernel
theorem dX5_tried_7 : decode cX5_tried 7 = .ok (.bipush 8, 2) := by decide +kernel
theorem dX5_tried_9 : decode cX5_tried 9 = .ok (.if_icmp .gt 13, 3) := by decide +kernel
theorem dX5_tried_12 : decode cX5_tried 12 = .ok (.iload_n 2, 1) := by decide +kernel
theorem dX5_tried_13 : decode cX5_tried 13 = .ok (.ifCond .lt 9, 3) := by decide +kernel
theorem dX5_tried_16 : decode cX5_tried 16 = .ok (.iload_n 2, 1) := by decide +kernel
theorem dX5_tried_17 : decode cX5_tried 17 = .ok (.bipush 6, 2) := by decide +kernel
theorem dX5_tried_19 : decode cX5_tried 19 = .ok (.if_icmp .le 5, 3) := by decide +kernel
theorem dX5_tried_22 : decode cX5_tried 22 = .ok (.iconst (-1), 1) := by decide +kernel
theorem dX5_tried_23 : decode cX5_tried 23 = .ok (.ireturn, 1) := by decide +kernel
theorem dX5_tried_24 : decode cX5_tried 24 = .ok (.aload_n 0, 1) := by decide +kernel
theorem dX5_tried_25 : decode cX5_tried 25 = .ok (.getfield 51, 3) := by decide +kernel
theorem dX5_tried_28 : decode cX5_tried 28 = .ok (.aload_n 0, 1) := by decide +kernel
theorem dX5_tried_29 : decode cX5_tried 29 = .ok (.getfield 19, 3) := by decide +kernel
theorem dX5_tried_32 : decode cX5_tried 32 = .ok (.aload_n 0, 1) := by decide +kernel
theorem dX5_tried_33 : decode cX5_tried 33 = .ok (.getfield 40, 3) := by decide +kernel
theorem dX5_tried_36 : decode cX5_tried 36 = .ok (.iload_n 1, 1) := by decide +kernel
theorem dX5_tried_37 : decode cX5_tried 37 = .ok (.invokevirtual 175, 3) := by decide +kernel
theorem dX5_tried_40 : decode cX5_tried 40 = .ok (.aload_n 0, 1) := by decide +kernel
theorem dX5_tried_41 : decode cX5_tried 41 = .ok (.getfield 51, 3) := by decide +kernel
theorem dX5_tried_44 : decode cX5_tried 44 = .ok (.iload_n 2, 1) := by decide +kernel
theorem dX5_tried_45 : decode cX5_tried 45 = .ok (.invokevirtual 245, 3) := by decide +kernel
theorem dX5_tried_48 : decode cX5_tried 48 = .ok (.ireturn, 1) := by decide +kernel
set_option maxRecDepth 20000 in
theorem ggX5_even_X5_isFlag : GoodIn wsX5_even wsX5_isFlag := goodIn_r _ [4] (by decide +kernel) (by decide +kernel)
set_option maxRecDepth 20000 in
theorem gX5_even_X5_isFlag : GoodIn wsX5_even (va_wsS RX5 94 yX5_isFlag wsX5_isFlag) := goodIn_app (goodIn_of _ (by decide +kernel)) ggX5_even_X5_isFlag
set_option maxRecDepth 20000 in
theorem ggX5_even_X5_balanceWith : GoodIn wsX5_even wsX5_balanceWith := goodIn_r _ [8, 9, 10, 11, 12, 13, 14, 15, 16, 17, 18, 19, 20, 21, 22, 23, 24, 25, 26, 27, 28, 29, 30, 31, 32, 33, 34, 35, 36, 37, 38, 39, 40, 41, 42, 43, 44, 45, 46, 47, 48, 49, 50, 51, 52, 53, 54, 55, 56, 57, 58, 59, 60, 61, 62, 63, 64, 65, 66, 67, 68, 69, 70, 71, 72, 73, 74, 75, 76, 77, 78, 79, 80, 81, 82, 83, 84, 85, 86, 87, 88, 89, 90, 91, 92, 93, 94, 95, 96, 97, 98, 99, 100, 101, 102, 103, 104, 105, 106, 107, 108] (by decide +kernel) (by decide +kernel)
set_option maxRecDepth 20000 in
theorem gX5_even_X5_balanceWith : GoodIn wsX5_even (wsV RX5 279 RX5 yX5_balanceWith wsX5_balanceWith) := goodIn_app (goodIn_of _ (by decide +kernel)) ggX5_even_X5_balanceWith
theorem dX5_even_0 : decode cX5_even 0 = .ok (.iload_n 1, 1) := by decide +kernel
theorem dX5_even_1 : decode cX5_even 1 = .ok (.invokestatic 94, 3) := by decide +kernel
theorem dX5_even_4 : decode cX5_even 4 = .ok (.ifCond .ne 5, 3) := by decide +kernel
theorem dX5_even_7 : decode cX5_even 7 = .ok (.iconst (-1), 1) := by decide +kernel
theorem dX5_even_8 : decode cX5_even 8 = .ok (.ireturn, 1) := by decide +kernel
theorem dX5_even_9 : decode cX5_even 9 = .ok (.iconst 0, 1) := by decide +kernel
theorem dX5_even_10 : decode cX5_even 10 = .ok (.istore_n 2, 1) := by decide +kernel
theorem dX5_even_11 : decode cX5_even 11 = .ok (.aload_n 0, 1) := by decide +kernel
theorem dX5_even_12 : decode cX5_even 12 = .ok (.iconst 0, 1) := by decide +kernel
theorem dX5_even_13 : decode cX5_even 13 = .ok (.invokevirtual 279, 3) := by decide +kernel
theorem dX5_even_16 : decode cX5_even 16 = .ok (.istore_n 3, 1) := by decide +kernel
theorem dX5_even_17 : decode cX5_even 17 = .ok (.iconst 1, 1) := by decide +kernel
theorem dX5_even_18 : decode cX5_even 18 = .ok (.istore 4, 2) := by decide +kernel
theorem dX5_even_20 : decode cX5_even 20 = .ok (.iload 4, 2) := by decide +kernel
theorem dX5_even_22 : decode cX5_even 22 = .ok (.bipush 8, 2) := by decide +kernel
theorem dX5_even_24 : decode cX5_even 24 = .ok (.if_icmp .gt 51, 3) := by decide +kernel
theorem dX5_even_27 : decode cX5_even 27 = .ok (.aload_n 0, 1) := by decide +kernel
theorem dX5_even_28 : decode cX5_even 28 = .ok (.iload 4, 2) := by decide +kernel
theorem dX5_even_30 : decode cX5_even 30 = .ok (.ineg, 1) := by decide +kernel
theorem dX5_even_31 : decode cX5_even 31 = .ok (.invokevirtual 279, 3) := by decide +kernel
theorem dX5_even_34 : decode cX5_even 34 = .ok (.istore 5, 2) := by decide +kernel
theorem dX5_even_36 : decode cX5_even 36 = .ok (.iload 5, 2) := by decide +kernel
theorem dX5_even_38 : decode cX5_even 38 = .ok (.iload_n 3, 1) := by decide +kernel
theorem dX5_even_39 : decode cX5_even 39 = .ok (.if_icmp .ge 10, 3) := by decide +kernel
theorem dX5_even_42 : decode cX5_even 42 = .ok (.iload 4, 2) := by decide +kernel
theorem dX5_even_44 : decode cX5_even 44 = .ok (.ineg, 1) := by decide +kernel
theorem dX5_even_45 : decode cX5_even 45 = .ok (.istore_n 2, 1) := by decide +kernel
theorem dX5_even_46 : decode cX5_even 46 = .ok (.iload 5, 2) := by decide +kernel
theorem dX5_even_48 : decode cX5_even 48 = .ok (.istore_n 3, 1) := by decide +kernel
theorem dX5_even_49 : decode cX5_even 49 = .ok (.aload_n 0, 1) := by decide +kernel
theorem dX5_even_50 : decode cX5_even 50 = .ok (.iload 4, 2) := by decide +kernel
theorem dX5_even_52 : decode cX5_even 52 = .ok (.invokevirtual 279, 3) := by decide +kernel
theorem dX5_even_55 : decode cX5_even 55 = .ok (.istore 6, 2) := by decide +kernel
theorem dX5_even_57 : decode cX5_even 57 = .ok (.iload 6, 2) := by decide +kernel
theorem dX5_even_59 : decode cX5_even 59 = .ok (.iload_n 3, 1) := by decide +kernel
theorem dX5_even_60 : decode cX5_even 60 = .ok (.if_icmp .ge 9, 3) := by decide +kernel
theorem dX5_even_63 : decode cX5_even 63 = .ok (.iload 4, 2) := by decide +kernel
theorem dX5_even_65 : decode cX5_even 65 = .ok (.istore_n 2, 1) := by decide +kernel
theorem dX5_even_66 : decode cX5_even 66 = .ok (.iload 6, 2) := by decide +kernel
theorem dX5_even_68 : decode cX5_even 68 = .ok (.istore_n 3, 1) := by decide +kernel
theorem dX5_even_69 : decode cX5_even 69 = .ok (.iinc 4 1, 3) := by decide +kernel
theorem dX5_even_72 : decode cX5_even 72 = .ok (.goto (-52), 3) := by decide +kernel
theorem dX5_even_75 : decode cX5_even 75 = .ok (.iload_n 1, 1) := by decide +kernel
theorem dX5_even_76 : decode cX5_even 76 = .ok (.ifCond .ne 10, 3) := by decide +kernel
theorem dX5_even_79 : decode cX5_even 79 = .ok (.iload_n 2, 1) := by decide +kernel
theorem dX5_even_80 : decode cX5_even 80 = .ok (.bipush 8, 2) := by decide +kernel
theorem dX5_even_82 : decode cX5_even 82 = .ok (.iadd, 1) := by decide +kernel
theorem dX5_even_83 : decode cX5_even 83 = .ok (.goto 4, 3) := by decide +kernel
theorem dX5_even_86 : decode cX5_even 86 = .ok (.iload_n 3, 1) := by decide +kernel
theorem dX5_even_87 : decode cX5_even 87 = .ok (.ireturn, 1) := by decide +kernel
set_option maxRecDepth 20000 in
theorem ggX5_balanceWith_X2_make : GoodIn wsX5_balanceWith wsX2_make := goodIn_r _ [7, 8, 9, 10, 11, 5, 12, 13, 14, 15, 16, 17, 18, 19, 20, 21, 22, 23, 24, 25, 26, 27, 28, 29, 30, 31, 32, 33, 34, 35, 36, 37, 38, 39, 40, 41, 42, 43, 44, 45, 46, 47, 48, 49, 50, 51, 52, 53, 54, 55, 56, 57, 58, 59, 72, 73, 74, 75, 76, 77, 78, 79, 80, 81, 82, 83, 84, 85, 86, 87, 88, 89, 90, 91, 92, 93, 94, 95, 96, 97, 98, 99, 100] (by decide +kernel) (by decide +kernel)
set_option maxRecDepth 20000 in
theorem gX5_balanceWith_X2_make_n175 : GoodIn wsX5_balanceWith (wsX2_make) := ggX5_balanceWith_X2_make
set_option maxRecDepth 20000 in
theorem ggX5_balanceWith_X2_balance : GoodIn wsX5_balanceWith wsX2_balance := goodIn_r _ [62, 15, 24, 25, 26, 27, 28, 29, 30, 82, 83, 84, 85, 86, 87, 88, 89, 90] (by decide +kernel) (by decide +kernel)
set_option maxRecDepth 20000 in
theorem gX5_balanceWith_X2_balance_n282 : GoodIn wsX5_balanceWith (wsX2_balance) := ggX5_balanceWith_X2_balance
theorem dX5_balanceWith_0 : decode cX5_balanceWith 0 = .ok (.aload_n 0, 1) := by decide +kernel
theorem dX5_balanceWith_1 : decode cX5_balanceWith 1 = .ok (.getfield 51, 3) := by decide +kernel
theorem dX5_balanceWith_4 : decode cX5_balanceWith 4 = .ok (.aload_n 0, 1) := by decide +kernel
theorem dX5_balanceWith_5 : decode cX5_balanceWith 5 = .ok (.getfield 19, 3) := by decide +kernel
theorem dX5_balanceWith_8 : decode cX5_balanceWith 8 = .ok (.aload_n 0, 1) := by decide +kernel
theorem dX5_balanceWith_9 : decode cX5_balanceWith 9 = .ok (.getfield 40, 3) := by decide +kernel
theorem dX5_balanceWith_12 : decode cX5_balanceWith 12 = .ok (.iload_n 1, 1) := by decide +kernel
theorem dX5_balanceWith_13 : decode cX5_balanceWith 13 = .ok (.invokevirtual 175, 3) := by decide +kernel
theorem dX5_balanceWith_16 : decode cX5_balanceWith 16 = .ok (.aload_n 0, 1) := by decide +kernel
theorem dX5_balanceWith_17 : decode cX5_balanceWith 17 = .ok (.getfield 51, 3) := by decide +kernel
theorem dX5_balanceWith_20 : decode cX5_balanceWith 20 = .ok (.invokevirtual 282, 3) := by decide +kernel
theorem dX5_balanceWith_23 : decode cX5_balanceWith 23 = .ok (.ireturn, 1) := by decide +kernel
set_option maxRecDepth 20000 in
theorem ggX5_earlier_X5_isCore : GoodIn wsX5_earlier wsX5_isCore := goodIn_r _ [6, 1, 7, 8, 9, 10, 11, 12, 13, 14, 15, 16, 17, 18, 19, 20, 21, 22, 23, 24, 25] (by decide +kernel) (by decide +kernel)
set_option maxRecDepth 20000 in
theorem gX5_earlier_X5_isCore : GoodIn wsX5_earlier (wsV RX5 119 RX5 yX5_isCore wsX5_isCore) := goodIn_app (goodIn_of _ (by decide +kernel)) ggX5_earlier_X5_isCore
theorem dX5_earlier_0 : decode cX5_earlier 0 = .ok (.aload_n 0, 1) := by decide +kernel
theorem dX5_earlier_1 : decode cX5_earlier 1 = .ok (.iload_n 1, 1) := by decide +kernel
theorem dX5_earlier_2 : decode cX5_earlier 2 = .ok (.invokevirtual 119, 3) := by decide +kernel
theorem dX5_earlier_5 : decode cX5_earlier 5 = .ok (.ifCond .ne 5, 3) := by decide +kernel
theorem dX5_earlier_8 : decode cX5_earlier 8 = .ok (.iconst (-1), 1) := by decide +kernel
theorem dX5_earlier_9 : decode cX5_earlier 9 = .ok (.ireturn, 1) := by decide +kernel
theorem dX5_earlier_10 : decode cX5_earlier 10 = .ok (.aload_n 0, 1) := by decide +kernel
theorem dX5_earlier_11 : decode cX5_earlier 11 = .ok (.getfield 19, 3) := by decide +kernel
theorem dX5_earlier_14 : decode cX5_earlier 14 = .ok (.getfield 141, 3) := by decide +kernel
theorem dX5_earlier_17 : decode cX5_earlier 17 = .ok (.iload_n 1, 1) := by decide +kernel
theorem dX5_earlier_18 : decode cX5_earlier 18 = .ok (.iaload, 1) := by decide +kernel
theorem dX5_earlier_19 : decode cX5_earlier 19 = .ok (.bipush 9, 2) := by decide +kernel
theorem dX5_earlier_21 : decode cX5_earlier 21 = .ok (.if_icmp .ne 8, 3) := by decide +kernel
theorem dX5_earlier_24 : decode cX5_earlier 24 = .ok (.bipush (-4), 2) := by decide +kernel
theorem dX5_earlier_26 : decode cX5_earlier 26 = .ok (.goto 12, 3) := by decide +kernel
theorem dX5_earlier_29 : decode cX5_earlier 29 = .ok (.aload_n 0, 1) := by decide +kernel
theorem dX5_earlier_30 : decode cX5_earlier 30 = .ok (.getfield 19, 3) := by decide +kernel
theorem dX5_earlier_33 : decode cX5_earlier 33 = .ok (.getfield 141, 3) := by decide +kernel
theorem dX5_earlier_36 : decode cX5_earlier 36 = .ok (.iload_n 1, 1) := by decide +kernel
theorem dX5_earlier_37 : decode cX5_earlier 37 = .ok (.iaload, 1) := by decide +kernel
theorem dX5_earlier_38 : decode cX5_earlier 38 = .ok (.ireturn, 1) := by decide +kernel
set_option maxRecDepth 20000 in
theorem ggX5_order_X1_coreInTurn : GoodIn wsX5_order wsX1_coreInTurn := goodIn_r _ [5, 6, 7, 8, 9, 3, 10, 11, 21, 22, 23, 24, 25, 26, 27, 28, 29, 30] (by decide +kernel) (by decide +kernel)
set_option maxRecDepth 20000 in
theorem gX5_order_X1_coreInTurn_n285 : GoodIn wsX5_order (wsX1_coreInTurn) := ggX5_order_X1_coreInTurn
theorem dX5_order_0 : decode cX5_order 0 = .ok (.iload_n 1, 1) := by decide +kernel
theorem dX5_order_1 : decode cX5_order 1 = .ok (.ifCond .ge 5, 3) := by decide +kernel
theorem dX5_order_4 : decode cX5_order 4 = .ok (.iconst (-1), 1) := by decide +kernel
theorem dX5_order_5 : decode cX5_order 5 = .ok (.ireturn, 1) := by decide +kernel
theorem dX5_order_6 : decode cX5_order 6 = .ok (.iload_n 1, 1) := by decide +kernel
theorem dX5_order_7 : decode cX5_order 7 = .ok (.aload_n 0, 1) := by decide +kernel
theorem dX5_order_8 : decode cX5_order 8 = .ok (.getfield 19, 3) := by decide +kernel
theorem dX5_order_11 : decode cX5_order 11 = .ok (.getfield 145, 3) := by decide +kernel
theorem dX5_order_14 : decode cX5_order 14 = .ok (.if_icmp .lt 8, 3) := by decide +kernel
theorem dX5_order_17 : decode cX5_order 17 = .ok (.bipush (-4), 2) := by decide +kernel
theorem dX5_order_19 : decode cX5_order 19 = .ok (.goto 11, 3) := by decide +kernel
theorem dX5_order_22 : decode cX5_order 22 = .ok (.aload_n 0, 1) := by decide +kernel
theorem dX5_order_23 : decode cX5_order 23 = .ok (.getfield 19, 3) := by decide +kernel
theorem dX5_order_26 : decode cX5_order 26 = .ok (.iload_n 1, 1) := by decide +kernel
theorem dX5_order_27 : decode cX5_order 27 = .ok (.invokevirtual 285, 3) := by decide +kernel
theorem dX5_order_30 : decode cX5_order 30 = .ok (.ireturn, 1) := by decide +kernel
set_option maxRecDepth 20000 in
theorem ggX5_count_J6_bitCount_0f7a4 : GoodIn wsX5_count wsJ6_bitCount_0f7a4 := goodIn_r _ [8, 9, 10, 11] (by decide +kernel) (by decide +kernel)
set_option maxRecDepth 20000 in
theorem gX5_count_J6_bitCount_0f7a4 : GoodIn wsX5_count (va_wsS RX5 126 yJ6_bitCount_0f7a4 wsJ6_bitCount_0f7a4) := goodIn_app (goodIn_of _ (by decide +kernel)) ggX5_count_J6_bitCount_0f7a4
set_option maxRecDepth 20000 in
theorem ggX5_count_X5_keptShots : GoodIn wsX5_count wsX5_keptShots := goodIn_r _ [16, 2, 17, 18, 19, 20, 63, 64, 65, 66, 67, 68, 69, 70, 71, 82, 83, 84, 85, 86, 87, 88, 89, 90, 91] (by decide +kernel) (by decide +kernel)
set_option maxRecDepth 20000 in
theorem gX5_count_X5_keptShots : GoodIn wsX5_count (wsV RX5 182 RX5 yX5_keptShots wsX5_keptShots) := goodIn_app (goodIn_of _ (by decide +kernel)) ggX5_count_X5_keptShots
set_option maxRecDepth 20000 in
theorem ggX5_count_X5_badShots : GoodIn wsX5_count wsX5_badShots := goodIn_r _ [24, 12, 13, 14, 15, 16, 2, 17, 18, 19, 20, 25, 26, 27, 28, 29, 30, 31, 32, 33, 34, 35, 36, 37, 1, 38, 39, 40, 41, 42, 43, 44, 45, 46, 47, 48, 49, 50, 51, 52, 53, 54, 55, 56, 57, 58, 63, 64, 65, 66, 67, 68, 69, 70, 71, 82, 83, 84, 85, 86, 87, 88, 89, 90, 91, 72, 73, 74, 75, 76, 77, 78, 79, 80, 81, 100, 101, 102, 103, 104, 105, 106, 107, 108, 92, 93, 94, 95, 96] (by decide +kernel) (by decide +kernel)
set_option maxRecDepth 20000 in
theorem gX5_count_X5_badShots : GoodIn wsX5_count (wsV RX5 288 RX5 yX5_badShots wsX5_badShots) := goodIn_app (goodIn_of _ (by decide +kernel)) ggX5_count_X5_badShots
set_option maxRecDepth 20000 in
theorem ggX5_count_X5_isReady : GoodIn wsX5_count wsX5_isReady := goodIn_r _ [62, 2, 1, 5, 6, 7, 8, 9, 10, 11, 63, 64, 65, 66, 67, 68, 69, 70, 71, 82, 83, 84, 85, 86, 87, 88, 89, 90, 91, 72, 73, 74, 75, 76, 77, 78, 79, 80, 81] (by decide +kernel) (by decide +kernel)
set_option maxRecDepth 20000 in
theorem gX5_count_X5_isReady : GoodIn wsX5_count (wsV RX5 169 RX5 yX5_isReady wsX5_isReady) := goodIn_app (goodIn_of _ (by decide +kernel)) ggX5_count_X5_isReady
theorem dX5_count_0 : decode cX5_count 0 = .ok (.iload_n 1, 1) := by decide +kernel
theorem dX5_count_1 : decode cX5_count 1 = .ok (.tableswitch 221 0 14 #[75, 83, 91, 99, 115, 126, 142, 147, 155, 166, 174, 179, 192, 197, 205], 75) := by decide +kernel
theorem dX5_count_76 : decode cX5_count 76 = .ok (.aload_n 0, 1) := by decide +kernel
theorem dX5_count_77 : decode cX5_count 77 = .ok (.getfield 19, 3) := by decide +kernel
theorem dX5_count_80 : decode cX5_count 80 = .ok (.getfield 87, 3) := by decide +kernel
theorem dX5_count_83 : decode cX5_count 83 = .ok (.ireturn, 1) := by decide +kernel
theorem dX5_count_84 : decode cX5_count 84 = .ok (.aload_n 0, 1) := by decide +kernel
theorem dX5_count_85 : decode cX5_count 85 = .ok (.getfield 19, 3) := by decide +kernel
theorem dX5_count_88 : decode cX5_count 88 = .ok (.getfield 145, 3) := by decide +kernel
theorem dX5_count_91 : decode cX5_count 91 = .ok (.ireturn, 1) := by decide +kernel
theorem dX5_count_92 : decode cX5_count 92 = .ok (.aload_n 0, 1) := by decide +kernel
theorem dX5_count_93 : decode cX5_count 93 = .ok (.getfield 19, 3) := by decide +kernel
theorem dX5_count_96 : decode cX5_count 96 = .ok (.getfield 154, 3) := by decide +kernel
theorem dX5_count_99 : decode cX5_count 99 = .ok (.ireturn, 1) := by decide +kernel
theorem dX5_count_100 : decode cX5_count 100 = .ok (.aload_n 0, 1) := by decide +kernel
theorem dX5_count_101 : decode cX5_count 101 = .ok (.getfield 40, 3) := by decide +kernel
theorem dX5_count_104 : decode cX5_count 104 = .ok (.getfield 103, 3) := by decide +kernel
theorem dX5_count_107 : decode cX5_count 107 = .ok (.ifCond .eq 7, 3) := by decide +kernel
theorem dX5_count_110 : decode cX5_count 110 = .ok (.iconst 1, 1) := by decide +kernel
theorem dX5_count_111 : decode cX5_count 111 = .ok (.goto 4, 3) := by decide +kernel
theorem dX5_count_114 : decode cX5_count 114 = .ok (.iconst 0, 1) := by decide +kernel
theorem dX5_count_115 : decode cX5_count 115 = .ok (.ireturn, 1) := by decide +kernel
theorem dX5_count_116 : decode cX5_count 116 = .ok (.aload_n 0, 1) := by decide +kernel
theorem dX5_count_117 : decode cX5_count 117 = .ok (.getfield 40, 3) := by decide +kernel
theorem dX5_count_120 : decode cX5_count 120 = .ok (.getfield 110, 3) := by decide +kernel
theorem dX5_count_123 : decode cX5_count 123 = .ok (.invokestatic 126, 3) := by decide +kernel
theorem dX5_count_126 : decode cX5_count 126 = .ok (.ireturn, 1) := by decide +kernel
theorem dX5_count_127 : decode cX5_count 127 = .ok (.aload_n 0, 1) := by decide +kernel
theorem dX5_count_128 : decode cX5_count 128 = .ok (.getfield 40, 3) := by decide +kernel
theorem dX5_count_131 : decode cX5_count 131 = .ok (.getfield 116, 3) := by decide +kernel
theorem dX5_count_134 : decode cX5_count 134 = .ok (.ifCond .eq 7, 3) := by decide +kernel
theorem dX5_count_137 : decode cX5_count 137 = .ok (.iconst 1, 1) := by decide +kernel
theorem dX5_count_138 : decode cX5_count 138 = .ok (.goto 4, 3) := by decide +kernel
theorem dX5_count_141 : decode cX5_count 141 = .ok (.iconst 0, 1) := by decide +kernel
theorem dX5_count_142 : decode cX5_count 142 = .ok (.ireturn, 1) := by decide +kernel
theorem dX5_count_143 : decode cX5_count 143 = .ok (.aload_n 0, 1) := by decide +kernel
theorem dX5_count_144 : decode cX5_count 144 = .ok (.invokevirtual 182, 3) := by decide +kernel
theorem dX5_count_147 : decode cX5_count 147 = .ok (.ireturn, 1) := by decide +kernel
theorem dX5_count_148 : decode cX5_count 148 = .ok (.aload_n 0, 1) := by decide +kernel
theorem dX5_count_149 : decode cX5_count 149 = .ok (.getfield 40, 3) := by decide +kernel
theorem dX5_count_152 : decode cX5_count 152 = .ok (.getfield 172, 3) := by decide +kernel
theorem dX5_count_155 : decode cX5_count 155 = .ok (.ireturn, 1) := by decide +kernel
theorem dX5_count_156 : decode cX5_count 156 = .ok (.aload_n 0, 1) := by decide +kernel
theorem dX5_count_157 : decode cX5_count 157 = .ok (.getfield 40, 3) := by decide +kernel
theorem dX5_count_160 : decode cX5_count 160 = .ok (.getfield 208, 3) := by decide +kernel
theorem dX5_count_163 : decode cX5_count 163 = .ok (.getfield 218, 3) := by decide +kernel
theorem dX5_count_166 : decode cX5_count 166 = .ok (.ireturn, 1) := by decide +kernel
theorem dX5_count_167 : decode cX5_count 167 = .ok (.aload_n 0, 1) := by decide +kernel
theorem dX5_count_168 : decode cX5_count 168 = .ok (.getfield 40, 3) := by decide +kernel
theorem dX5_count_171 : decode cX5_count 171 = .ok (.getfield 222, 3) := by decide +kernel
theorem dX5_count_174 : decode cX5_count 174 = .ok (.ireturn, 1) := by decide +kernel
theorem dX5_count_175 : decode cX5_count 175 = .ok (.aload_n 0, 1) := by decide +kernel
theorem dX5_count_176 : decode cX5_count 176 = .ok (.invokevirtual 288, 3) := by decide +kernel
theorem dX5_count_179 : decode cX5_count 179 = .ok (.ireturn, 1) := by decide +kernel
theorem dX5_count_180 : decode cX5_count 180 = .ok (.aload_n 0, 1) := by decide +kernel
theorem dX5_count_181 : decode cX5_count 181 = .ok (.invokevirtual 169, 3) := by decide +kernel
theorem dX5_count_184 : decode cX5_count 184 = .ok (.ifCond .eq 7, 3) := by decide +kernel
theorem dX5_count_187 : decode cX5_count 187 = .ok (.iconst 1, 1) := by decide +kernel
theorem dX5_count_188 : decode cX5_count 188 = .ok (.goto 4, 3) := by decide +kernel
theorem dX5_count_191 : decode cX5_count 191 = .ok (.iconst 0, 1) := by decide +kernel
theorem dX5_count_192 : decode cX5_count 192 = .ok (.ireturn, 1) := by decide +kernel
theorem dX5_count_193 : decode cX5_count 193 = .ok (.aload_n 0, 1) := by decide +kernel
theorem dX5_count_194 : decode cX5_count 194 = .ok (.getfield 36, 3) := by decide +kernel
theorem dX5_count_197 : decode cX5_count 197 = .ok (.ireturn, 1) := by decide +kernel
theorem dX5_count_198 : decode cX5_count 198 = .ok (.aload_n 0, 1) := by decide +kernel
theorem dX5_count_199 : decode cX5_count 199 = .ok (.getfield 12, 3) := by decide +kernel
theorem dX5_count_202 : decode cX5_count 202 = .ok (.getfield 81, 3) := by decide +kernel
theorem dX5_count_205 : decode cX5_count 205 = .ok (.ireturn, 1) := by decide +kernel
theorem dX5_count_206 : decode cX5_count 206 = .ok (.aload_n 0, 1) := by decide +kernel
theorem dX5_count_207 : decode cX5_count 207 = .ok (.getfield 40, 3) := by decide +kernel
theorem dX5_count_210 : decode cX5_count 210 = .ok (.getfield 113, 3) := by decide +kernel
theorem dX5_count_213 : decode cX5_count 213 = .ok (.ifCond .eq 7, 3) := by decide +kernel
theorem dX5_count_216 : decode cX5_count 216 = .ok (.iconst 1, 1) := by decide +kernel
theorem dX5_count_217 : decode cX5_count 217 = .ok (.goto 4, 3) := by decide +kernel
theorem dX5_count_220 : decode cX5_count 220 = .ok (.iconst 0, 1) := by decide +kernel
theorem dX5_count_221 : decode cX5_count 221 = .ok (.ireturn, 1) := by decide +kernel
theorem dX5_count_222 : decode cX5_count 222 = .ok (.iconst (-1), 1) := by decide +kernel
theorem dX5_count_223 : decode cX5_count 223 = .ok (.ireturn, 1) := by decide +kernel
set_option maxRecDepth 20000 in
theorem ggX5_badShots_X5_keptShots : GoodIn wsX5_badShots wsX5_keptShots := goodIn_r _ [5, 6, 7, 8, 9, 10, 46, 47, 48, 49, 50, 51, 52, 53, 54, 55, 56, 57, 58, 59, 60, 61, 62, 63, 64] (by decide +kernel) (by decide +kernel)
set_option maxRecDepth 20000 in
theorem gX5_badShots_X5_keptShots : GoodIn wsX5_badShots (wsV RX5 182 RX5 yX5_keptShots wsX5_keptShots) := goodIn_app (goodIn_of _ (by decide +kernel)) ggX5_badShots_X5_keptShots
set_option maxRecDepth 20000 in
theorem ggX5_badShots_X5_keptShot : GoodIn wsX5_badShots wsX5_keptShot := goodIn_r _ [14, 15, 6, 1, 2, 3, 4, 5, 7, 8, 9, 10, 16, 17, 18, 19, 46, 47, 48, 49, 50, 51, 52, 53, 54, 55, 56, 57, 58, 59, 60, 61, 62, 63, 64] (by decide +kernel) (by decide +kernel)
set_option maxRecDepth 20000 in
theorem gX5_badShots_X5_keptShot : GoodIn wsX5_badShots (wsV RX5 185 RX5 yX5_keptShot wsX5_keptShot) := goodIn_app (goodIn_of _ (by decide +kernel)) ggX5_badShots_X5_keptShot
set_option maxRecDepth 20000 in
theorem ggX5_badShots_X5_isBad : GoodIn wsX5_badShots wsX5_isBad := goodIn_r _ [23, 24, 6, 25, 26, 27, 28, 29, 30, 31, 9, 32, 33, 34, 35, 36, 37, 38, 39, 40, 41, 42, 43, 44, 45, 46, 47, 48, 49, 50, 51, 52, 53, 54, 55, 56, 57, 58, 59, 60, 61, 62, 63, 64, 65, 66, 67, 68, 69, 70, 71, 72, 73, 74, 75, 76, 77, 78, 79, 80, 81, 82, 83, 84, 85, 86, 87, 88] (by decide +kernel) (by decide +kernel)
set_option maxRecDepth 20000 in
theorem gX5_badShots_X5_isBad : GoodIn wsX5_badShots (wsV RX5 241 RX5 yX5_isBad wsX5_isBad) := goodIn_app (goodIn_of _ (by decide +kernel)) ggX5_badShots_X5_isBad
theorem dX5_badShots_0 : decode cX5_badShots 0 = .ok (.iconst 0, 1) := by decide +kernel
theorem dX5_badShots_1 : decode cX5_badShots 1 = .ok (.istore_n 1, 1) := by decide +kernel
theorem dX5_badShots_2 : decode cX5_badShots 2 = .ok (.iconst 0, 1) := by decide +kernel
theorem dX5_badShots_3 : decode cX5_badShots 3 = .ok (.istore_n 2, 1) := by decide +kernel
theorem dX5_badShots_4 : decode cX5_badShots 4 = .ok (.iload_n 2, 1) := by decide +kernel
theorem dX5_badShots_5 : decode cX5_badShots 5 = .ok (.aload_n 0, 1) := by decide +kernel
theorem dX5_badShots_6 : decode cX5_badShots 6 = .ok (.invokevirtual 182, 3) := by decide +kernel
theorem dX5_badShots_9 : decode cX5_badShots 9 = .ok (.if_icmp .ge 24, 3) := by decide +kernel
theorem dX5_badShots_12 : decode cX5_badShots 12 = .ok (.aload_n 0, 1) := by decide +kernel
theorem dX5_badShots_13 : decode cX5_badShots 13 = .ok (.aload_n 0, 1) := by decide +kernel
theorem dX5_badShots_14 : decode cX5_badShots 14 = .ok (.iload_n 2, 1) := by decide +kernel
theorem dX5_badShots_15 : decode cX5_badShots 15 = .ok (.invokevirtual 185, 3) := by decide +kernel
theorem dX5_badShots_18 : decode cX5_badShots 18 = .ok (.invokevirtual 241, 3) := by decide +kernel
theorem dX5_badShots_21 : decode cX5_badShots 21 = .ok (.ifCond .eq 6, 3) := by decide +kernel
theorem dX5_badShots_24 : decode cX5_badShots 24 = .ok (.iinc 1 1, 3) := by decide +kernel
theorem dX5_badShots_27 : decode cX5_badShots 27 = .ok (.iinc 2 1, 3) := by decide +kernel
theorem dX5_badShots_30 : decode cX5_badShots 30 = .ok (.goto (-26), 3) := by decide +kernel
theorem dX5_badShots_33 : decode cX5_badShots 33 = .ok (.iload_n 1, 1) := by decide +kernel
theorem dX5_badShots_34 : decode cX5_badShots 34 = .ok (.ireturn, 1) := by decide +kernel
set_option maxRecDepth 20000 in
theorem ggX5_isReady_J6_bitCount_0f7a4 : GoodIn wsX5_isReady wsJ6_bitCount_0f7a4 := goodIn_r _ [6, 7, 8, 9] (by decide +kernel) (by decide +kernel)
set_option maxRecDepth 20000 in
theorem gX5_isReady_J6_bitCount_0f7a4 : GoodIn wsX5_isReady (va_wsS RX5 126 yJ6_bitCount_0f7a4 wsJ6_bitCount_0f7a4) := goodIn_app (goodIn_of _ (by decide +kernel)) ggX5_isReady_J6_bitCount_0f7a4
theorem dX5_isReady_0 : decode cX5_isReady 0 = .ok (.aload_n 0, 1) := by decide +kernel
theorem dX5_isReady_1 : decode cX5_isReady 1 = .ok (.getfield 40, 3) := by decide +kernel
theorem dX5_isReady_4 : decode cX5_isReady 4 = .ok (.getfield 103, 3) := by decide +kernel
theorem dX5_isReady_7 : decode cX5_isReady 7 = .ok (.ifCond .eq 27, 3) := by decide +kernel
theorem dX5_isReady_10 : decode cX5_isReady 10 = .ok (.aload_n 0, 1) := by decide +kernel
theorem dX5_isReady_11 : decode cX5_isReady 11 = .ok (.getfield 40, 3) := by decide +kernel
theorem dX5_isReady_14 : decode cX5_isReady 14 = .ok (.getfield 110, 3) := by decide +kernel
theorem dX5_isReady_17 : decode cX5_isReady 17 = .ok (.invokestatic 126, 3) := by decide +kernel
theorem dX5_isReady_20 : decode cX5_isReady 20 = .ok (.aload_n 0, 1) := by decide +kernel
theorem dX5_isReady_21 : decode cX5_isReady 21 = .ok (.getfield 19, 3) := by decide +kernel
theorem dX5_isReady_24 : decode cX5_isReady 24 = .ok (.getfield 145, 3) := by decide +kernel
theorem dX5_isReady_27 : decode cX5_isReady 27 = .ok (.if_icmp .ne 7, 3) := by decide +kernel
theorem dX5_isReady_30 : decode cX5_isReady 30 = .ok (.iconst 1, 1) := by decide +kernel
theorem dX5_isReady_31 : decode cX5_isReady 31 = .ok (.goto 4, 3) := by decide +kernel
theorem dX5_isReady_34 : decode cX5_isReady 34 = .ok (.iconst 0, 1) := by decide +kernel
theorem dX5_isReady_35 : decode cX5_isReady 35 = .ok (.ireturn, 1) := by decide +kernel
theorem dX5_keptShots_0 : decode cX5_keptShots 0 = .ok (.aload_n 0, 1) := by decide +kernel
theorem dX5_keptShots_1 : decode cX5_keptShots 1 = .ok (.getfield 40, 3) := by decide +kernel
theorem dX5_keptShots_4 : decode cX5_keptShots 4 = .ok (.getfield 172, 3) := by decide +kernel
theorem dX5_keptShots_7 : decode cX5_keptShots 7 = .ok (.bipush 12, 2) := by decide +kernel
theorem dX5_keptShots_9 : decode cX5_keptShots 9 = .ok (.invokestatic 196, 3) := by decide +kernel
theorem dX5_keptShots_12 : decode cX5_keptShots 12 = .ok (.ireturn, 1) := by decide +kernel
set_option maxRecDepth 20000 in
theorem ggX5_keptShot_X5_keptShots : GoodIn wsX5_keptShot wsX5_keptShots := goodIn_r _ [7, 2, 8, 9, 10, 11, 16, 17, 18, 19, 20, 21, 22, 23, 24, 25, 26, 27, 28, 29, 30, 31, 32, 33, 34] (by decide +kernel) (by decide +kernel)
set_option maxRecDepth 20000 in
theorem gX5_keptShot_X5_keptShots : GoodIn wsX5_keptShot (wsV RX5 182 RX5 yX5_keptShots wsX5_keptShots) := goodIn_app (goodIn_of _ (by decide +kernel)) ggX5_keptShot_X5_keptShots
set_option maxRecDepth 20000 in
theorem ggX5_keptShot_J9_floorMod_7cf53 : GoodIn wsX5_keptShot wsJ9_floorMod_7cf53 := goodIn_r _ [15] (by decide +kernel) (by decide +kernel)
set_option maxRecDepth 20000 in
theorem gX5_keptShot_J9_floorMod_7cf53 : GoodIn wsX5_keptShot (va_wsS RX5 291 yJ9_floorMod_7cf53 wsJ9_floorMod_7cf53) := goodIn_app (goodIn_of _ (by decide +kernel)) ggX5_keptShot_J9_floorMod_7cf53
theorem dX5_keptShot_0 : decode cX5_keptShot 0 = .ok (.aload_n 0, 1) := by decide +kernel
theorem dX5_keptShot_1 : decode cX5_keptShot 1 = .ok (.getfield 46, 3) := by decide +kernel
theorem dX5_keptShot_4 : decode cX5_keptShot 4 = .ok (.aload_n 0, 1) := by decide +kernel
theorem dX5_keptShot_5 : decode cX5_keptShot 5 = .ok (.getfield 40, 3) := by decide +kernel
theorem dX5_keptShot_8 : decode cX5_keptShot 8 = .ok (.getfield 172, 3) := by decide +kernel
theorem dX5_keptShot_11 : decode cX5_keptShot 11 = .ok (.aload_n 0, 1) := by decide +kernel
theorem dX5_keptShot_12 : decode cX5_keptShot 12 = .ok (.invokevirtual 182, 3) := by decide +kernel
theorem dX5_keptShot_15 : decode cX5_keptShot 15 = .ok (.isub, 1) := by decide +kernel
theorem dX5_keptShot_16 : decode cX5_keptShot 16 = .ok (.iload_n 1, 1) := by decide +kernel
theorem dX5_keptShot_17 : decode cX5_keptShot 17 = .ok (.iadd, 1) := by decide +kernel
theorem dX5_keptShot_18 : decode cX5_keptShot 18 = .ok (.bipush 16, 2) := by decide +kernel
theorem dX5_keptShot_20 : decode cX5_keptShot 20 = .ok (.invokestatic 291, 3) := by decide +kernel
theorem dX5_keptShot_23 : decode cX5_keptShot 23 = .ok (.aaload, 1) := by decide +kernel
theorem dX5_keptShot_24 : decode cX5_keptShot 24 = .ok (.areturn, 1) := by decide +kernel
theorem dX5_isCavity_0 : decode cX5_isCavity 0 = .ok (.iload_n 1, 1) := by decide +kernel
theorem dX5_isCavity_1 : decode cX5_isCavity 1 = .ok (.ifCond .lt 18, 3) := by decide +kernel
theorem dX5_isCavity_4 : decode cX5_isCavity 4 = .ok (.iload_n 1, 1) := by decide +kernel
theorem dX5_isCavity_5 : decode cX5_isCavity 5 = .ok (.aload_n 0, 1) := by decide +kernel
theorem dX5_isCavity_6 : decode cX5_isCavity 6 = .ok (.getfield 19, 3) := by decide +kernel
theorem dX5_isCavity_9 : decode cX5_isCavity 9 = .ok (.getfield 87, 3) := by decide +kernel
theorem dX5_isCavity_12 : decode cX5_isCavity 12 = .ok (.if_icmp .ge 7, 3) := by decide +kernel
theorem dX5_isCavity_15 : decode cX5_isCavity 15 = .ok (.iconst 1, 1) := by decide +kernel
theorem dX5_isCavity_16 : decode cX5_isCavity 16 = .ok (.goto 4, 3) := by decide +kernel
theorem dX5_isCavity_19 : decode cX5_isCavity 19 = .ok (.iconst 0, 1) := by decide +kernel
theorem dX5_isCavity_20 : decode cX5_isCavity 20 = .ok (.ireturn, 1) := by decide +kernel
theorem dX5_isCore_0 : decode cX5_isCore 0 = .ok (.iload_n 1, 1) := by decide +kernel
theorem dX5_isCore_1 : decode cX5_isCore 1 = .ok (.ifCond .lt 18, 3) := by decide +kernel
theorem dX5_isCore_4 : decode cX5_isCore 4 = .ok (.iload_n 1, 1) := by decide +kernel
theorem dX5_isCore_5 : decode cX5_isCore 5 = .ok (.aload_n 0, 1) := by decide +kernel
theorem dX5_isCore_6 : decode cX5_isCore 6 = .ok (.getfield 19, 3) := by decide +kernel
theorem dX5_isCore_9 : decode cX5_isCore 9 = .ok (.getfield 145, 3) := by decide +kernel
theorem dX5_isCore_12 : decode cX5_isCore 12 = .ok (.if_icmp .ge 7, 3) := by decide +kernel
theorem dX5_isCore_15 : decode cX5_isCore 15 = .ok (.iconst 1, 1) := by decide +kernel
theorem dX5_isCore_16 : decode cX5_isCore 16 = .ok (.goto 4, 3) := by decide +kernel
theorem dX5_isCore_19 : decode cX5_isCore 19 = .ok (.iconst 0, 1) := by decide +kernel
theorem dX5_isCore_20 : decode cX5_isCore 20 = .ok (.ireturn, 1) := by decide +kernel
set_option maxRecDepth 20000 in
theorem ggX5_isShot_X5_keptShots : GoodIn wsX5_isShot wsX5_keptShots := goodIn_r _ [5, 6, 7, 8, 9, 10, 11, 12, 13, 14, 15, 16, 17, 18, 19, 20, 21, 22, 23, 24, 25, 26, 27, 28, 29] (by decide +kernel) (by decide +kernel)
set_option maxRecDepth 20000 in
theorem gX5_isShot_X5_keptShots : GoodIn wsX5_isShot (wsV RX5 182 RX5 yX5_keptShots wsX5_keptShots) := goodIn_app (goodIn_of _ (by decide +kernel)) ggX5_isShot_X5_keptShots
theorem dX5_isShot_0 : decode cX5_isShot 0 = .ok (.iload_n 1, 1) := by decide +kernel
theorem dX5_isShot_1 : decode cX5_isShot 1 = .ok (.ifCond .lt 15, 3) := by decide +kernel
theorem dX5_isShot_4 : decode cX5_isShot 4 = .ok (.iload_n 1, 1) := by decide +kernel
theorem dX5_isShot_5 : decode cX5_isShot 5 = .ok (.aload_n 0, 1) := by decide +kernel
theorem dX5_isShot_6 : decode cX5_isShot 6 = .ok (.invokevirtual 182, 3) := by decide +kernel
theorem dX5_isShot_9 : decode cX5_isShot 9 = .ok (.if_icmp .ge 7, 3) := by decide +kernel
theorem dX5_isShot_12 : decode cX5_isShot 12 = .ok (.iconst 1, 1) := by decide +kernel
theorem dX5_isShot_13 : decode cX5_isShot 13 = .ok (.goto 4, 3) := by decide +kernel
theorem dX5_isShot_16 : decode cX5_isShot 16 = .ok (.iconst 0, 1) := by decide +kernel
theorem dX5_isShot_17 : decode cX5_isShot 17 = .ok (.ireturn, 1) := by decide +kernel
theorem dX5_isTick_0 : decode cX5_isTick 0 = .ok (.iload_n 0, 1) := by decide +kernel
theorem dX5_isTick_1 : decode cX5_isTick 1 = .ok (.iconst 1, 1) := by decide +kernel
theorem dX5_isTick_2 : decode cX5_isTick 2 = .ok (.if_icmp .lt 13, 3) := by decide +kernel
theorem dX5_isTick_5 : decode cX5_isTick 5 = .ok (.iload_n 0, 1) := by decide +kernel
theorem dX5_isTick_6 : decode cX5_isTick 6 = .ok (.bipush 60, 2) := by decide +kernel
theorem dX5_isTick_8 : decode cX5_isTick 8 = .ok (.if_icmp .gt 7, 3) := by decide +kernel
theorem dX5_isTick_11 : decode cX5_isTick 11 = .ok (.iconst 1, 1) := by decide +kernel
theorem dX5_isTick_12 : decode cX5_isTick 12 = .ok (.goto 4, 3) := by decide +kernel
theorem dX5_isTick_15 : decode cX5_isTick 15 = .ok (.iconst 0, 1) := by decide +kernel
theorem dX5_isTick_16 : decode cX5_isTick 16 = .ok (.ireturn, 1) := by decide +kernel
theorem dX5_isFlag_0 : decode cX5_isFlag 0 = .ok (.iload_n 0, 1) := by decide +kernel
theorem dX5_isFlag_1 : decode cX5_isFlag 1 = .ok (.ifCond .eq 8, 3) := by decide +kernel
theorem dX5_isFlag_4 : decode cX5_isFlag 4 = .ok (.iload_n 0, 1) := by decide +kernel
theorem dX5_isFlag_5 : decode cX5_isFlag 5 = .ok (.iconst 1, 1) := by decide +kernel
theorem dX5_isFlag_6 : decode cX5_isFlag 6 = .ok (.if_icmp .ne 7, 3) := by decide +kernel
theorem dX5_isFlag_9 : decode cX5_isFlag 9 = .ok (.iconst 1, 1) := by decide +kernel
theorem dX5_isFlag_10 : decode cX5_isFlag 10 = .ok (.goto 4, 3) := by decide +kernel
theorem dX5_isFlag_13 : decode cX5_isFlag 13 = .ok (.iconst 0, 1) := by decide +kernel
theorem dX5_isFlag_14 : decode cX5_isFlag 14 = .ok (.ireturn, 1) := by decide +kernel
set_option maxRecDepth 20000 in
theorem ggX6_init_X6_clears : GoodIn wsX6_init wsX6_clears := goodIn_r _ [22, 23, 17, 24, 16, 41, 42, 43, 44, 45, 46, 47, 48, 49, 50, 51, 52, 53, 54, 55, 56, 57, 58, 59, 60, 61, 62, 63] (by decide +kernel) (by decide +kernel)
set_option maxRecDepth 20000 in
theorem gX6_init_X6_clears : GoodIn wsX6_init (wsV RX6 46 RX6 yX6_clears wsX6_clears) := goodIn_app (goodIn_of _ (by decide +kernel)) ggX6_init_X6_clears
set_option maxRecDepth 20000 in
theorem ggX6_init_X6_cavityOf : GoodIn wsX6_init wsX6_cavityOf := goodIn_r _ [28, 13, 23, 41, 42, 43, 44, 45, 46, 47, 48, 49, 50, 51, 52, 53, 54, 55, 56, 57, 58, 59, 60, 61, 62, 63] (by decide +kernel) (by decide +kernel)
set_option maxRecDepth 20000 in
theorem gX6_init_X6_cavityOf : GoodIn wsX6_init (wsV RX6 49 RX6 yX6_cavityOf wsX6_cavityOf) := goodIn_app (goodIn_of _ (by decide +kernel)) ggX6_init_X6_cavityOf
set_option maxRecDepth 20000 in
theorem ggX6_init_X6_stageOf : GoodIn wsX6_init wsX6_stageOf := goodIn_r _ [32, 15, 24, 41, 42, 43, 44, 45, 46, 47, 48, 49, 50, 51, 52, 53, 54, 55, 56, 57, 58, 59, 60, 61, 62, 63] (by decide +kernel) (by decide +kernel)
set_option maxRecDepth 20000 in
theorem gX6_init_X6_stageOf : GoodIn wsX6_init (wsV RX6 57 RX6 yX6_stageOf wsX6_stageOf) := goodIn_app (goodIn_of _ (by decide +kernel)) ggX6_init_X6_stageOf
set_option maxRecDepth 20000 in
theorem ggX6_init_X6_takes : GoodIn wsX6_init wsX6_takes := goodIn_r _ [36, 23, 37, 17, 38, 24, 39, 10, 6, 13, 7, 8, 14, 9, 15, 16, 40, 41, 42, 43, 44, 45, 46, 47, 48, 49, 50, 51, 52, 53, 54, 55, 56, 57, 58, 59, 60, 61, 62, 63] (by decide +kernel) (by decide +kernel)
set_option maxRecDepth 20000 in
theorem gX6_init_X6_takes : GoodIn wsX6_init (wsV RX6 61 RX6 yX6_takes wsX6_takes) := goodIn_app (goodIn_of _ (by decide +kernel)) ggX6_init_X6_takes
theorem dX6_init_0 : decode cX6_init 0 = .ok (.aload_n 0, 1) := by decide +kernel
theorem dX6_init_1 : decode cX6_init 1 = .ok (.invokespecial 1, 3) := by decide +kernel
theorem dX6_init_4 : decode cX6_init 4 = .ok (.aload_n 0, 1) := by decide +kernel
theorem dX6_init_5 : decode cX6_init 5 = .ok (.sipush 200, 3) := by decide +kernel
theorem dX6_init_8 : decode cX6_init 8 = .ok (.newarray .int, 2) := by decide +kernel
theorem dX6_init_10 : decode cX6_init 10 = .ok (.putfield 7, 3) := by decide +kernel
theorem dX6_init_13 : decode cX6_init 13 = .ok (.aload_n 0, 1) := by decide +kernel
theorem dX6_init_14 : decode cX6_init 14 = .ok (.bipush 6, 2) := by decide +kernel
theorem dX6_init_16 : decode cX6_init 16 = .ok (.newarray .int, 2) := by decide +kernel
theorem dX6_init_18 : decode cX6_init 18 = .ok (.putfield 13, 3) := by decide +kernel
theorem dX6_init_21 : decode cX6_init 21 = .ok (.aload_n 0, 1) := by decide +kernel
theorem dX6_init_22 : decode cX6_init 22 = .ok (.bipush 6, 2) := by decide +kernel
theorem dX6_init_24 : decode cX6_init 24 = .ok (.newarray .int, 2) := by decide +kernel
theorem dX6_init_26 : decode cX6_init 26 = .ok (.putfield 16, 3) := by decide +kernel
theorem dX6_init_29 : decode cX6_init 29 = .ok (.aload_n 0, 1) := by decide +kernel
theorem dX6_init_30 : decode cX6_init 30 = .ok (.iconst 4, 1) := by decide +kernel
theorem dX6_init_31 : decode cX6_init 31 = .ok (.newarray .int, 2) := by decide +kernel
theorem dX6_init_33 : decode cX6_init 33 = .ok (.putfield 19, 3) := by decide +kernel
theorem dX6_init_36 : decode cX6_init 36 = .ok (.aload_n 0, 1) := by decide +kernel
theorem dX6_init_37 : decode cX6_init 37 = .ok (.iconst 4, 1) := by decide +kernel
theorem dX6_init_38 : decode cX6_init 38 = .ok (.newarray .int, 2) := by decide +kernel
theorem dX6_init_40 : decode cX6_init 40 = .ok (.putfield 22, 3) := by decide +kernel
theorem dX6_init_43 : decode cX6_init 43 = .ok (.aload_n 0, 1) := by decide +kernel
theorem dX6_init_44 : decode cX6_init 44 = .ok (.sipush 1155, 3) := by decide +kernel
theorem dX6_init_47 : decode cX6_init 47 = .ok (.newarray .int, 2) := by decide +kernel
theorem dX6_init_49 : decode cX6_init 49 = .ok (.putfield 25, 3) := by decide +kernel
theorem dX6_init_52 : decode cX6_init 52 = .ok (.aload_n 0, 1) := by decide +kernel
theorem dX6_init_53 : decode cX6_init 53 = .ok (.sipush 4620, 3) := by decide +kernel
theorem dX6_init_56 : decode cX6_init 56 = .ok (.newarray .int, 2) := by decide +kernel
theorem dX6_init_58 : decode cX6_init 58 = .ok (.putfield 28, 3) := by decide +kernel
theorem dX6_init_61 : decode cX6_init 61 = .ok (.aload_n 0, 1) := by decide +kernel
theorem dX6_init_62 : decode cX6_init 62 = .ok (.bipush 84, 2) := by decide +kernel
theorem dX6_init_64 : decode cX6_init 64 = .ok (.newarray .int, 2) := by decide +kernel
theorem dX6_init_66 : decode cX6_init 66 = .ok (.putfield 31, 3) := by decide +kernel
theorem dX6_init_69 : decode cX6_init 69 = .ok (.aload_n 0, 1) := by decide +kernel
theorem dX6_init_70 : decode cX6_init 70 = .ok (.bipush 18, 2) := by decide +kernel
theorem dX6_init_72 : decode cX6_init 72 = .ok (.newarray .int, 2) := by decide +kernel
theorem dX6_init_74 : decode cX6_init 74 = .ok (.putfield 34, 3) := by decide +kernel
theorem dX6_init_77 : decode cX6_init 77 = .ok (.aload_n 0, 1) := by decide +kernel
theorem dX6_init_78 : decode cX6_init 78 = .ok (.iconst 4, 1) := by decide +kernel
theorem dX6_init_79 : decode cX6_init 79 = .ok (.newarray .int, 2) := by decide +kernel
theorem dX6_init_81 : decode cX6_init 81 = .ok (.putfield 37, 3) := by decide +kernel
theorem dX6_init_84 : decode cX6_init 84 = .ok (.aload_n 0, 1) := by decide +kernel
theorem dX6_init_85 : decode cX6_init 85 = .ok (.bipush 8, 2) := by decide +kernel
theorem dX6_init_87 : decode cX6_init 87 = .ok (.newarray .int, 2) := by decide +kernel
theorem dX6_init_89 : decode cX6_init 89 = .ok (.putfield 40, 3) := by decide +kernel
theorem dX6_init_92 : decode cX6_init 92 = .ok (.aload_n 0, 1) := by decide +kernel
theorem dX6_init_93 : decode cX6_init 93 = .ok (.bipush 6, 2) := by decide +kernel
theorem dX6_init_95 : decode cX6_init 95 = .ok (.newarray .int, 2) := by decide +kernel
theorem dX6_init_97 : decode cX6_init 97 = .ok (.putfield 43, 3) := by decide +kernel
theorem dX6_init_100 : decode cX6_init 100 = .ok (.aload_n 0, 1) := by decide +kernel
theorem dX6_init_101 : decode cX6_init 101 = .ok (.invokevirtual 46, 3) := by decide +kernel
theorem dX6_init_104 : decode cX6_init 104 = .ok (.aload_n 0, 1) := by decide +kernel
theorem dX6_init_105 : decode cX6_init 105 = .ok (.bipush 12, 2) := by decide +kernel
theorem dX6_init_107 : decode cX6_init 107 = .ok (.iconst 2, 1) := by decide +kernel
theorem dX6_init_108 : decode cX6_init 108 = .ok (.bipush 6, 2) := by decide +kernel
theorem dX6_init_110 : decode cX6_init 110 = .ok (.invokevirtual 49, 3) := by decide +kernel
theorem dX6_init_113 : decode cX6_init 113 = .ok (.aload_n 0, 1) := by decide +kernel
theorem dX6_init_114 : decode cX6_init 114 = .ok (.bipush 12, 2) := by decide +kernel
theorem dX6_init_116 : decode cX6_init 116 = .ok (.iconst 3, 1) := by decide +kernel
theorem dX6_init_117 : decode cX6_init 117 = .ok (.iconst 5, 1) := by decide +kernel
theorem dX6_init_118 : decode cX6_init 118 = .ok (.invokevirtual 49, 3) := by decide +kernel
theorem dX6_init_121 : decode cX6_init 121 = .ok (.aload_n 0, 1) := by decide +kernel
theorem dX6_init_122 : decode cX6_init 122 = .ok (.bipush 8, 2) := by decide +kernel
theorem dX6_init_124 : decode cX6_init 124 = .ok (.iconst 4, 1) := by decide +kernel
theorem dX6_init_125 : decode cX6_init 125 = .ok (.iconst 4, 1) := by decide +kernel
theorem dX6_init_126 : decode cX6_init 126 = .ok (.invokevirtual 49, 3) := by decide +kernel
theorem dX6_init_129 : decode cX6_init 129 = .ok (.aload_n 0, 1) := by decide +kernel
theorem dX6_init_130 : decode cX6_init 130 = .ok (.getfield 37, 3) := by decide +kernel
theorem dX6_init_133 : decode cX6_init 133 = .ok (.iconst 0, 1) := by decide +kernel
theorem dX6_init_134 : decode cX6_init 134 = .ok (.iconst 1, 1) := by decide +kernel
theorem dX6_init_135 : decode cX6_init 135 = .ok (.iastore, 1) := by decide +kernel
theorem dX6_init_136 : decode cX6_init 136 = .ok (.aload_n 0, 1) := by decide +kernel
theorem dX6_init_137 : decode cX6_init 137 = .ok (.getfield 37, 3) := by decide +kernel
theorem dX6_init_140 : decode cX6_init 140 = .ok (.iconst 1, 1) := by decide +kernel
theorem dX6_init_141 : decode cX6_init 141 = .ok (.bipush 9, 2) := by decide +kernel
theorem dX6_init_143 : decode cX6_init 143 = .ok (.iastore, 1) := by decide +kernel
theorem dX6_init_144 : decode cX6_init 144 = .ok (.aload_n 0, 1) := by decide +kernel
theorem dX6_init_145 : decode cX6_init 145 = .ok (.getfield 37, 3) := by decide +kernel
theorem dX6_init_148 : decode cX6_init 148 = .ok (.iconst 2, 1) := by decide +kernel
theorem dX6_init_149 : decode cX6_init 149 = .ok (.iconst 1, 1) := by decide +kernel
theorem dX6_init_150 : decode cX6_init 150 = .ok (.iastore, 1) := by decide +kernel
theorem dX6_init_151 : decode cX6_init 151 = .ok (.aload_n 0, 1) := by decide +kernel
theorem dX6_init_152 : decode cX6_init 152 = .ok (.iconst 3, 1) := by decide +kernel
theorem dX6_init_153 : decode cX6_init 153 = .ok (.putfield 53, 3) := by decide +kernel
theorem dX6_init_156 : decode cX6_init 156 = .ok (.aload_n 0, 1) := by decide +kernel
theorem dX6_init_157 : decode cX6_init 157 = .ok (.iconst 0, 1) := by decide +kernel
theorem dX6_init_158 : decode cX6_init 158 = .ok (.iconst 2, 1) := by decide +kernel
theorem dX6_init_159 : decode cX6_init 159 = .ok (.invokevirtual 57, 3) := by decide +kernel
theorem dX6_init_162 : decode cX6_init 162 = .ok (.aload_n 0, 1) := by decide +kernel
theorem dX6_init_163 : decode cX6_init 163 = .ok (.bipush 10, 2) := by decide +kernel
theorem dX6_init_165 : decode cX6_init 165 = .ok (.iconst 5, 1) := by decide +kernel
theorem dX6_init_166 : decode cX6_init 166 = .ok (.invokevirtual 57, 3) := by decide +kernel
theorem dX6_init_169 : decode cX6_init 169 = .ok (.aload_n 0, 1) := by decide +kernel
theorem dX6_init_170 : decode cX6_init 170 = .ok (.bipush 30, 2) := by decide +kernel
theorem dX6_init_172 : decode cX6_init 172 = .ok (.iconst 3, 1) := by decide +kernel
theorem dX6_init_173 : decode cX6_init 173 = .ok (.invokevirtual 57, 3) := by decide +kernel
theorem dX6_init_176 : decode cX6_init 176 = .ok (.aload_n 0, 1) := by decide +kernel
theorem dX6_init_177 : decode cX6_init 177 = .ok (.getfield 43, 3) := by decide +kernel
theorem dX6_init_180 : decode cX6_init 180 = .ok (.iconst 0, 1) := by decide +kernel
theorem dX6_init_181 : decode cX6_init 181 = .ok (.bipush 36, 2) := by decide +kernel
theorem dX6_init_183 : decode cX6_init 183 = .ok (.iastore, 1) := by decide +kernel
theorem dX6_init_184 : decode cX6_init 184 = .ok (.aload_n 0, 1) := by decide +kernel
theorem dX6_init_185 : decode cX6_init 185 = .ok (.getfield 43, 3) := by decide +kernel
theorem dX6_init_188 : decode cX6_init 188 = .ok (.iconst 1, 1) := by decide +kernel
theorem dX6_init_189 : decode cX6_init 189 = .ok (.bipush 60, 2) := by decide +kernel
theorem dX6_init_191 : decode cX6_init 191 = .ok (.iastore, 1) := by decide +kernel
theorem dX6_init_192 : decode cX6_init 192 = .ok (.aload_n 0, 1) := by decide +kernel
theorem dX6_init_193 : decode cX6_init 193 = .ok (.getfield 43, 3) := by decide +kernel
theorem dX6_init_196 : decode cX6_init 196 = .ok (.iconst 2, 1) := by decide +kernel
theorem dX6_init_197 : decode cX6_init 197 = .ok (.bipush 20, 2) := by decide +kernel
theorem dX6_init_199 : decode cX6_init 199 = .ok (.iastore, 1) := by decide +kernel
theorem dX6_init_200 : decode cX6_init 200 = .ok (.aload_n 0, 1) := by decide +kernel
theorem dX6_init_201 : decode cX6_init 201 = .ok (.getfield 43, 3) := by decide +kernel
theorem dX6_init_204 : decode cX6_init 204 = .ok (.iconst 3, 1) := by decide +kernel
theorem dX6_init_205 : decode cX6_init 205 = .ok (.bipush 50, 2) := by decide +kernel
theorem dX6_init_207 : decode cX6_init 207 = .ok (.iastore, 1) := by decide +kernel
theorem dX6_init_208 : decode cX6_init 208 = .ok (.aload_n 0, 1) := by decide +kernel
theorem dX6_init_209 : decode cX6_init 209 = .ok (.getfield 43, 3) := by decide +kernel
theorem dX6_init_212 : decode cX6_init 212 = .ok (.iconst 4, 1) := by decide +kernel
theorem dX6_init_213 : decode cX6_init 213 = .ok (.bipush 6, 2) := by decide +kernel
theorem dX6_init_215 : decode cX6_init 215 = .ok (.iastore, 1) := by decide +kernel
theorem dX6_init_216 : decode cX6_init 216 = .ok (.aload_n 0, 1) := by decide +kernel
theorem dX6_init_217 : decode cX6_init 217 = .ok (.getfield 43, 3) := by decide +kernel
theorem dX6_init_220 : decode cX6_init 220 = .ok (.iconst 5, 1) := by decide +kernel
theorem dX6_init_221 : decode cX6_init 221 = .ok (.bipush 9, 2) := by decide +kernel
theorem dX6_init_223 : decode cX6_init 223 = .ok (.iastore, 1) := by decide +kernel
theorem dX6_init_224 : decode cX6_init 224 = .ok (.aload_n 0, 1) := by decide +kernel
theorem dX6_init_225 : decode cX6_init 225 = .ok (.invokevirtual 61, 3) := by decide +kernel
theorem dX6_init_228 : decode cX6_init 228 = .ok (.return_, 1) := by decide +kernel
theorem dX6_cavityOf_0 : decode cX6_cavityOf 0 = .ok (.aload_n 0, 1) := by decide +kernel
theorem dX6_cavityOf_1 : decode cX6_cavityOf 1 = .ok (.getfield 34, 3) := by decide +kernel
theorem dX6_cavityOf_4 : decode cX6_cavityOf 4 = .ok (.iconst 3, 1) := by decide +kernel
theorem dX6_cavityOf_5 : decode cX6_cavityOf 5 = .ok (.aload_n 0, 1) := by decide +kernel
theorem dX6_cavityOf_6 : decode cX6_cavityOf 6 = .ok (.getfield 64, 3) := by decide +kernel
theorem dX6_cavityOf_9 : decode cX6_cavityOf 9 = .ok (.imul, 1) := by decide +kernel
theorem dX6_cavityOf_10 : decode cX6_cavityOf 10 = .ok (.iload_n 1, 1) := by decide +kernel
theorem dX6_cavityOf_11 : decode cX6_cavityOf 11 = .ok (.iastore, 1) := by decide +kernel
theorem dX6_cavityOf_12 : decode cX6_cavityOf 12 = .ok (.aload_n 0, 1) := by decide +kernel
theorem dX6_cavityOf_13 : decode cX6_cavityOf 13 = .ok (.getfield 34, 3) := by decide +kernel
theorem dX6_cavityOf_16 : decode cX6_cavityOf 16 = .ok (.iconst 3, 1) := by decide +kernel
theorem dX6_cavityOf_17 : decode cX6_cavityOf 17 = .ok (.aload_n 0, 1) := by decide +kernel
theorem dX6_cavityOf_18 : decode cX6_cavityOf 18 = .ok (.getfield 64, 3) := by decide +kernel
theorem dX6_cavityOf_21 : decode cX6_cavityOf 21 = .ok (.imul, 1) := by decide +kernel
theorem dX6_cavityOf_22 : decode cX6_cavityOf 22 = .ok (.iconst 1, 1) := by decide +kernel
theorem dX6_cavityOf_23 : decode cX6_cavityOf 23 = .ok (.iadd, 1) := by decide +kernel
theorem dX6_cavityOf_24 : decode cX6_cavityOf 24 = .ok (.iload_n 2, 1) := by decide +kernel
theorem dX6_cavityOf_25 : decode cX6_cavityOf 25 = .ok (.iastore, 1) := by decide +kernel
theorem dX6_cavityOf_26 : decode cX6_cavityOf 26 = .ok (.aload_n 0, 1) := by decide +kernel
theorem dX6_cavityOf_27 : decode cX6_cavityOf 27 = .ok (.getfield 34, 3) := by decide +kernel
theorem dX6_cavityOf_30 : decode cX6_cavityOf 30 = .ok (.iconst 3, 1) := by decide +kernel
theorem dX6_cavityOf_31 : decode cX6_cavityOf 31 = .ok (.aload_n 0, 1) := by decide +kernel
theorem dX6_cavityOf_32 : decode cX6_cavityOf 32 = .ok (.getfield 64, 3) := by decide +kernel
theorem dX6_cavityOf_35 : decode cX6_cavityOf 35 = .ok (.imul, 1) := by decide +kernel
theorem dX6_cavityOf_36 : decode cX6_cavityOf 36 = .ok (.iconst 2, 1) := by decide +kernel
theorem dX6_cavityOf_37 : decode cX6_cavityOf 37 = .ok (.iadd, 1) := by decide +kernel
theorem dX6_cavityOf_38 : decode cX6_cavityOf 38 = .ok (.iload_n 3, 1) := by decide +kernel
theorem dX6_cavityOf_39 : decode cX6_cavityOf 39 = .ok (.iastore, 1) := by decide +kernel
theorem dX6_cavityOf_40 : decode cX6_cavityOf 40 = .ok (.aload_n 0, 1) := by decide +kernel
theorem dX6_cavityOf_41 : decode cX6_cavityOf 41 = .ok (.dup, 1) := by decide +kernel
theorem dX6_cavityOf_42 : decode cX6_cavityOf 42 = .ok (.getfield 64, 3) := by decide +kernel
theorem dX6_cavityOf_45 : decode cX6_cavityOf 45 = .ok (.iconst 1, 1) := by decide +kernel
theorem dX6_cavityOf_46 : decode cX6_cavityOf 46 = .ok (.iadd, 1) := by decide +kernel
theorem dX6_cavityOf_47 : decode cX6_cavityOf 47 = .ok (.putfield 64, 3) := by decide +kernel
theorem dX6_cavityOf_50 : decode cX6_cavityOf 50 = .ok (.return_, 1) := by decide +kernel
theorem dX6_stageOf_0 : decode cX6_stageOf 0 = .ok (.aload_n 0, 1) := by decide +kernel
theorem dX6_stageOf_1 : decode cX6_stageOf 1 = .ok (.getfield 40, 3) := by decide +kernel
theorem dX6_stageOf_4 : decode cX6_stageOf 4 = .ok (.iconst 2, 1) := by decide +kernel
theorem dX6_stageOf_5 : decode cX6_stageOf 5 = .ok (.aload_n 0, 1) := by decide +kernel
theorem dX6_stageOf_6 : decode cX6_stageOf 6 = .ok (.getfield 67, 3) := by decide +kernel
theorem dX6_stageOf_9 : decode cX6_stageOf 9 = .ok (.imul, 1) := by decide +kernel
theorem dX6_stageOf_10 : decode cX6_stageOf 10 = .ok (.iload_n 1, 1) := by decide +kernel
theorem dX6_stageOf_11 : decode cX6_stageOf 11 = .ok (.iastore, 1) := by decide +kernel
theorem dX6_stageOf_12 : decode cX6_stageOf 12 = .ok (.aload_n 0, 1) := by decide +kernel
theorem dX6_stageOf_13 : decode cX6_stageOf 13 = .ok (.getfield 40, 3) := by decide +kernel
theorem dX6_stageOf_16 : decode cX6_stageOf 16 = .ok (.iconst 2, 1) := by decide +kernel
theorem dX6_stageOf_17 : decode cX6_stageOf 17 = .ok (.aload_n 0, 1) := by decide +kernel
theorem dX6_stageOf_18 : decode cX6_stageOf 18 = .ok (.getfield 67, 3) := by decide +kernel
theorem dX6_stageOf_21 : decode cX6_stageOf 21 = .ok (.imul, 1) := by decide +kernel
theorem dX6_stageOf_22 : decode cX6_stageOf 22 = .ok (.iconst 1, 1) := by decide +kernel
theorem dX6_stageOf_23 : decode cX6_stageOf 23 = .ok (.iadd, 1) := by decide +kernel
theorem dX6_stageOf_24 : decode cX6_stageOf 24 = .ok (.iload_n 2, 1) := by decide +kernel
theorem dX6_stageOf_25 : decode cX6_stageOf 25 = .ok (.iastore, 1) := by decide +kernel
theorem dX6_stageOf_26 : decode cX6_stageOf 26 = .ok (.aload_n 0, 1) := by decide +kernel
theorem dX6_stageOf_27 : decode cX6_stageOf 27 = .ok (.dup, 1) := by decide +kernel
theorem dX6_stageOf_28 : decode cX6_stageOf 28 = .ok (.getfield 67, 3) := by decide +kernel
theorem dX6_stageOf_31 : decode cX6_stageOf 31 = .ok (.iconst 1, 1) := by decide +kernel
theorem dX6_stageOf_32 : decode cX6_stageOf 32 = .ok (.iadd, 1) := by decide +kernel
theorem dX6_stageOf_33 : decode cX6_stageOf 33 = .ok (.putfield 67, 3) := by decide +kernel
theorem dX6_stageOf_36 : decode cX6_stageOf 36 = .ok (.return_, 1) := by decide +kernel
theorem dX6_isIn_0 : decode cX6_isIn 0 = .ok (.iload_n 0, 1) := by decide +kernel
theorem dX6_isIn_1 : decode cX6_isIn 1 = .ok (.iload_n 1, 1) := by decide +kernel
theorem dX6_isIn_2 : decode cX6_isIn 2 = .ok (.if_icmp .lt 12, 3) := by decide +kernel
theorem dX6_isIn_5 : decode cX6_isIn 5 = .ok (.iload_n 0, 1) := by decide +kernel
theorem dX6_isIn_6 : decode cX6_isIn 6 = .ok (.iload_n 2, 1) := by decide +kernel
theorem dX6_isIn_7 : decode cX6_isIn 7 = .ok (.if_icmp .gt 7, 3) := by decide +kernel
theorem dX6_isIn_10 : decode cX6_isIn 10 = .ok (.iconst 1, 1) := by decide +kernel
theorem dX6_isIn_11 : decode cX6_isIn 11 = .ok (.goto 4, 3) := by decide +kernel
theorem dX6_isIn_14 : decode cX6_isIn 14 = .ok (.iconst 0, 1) := by decide +kernel
theorem dX6_isIn_15 : decode cX6_isIn 15 = .ok (.ireturn, 1) := by decide +kernel
theorem dX6_clears_0 : decode cX6_clears 0 = .ok (.aload_n 0, 1) := by decide +kernel
theorem dX6_clears_1 : decode cX6_clears 1 = .ok (.iconst 0, 1) := by decide +kernel
theorem dX6_clears_2 : decode cX6_clears 2 = .ok (.putfield 64, 3) := by decide +kernel
theorem dX6_clears_5 : decode cX6_clears 5 = .ok (.aload_n 0, 1) := by decide +kernel
theorem dX6_clears_6 : decode cX6_clears 6 = .ok (.iconst 0, 1) := by decide +kernel
theorem dX6_clears_7 : decode cX6_clears 7 = .ok (.putfield 53, 3) := by decide +kernel
theorem dX6_clears_10 : decode cX6_clears 10 = .ok (.aload_n 0, 1) := by decide +kernel
theorem dX6_clears_11 : decode cX6_clears 11 = .ok (.iconst 0, 1) := by decide +kernel
theorem dX6_clears_12 : decode cX6_clears 12 = .ok (.putfield 67, 3) := by decide +kernel
theorem dX6_clears_15 : decode cX6_clears 15 = .ok (.aload_n 0, 1) := by decide +kernel
theorem dX6_clears_16 : decode cX6_clears 16 = .ok (.getfield 43, 3) := by decide +kernel
theorem dX6_clears_19 : decode cX6_clears 19 = .ok (.iconst 0, 1) := by decide +kernel
theorem dX6_clears_20 : decode cX6_clears 20 = .ok (.bipush 80, 2) := by decide +kernel
theorem dX6_clears_22 : decode cX6_clears 22 = .ok (.iastore, 1) := by decide +kernel
theorem dX6_clears_23 : decode cX6_clears 23 = .ok (.aload_n 0, 1) := by decide +kernel
theorem dX6_clears_24 : decode cX6_clears 24 = .ok (.getfield 43, 3) := by decide +kernel
theorem dX6_clears_27 : decode cX6_clears 27 = .ok (.iconst 1, 1) := by decide +kernel
theorem dX6_clears_28 : decode cX6_clears 28 = .ok (.bipush 90, 2) := by decide +kernel
theorem dX6_clears_30 : decode cX6_clears 30 = .ok (.iastore, 1) := by decide +kernel
theorem dX6_clears_31 : decode cX6_clears 31 = .ok (.aload_n 0, 1) := by decide +kernel
theorem dX6_clears_32 : decode cX6_clears 32 = .ok (.getfield 43, 3) := by decide +kernel
theorem dX6_clears_35 : decode cX6_clears 35 = .ok (.iconst 2, 1) := by decide +kernel
theorem dX6_clears_36 : decode cX6_clears 36 = .ok (.bipush 30, 2) := by decide +kernel
theorem dX6_clears_38 : decode cX6_clears 38 = .ok (.iastore, 1) := by decide +kernel
theorem dX6_clears_39 : decode cX6_clears 39 = .ok (.aload_n 0, 1) := by decide +kernel
theorem dX6_clears_40 : decode cX6_clears 40 = .ok (.getfield 43, 3) := by decide +kernel
theorem dX6_clears_43 : decode cX6_clears 43 = .ok (.iconst 3, 1) := by decide +kernel
theorem dX6_clears_44 : decode cX6_clears 44 = .ok (.bipush 40, 2) := by decide +kernel
theorem dX6_clears_46 : decode cX6_clears 46 = .ok (.iastore, 1) := by decide +kernel
theorem dX6_clears_47 : decode cX6_clears 47 = .ok (.aload_n 0, 1) := by decide +kernel
theorem dX6_clears_48 : decode cX6_clears 48 = .ok (.getfield 43, 3) := by decide +kernel
theorem dX6_clears_51 : decode cX6_clears 51 = .ok (.iconst 4, 1) := by decide +kernel
theorem dX6_clears_52 : decode cX6_clears 52 = .ok (.iconst 5, 1) := by decide +kernel
theorem dX6_clears_53 : decode cX6_clears 53 = .ok (.iastore, 1) := by decide +kernel
theorem dX6_clears_54 : decode cX6_clears 54 = .ok (.aload_n 0, 1) := by decide +kernel
theorem dX6_clears_55 : decode cX6_clears 55 = .ok (.getfield 43, 3) := by decide +kernel
theorem dX6_clears_58 : decode cX6_clears 58 = .ok (.iconst 5, 1) := by decide +kernel
theorem dX6_clears_59 : decode cX6_clears 59 = .ok (.bipush 8, 2) := by decide +kernel
theorem dX6_clears_61 : decode cX6_clears 61 = .ok (.iastore, 1) := by decide +kernel
theorem dX6_clears_62 : decode cX6_clears 62 = .ok (.return_, 1) := by decide +kernel
theorem dX6_takes_0 : decode cX6_takes 0 = .ok (.aload_n 0, 1) := by decide +kernel
theorem dX6_takes_1 : decode cX6_takes 1 = .ok (.aload_n 0, 1) := by decide +kernel
theorem dX6_takes_2 : decode cX6_takes 2 = .ok (.getfield 64, 3) := by decide +kernel
theorem dX6_takes_5 : decode cX6_takes 5 = .ok (.putfield 70, 3) := by decide +kernel
theorem dX6_takes_8 : decode cX6_takes 8 = .ok (.aload_n 0, 1) := by decide +kernel
theorem dX6_takes_9 : decode cX6_takes 9 = .ok (.aload_n 0, 1) := by decide +kernel
theorem dX6_takes_10 : decode cX6_takes 10 = .ok (.getfield 53, 3) := by decide +kernel
theorem dX6_takes_13 : decode cX6_takes 13 = .ok (.putfield 73, 3) := by decide +kernel
theorem dX6_takes_16 : decode cX6_takes 16 = .ok (.aload_n 0, 1) := by decide +kernel
theorem dX6_takes_17 : decode cX6_takes 17 = .ok (.aload_n 0, 1) := by decide +kernel
theorem dX6_takes_18 : decode cX6_takes 18 = .ok (.getfield 67, 3) := by decide +kernel
theorem dX6_takes_21 : decode cX6_takes 21 = .ok (.putfield 76, 3) := by decide +kernel
theorem dX6_takes_24 : decode cX6_takes 24 = .ok (.iconst 0, 1) := by decide +kernel
theorem dX6_takes_25 : decode cX6_takes 25 = .ok (.istore_n 1, 1) := by decide +kernel
theorem dX6_takes_26 : decode cX6_takes 26 = .ok (.iload_n 1, 1) := by decide +kernel
theorem dX6_takes_27 : decode cX6_takes 27 = .ok (.sipush 1155, 3) := by decide +kernel
theorem dX6_takes_30 : decode cX6_takes 30 = .ok (.if_icmp .ge 16, 3) := by decide +kernel
theorem dX6_takes_33 : decode cX6_takes 33 = .ok (.aload_n 0, 1) := by decide +kernel
theorem dX6_takes_34 : decode cX6_takes 34 = .ok (.getfield 25, 3) := by decide +kernel
theorem dX6_takes_37 : decode cX6_takes 37 = .ok (.iload_n 1, 1) := by decide +kernel
theorem dX6_takes_38 : decode cX6_takes 38 = .ok (.iconst 0, 1) := by decide +kernel
theorem dX6_takes_39 : decode cX6_takes 39 = .ok (.iastore, 1) := by decide +kernel
theorem dX6_takes_40 : decode cX6_takes 40 = .ok (.iinc 1 1, 3) := by decide +kernel
theorem dX6_takes_43 : decode cX6_takes 43 = .ok (.goto (-17), 3) := by decide +kernel
theorem dX6_takes_46 : decode cX6_takes 46 = .ok (.iconst 0, 1) := by decide +kernel
theorem dX6_takes_47 : decode cX6_takes 47 = .ok (.istore_n 1, 1) := by decide +kernel
theorem dX6_takes_48 : decode cX6_takes 48 = .ok (.iload_n 1, 1) := by decide +kernel
theorem dX6_takes_49 : decode cX6_takes 49 = .ok (.aload_n 0, 1) := by decide +kernel
theorem dX6_takes_50 : decode cX6_takes 50 = .ok (.getfield 70, 3) := by decide +kernel
theorem dX6_takes_53 : decode cX6_takes 53 = .ok (.if_icmp .ge 59, 3) := by decide +kernel
theorem dX6_takes_56 : decode cX6_takes 56 = .ok (.aload_n 0, 1) := by decide +kernel
theorem dX6_takes_57 : decode cX6_takes 57 = .ok (.getfield 13, 3) := by decide +kernel
theorem dX6_takes_60 : decode cX6_takes 60 = .ok (.iload_n 1, 1) := by decide +kernel
theorem dX6_takes_61 : decode cX6_takes 61 = .ok (.aload_n 0, 1) := by decide +kernel
theorem dX6_takes_62 : decode cX6_takes 62 = .ok (.getfield 34, 3) := by decide +kernel
theorem dX6_takes_65 : decode cX6_takes 65 = .ok (.iconst 3, 1) := by decide +kernel
theorem dX6_takes_66 : decode cX6_takes 66 = .ok (.iload_n 1, 1) := by decide +kernel
theorem dX6_takes_67 : decode cX6_takes 67 = .ok (.imul, 1) := by decide +kernel
theorem dX6_takes_68 : decode cX6_takes 68 = .ok (.iaload, 1) := by decide +kernel
theorem dX6_takes_69 : decode cX6_takes 69 = .ok (.iastore, 1) := by decide +kernel
theorem dX6_takes_70 : decode cX6_takes 70 = .ok (.aload_n 0, 1) := by decide +kernel
theorem dX6_takes_71 : decode cX6_takes 71 = .ok (.getfield 25, 3) := by decide +kernel
theorem dX6_takes_74 : decode cX6_takes 74 = .ok (.sipush 1139, 3) := by decide +kernel
theorem dX6_takes_77 : decode cX6_takes 77 = .ok (.iload_n 1, 1) := by decide +kernel
theorem dX6_takes_78 : decode cX6_takes 78 = .ok (.iadd, 1) := by decide +kernel
theorem dX6_takes_79 : decode cX6_takes 79 = .ok (.aload_n 0, 1) := by decide +kernel
theorem dX6_takes_80 : decode cX6_takes 80 = .ok (.getfield 34, 3) := by decide +kernel
theorem dX6_takes_83 : decode cX6_takes 83 = .ok (.iconst 3, 1) := by decide +kernel
theorem dX6_takes_84 : decode cX6_takes 84 = .ok (.iload_n 1, 1) := by decide +kernel
theorem dX6_takes_85 : decode cX6_takes 85 = .ok (.imul, 1) := by decide +kernel
theorem dX6_takes_86 : decode cX6_takes 86 = .ok (.iconst 1, 1) := by decide +kernel
theorem dX6_takes_87 : decode cX6_takes 87 = .ok (.iadd, 1) := by decide +kernel
theorem dX6_takes_88 : decode cX6_takes 88 = .ok (.iaload, 1) := by decide +kernel
theorem dX6_takes_89 : decode cX6_takes 89 = .ok (.iastore, 1) := by decide +kernel
theorem dX6_takes_90 : decode cX6_takes 90 = .ok (.aload_n 0, 1) := by decide +kernel
theorem dX6_takes_91 : decode cX6_takes 91 = .ok (.getfield 16, 3) := by decide +kernel
theorem dX6_takes_94 : decode cX6_takes 94 = .ok (.iload_n 1, 1) := by decide +kernel
theorem dX6_takes_95 : decode cX6_takes 95 = .ok (.aload_n 0, 1) := by decide +kernel
theorem dX6_takes_96 : decode cX6_takes 96 = .ok (.getfield 34, 3) := by decide +kernel
theorem dX6_takes_99 : decode cX6_takes 99 = .ok (.iconst 3, 1) := by decide +kernel
theorem dX6_takes_100 : decode cX6_takes 100 = .ok (.iload_n 1, 1) := by decide +kernel
theorem dX6_takes_101 : decode cX6_takes 101 = .ok (.imul, 1) := by decide +kernel
theorem dX6_takes_102 : decode cX6_takes 102 = .ok (.iconst 2, 1) := by decide +kernel
theorem dX6_takes_103 : decode cX6_takes 103 = .ok (.iadd, 1) := by decide +kernel
theorem dX6_takes_104 : decode cX6_takes 104 = .ok (.iaload, 1) := by decide +kernel
theorem dX6_takes_105 : decode cX6_takes 105 = .ok (.iastore, 1) := by decide +kernel
theorem dX6_takes_106 : decode cX6_takes 106 = .ok (.iinc 1 1, 3) := by decide +kernel
theorem dX6_takes_109 : decode cX6_takes 109 = .ok (.goto (-61), 3) := by decide +kernel
theorem dX6_takes_112 : decode cX6_takes 112 = .ok (.iconst 0, 1) := by decide +kernel
theorem dX6_takes_113 : decode cX6_takes 113 = .ok (.istore_n 1, 1) := by decide +kernel
theorem dX6_takes_114 : decode cX6_takes 114 = .ok (.iload_n 1, 1) := by decide +kernel
theorem dX6_takes_115 : decode cX6_takes 115 = .ok (.aload_n 0, 1) := by decide +kernel
theorem dX6_takes_116 : decode cX6_takes 116 = .ok (.getfield 73, 3) := by decide +kernel
theorem dX6_takes_119 : decode cX6_takes 119 = .ok (.if_icmp .ge 37, 3) := by decide +kernel
theorem dX6_takes_122 : decode cX6_takes 122 = .ok (.aload_n 0, 1) := by decide +kernel
theorem dX6_takes_123 : decode cX6_takes 123 = .ok (.getfield 19, 3) := by decide +kernel
theorem dX6_takes_126 : decode cX6_takes 126 = .ok (.iload_n 1, 1) := by decide +kernel
theorem dX6_takes_127 : decode cX6_takes 127 = .ok (.aload_n 0, 1) := by decide +kernel
theorem dX6_takes_128 : decode cX6_takes 128 = .ok (.getfield 37, 3) := by decide +kernel
theorem dX6_takes_131 : decode cX6_takes 131 = .ok (.iload_n 1, 1) := by decide +kernel
theorem dX6_takes_132 : decode cX6_takes 132 = .ok (.iaload, 1) := by decide +kernel
theorem dX6_takes_133 : decode cX6_takes 133 = .ok (.bipush 9, 2) := by decide +kernel
theorem dX6_takes_135 : decode cX6_takes 135 = .ok (.if_icmp .ne 8, 3) := by decide +kernel
theorem dX6_takes_138 : decode cX6_takes 138 = .ok (.bipush (-4), 2) := by decide +kernel
theorem dX6_takes_140 : decode cX6_takes 140 = .ok (.goto 9, 3) := by decide +kernel
theorem dX6_takes_143 : decode cX6_takes 143 = .ok (.aload_n 0, 1) := by decide +kernel
theorem dX6_takes_144 : decode cX6_takes 144 = .ok (.getfield 37, 3) := by decide +kernel
theorem dX6_takes_147 : decode cX6_takes 147 = .ok (.iload_n 1, 1) := by decide +kernel
theorem dX6_takes_148 : decode cX6_takes 148 = .ok (.iaload, 1) := by decide +kernel
theorem dX6_takes_149 : decode cX6_takes 149 = .ok (.iastore, 1) := by decide +kernel
theorem dX6_takes_150 : decode cX6_takes 150 = .ok (.iinc 1 1, 3) := by decide +kernel
theorem dX6_takes_153 : decode cX6_takes 153 = .ok (.goto (-39), 3) := by decide +kernel
theorem dX6_takes_156 : decode cX6_takes 156 = .ok (.iconst 0, 1) := by decide +kernel
theorem dX6_takes_157 : decode cX6_takes 157 = .ok (.istore_n 1, 1) := by decide +kernel
theorem dX6_takes_158 : decode cX6_takes 158 = .ok (.iload_n 1, 1) := by decide +kernel
theorem dX6_takes_159 : decode cX6_takes 159 = .ok (.aload_n 0, 1) := by decide +kernel
theorem dX6_takes_160 : decode cX6_takes 160 = .ok (.getfield 76, 3) := by decide +kernel
theorem dX6_takes_163 : decode cX6_takes 163 = .ok (.if_icmp .ge 43, 3) := by decide +kernel
theorem dX6_takes_166 : decode cX6_takes 166 = .ok (.aload_n 0, 1) := by decide +kernel
theorem dX6_takes_167 : decode cX6_takes 167 = .ok (.getfield 22, 3) := by decide +kernel
theorem dX6_takes_170 : decode cX6_takes 170 = .ok (.iload_n 1, 1) := by decide +kernel
theorem dX6_takes_171 : decode cX6_takes 171 = .ok (.aload_n 0, 1) := by decide +kernel
theorem dX6_takes_172 : decode cX6_takes 172 = .ok (.getfield 40, 3) := by decide +kernel
theorem dX6_takes_175 : decode cX6_takes 175 = .ok (.iconst 2, 1) := by decide +kernel
theorem dX6_takes_176 : decode cX6_takes 176 = .ok (.iload_n 1, 1) := by decide +kernel
theorem dX6_takes_177 : decode cX6_takes 177 = .ok (.imul, 1) := by decide +kernel
theorem dX6_takes_178 : decode cX6_takes 178 = .ok (.iaload, 1) := by decide +kernel
theorem dX6_takes_179 : decode cX6_takes 179 = .ok (.iastore, 1) := by decide +kernel
theorem dX6_takes_180 : decode cX6_takes 180 = .ok (.aload_n 0, 1) := by decide +kernel
theorem dX6_takes_181 : decode cX6_takes 181 = .ok (.getfield 25, 3) := by decide +kernel
theorem dX6_takes_184 : decode cX6_takes 184 = .ok (.sipush 1145, 3) := by decide +kernel
theorem dX6_takes_187 : decode cX6_takes 187 = .ok (.iload_n 1, 1) := by decide +kernel
theorem dX6_takes_188 : decode cX6_takes 188 = .ok (.iadd, 1) := by decide +kernel
theorem dX6_takes_189 : decode cX6_takes 189 = .ok (.aload_n 0, 1) := by decide +kernel
theorem dX6_takes_190 : decode cX6_takes 190 = .ok (.getfield 40, 3) := by decide +kernel
theorem dX6_takes_193 : decode cX6_takes 193 = .ok (.iconst 2, 1) := by decide +kernel
theorem dX6_takes_194 : decode cX6_takes 194 = .ok (.iload_n 1, 1) := by decide +kernel
theorem dX6_takes_195 : decode cX6_takes 195 = .ok (.imul, 1) := by decide +kernel
theorem dX6_takes_196 : decode cX6_takes 196 = .ok (.iconst 1, 1) := by decide +kernel
theorem dX6_takes_197 : decode cX6_takes 197 = .ok (.iadd, 1) := by decide +kernel
theorem dX6_takes_198 : decode cX6_takes 198 = .ok (.iaload, 1) := by decide +kernel
theorem dX6_takes_199 : decode cX6_takes 199 = .ok (.iastore, 1) := by decide +kernel
theorem dX6_takes_200 : decode cX6_takes 200 = .ok (.iinc 1 1, 3) := by decide +kernel
theorem dX6_takes_203 : decode cX6_takes 203 = .ok (.goto (-45), 3) := by decide +kernel
theorem dX6_takes_206 : decode cX6_takes 206 = .ok (.iconst 0, 1) := by decide +kernel
theorem dX6_takes_207 : decode cX6_takes 207 = .ok (.istore_n 1, 1) := by decide +kernel
theorem dX6_takes_208 : decode cX6_takes 208 = .ok (.iload_n 1, 1) := by decide +kernel
theorem dX6_takes_209 : decode cX6_takes 209 = .ok (.bipush 6, 2) := by decide +kernel
theorem dX6_takes_211 : decode cX6_takes 211 = .ok (.if_icmp .ge 25, 3) := by decide +kernel
theorem dX6_takes_214 : decode cX6_takes 214 = .ok (.aload_n 0, 1) := by decide +kernel
theorem dX6_takes_215 : decode cX6_takes 215 = .ok (.getfield 25, 3) := by decide +kernel
theorem dX6_takes_218 : decode cX6_takes 218 = .ok (.sipush 1149, 3) := by decide +kernel
theorem dX6_takes_221 : decode cX6_takes 221 = .ok (.iload_n 1, 1) := by decide +kernel
theorem dX6_takes_222 : decode cX6_takes 222 = .ok (.iadd, 1) := by decide +kernel
theorem dX6_takes_223 : decode cX6_takes 223 = .ok (.aload_n 0, 1) := by decide +kernel
theorem dX6_takes_224 : decode cX6_takes 224 = .ok (.getfield 43, 3) := by decide +kernel
theorem dX6_takes_227 : decode cX6_takes 227 = .ok (.iload_n 1, 1) := by decide +kernel
theorem dX6_takes_228 : decode cX6_takes 228 = .ok (.iaload, 1) := by decide +kernel
theorem dX6_takes_229 : decode cX6_takes 229 = .ok (.iastore, 1) := by decide +kernel
theorem dX6_takes_230 : decode cX6_takes 230 = .ok (.iinc 1 1, 3) := by decide +kernel
theorem dX6_takes_233 : decode cX6_takes 233 = .ok (.goto (-25), 3) := by decide +kernel
theorem dX6_takes_236 : decode cX6_takes 236 = .ok (.aload_n 0, 1) := by decide +kernel
theorem dX6_takes_237 : decode cX6_takes 237 = .ok (.getfield 25, 3) := by decide +kernel
theorem dX6_takes_240 : decode cX6_takes 240 = .ok (.sipush 1018, 3) := by decide +kernel
theorem dX6_takes_243 : decode cX6_takes 243 = .ok (.iconst 2, 1) := by decide +kernel
theorem dX6_takes_244 : decode cX6_takes 244 = .ok (.iastore, 1) := by decide +kernel
theorem dX6_takes_245 : decode cX6_takes 245 = .ok (.aload_n 0, 1) := by decide +kernel
theorem dX6_takes_246 : decode cX6_takes 246 = .ok (.iconst 0, 1) := by decide +kernel
theorem dX6_takes_247 : decode cX6_takes 247 = .ok (.putfield 79, 3) := by decide +kernel
theorem dX6_takes_250 : decode cX6_takes 250 = .ok (.return_, 1) := by decide +kernel
theorem dX6_letterAt_0 : decode cX6_letterAt 0 = .ok (.iload_n 1, 1) := by decide +kernel
theorem dX6_letterAt_1 : decode cX6_letterAt 1 = .ok (.aload_n 0, 1) := by decide +kernel
theorem dX6_letterAt_2 : decode cX6_letterAt 2 = .ok (.getfield 82, 3) := by decide +kernel
theorem dX6_letterAt_5 : decode cX6_letterAt 5 = .ok (.if_icmp .ge 12, 3) := by decide +kernel
theorem dX6_letterAt_8 : decode cX6_letterAt 8 = .ok (.aload_n 0, 1) := by decide +kernel
theorem dX6_letterAt_9 : decode cX6_letterAt 9 = .ok (.getfield 7, 3) := by decide +kernel
theorem dX6_letterAt_12 : decode cX6_letterAt 12 = .ok (.iload_n 1, 1) := by decide +kernel
theorem dX6_letterAt_13 : decode cX6_letterAt 13 = .ok (.iaload, 1) := by decide +kernel
theorem dX6_letterAt_14 : decode cX6_letterAt 14 = .ok (.goto 4, 3) := by decide +kernel
theorem dX6_letterAt_17 : decode cX6_letterAt 17 = .ok (.iconst 0, 1) := by decide +kernel
theorem dX6_letterAt_18 : decode cX6_letterAt 18 = .ok (.ireturn, 1) := by decide +kernel
set_option maxRecDepth 20000 in
theorem ggX6_number_X6_letterAt : GoodIn wsX6_number wsX6_letterAt := goodIn_r _ [8, 9, 3, 13, 14, 15, 16, 17, 18, 19, 20, 21, 22, 23, 24, 25, 26, 27, 28, 29, 30, 31, 32, 33, 34, 35] (by decide +kernel) (by decide +kernel)
set_option maxRecDepth 20000 in
theorem gX6_number_X6_letterAt : GoodIn wsX6_number (wsV RX6 91 RX6 yX6_letterAt wsX6_letterAt) := goodIn_app (goodIn_of _ (by decide +kernel)) ggX6_number_X6_letterAt
set_option maxRecDepth 20000 in
theorem ggX6_number_X6_isIn : GoodIn wsX6_number wsX6_isIn := goodIn_r _ [12] (by decide +kernel) (by decide +kernel)
set_option maxRecDepth 20000 in
theorem gX6_number_X6_isIn : GoodIn wsX6_number (va_wsS RX6 95 yX6_isIn wsX6_isIn) := goodIn_app (goodIn_of _ (by decide +kernel)) ggX6_number_X6_isIn
theorem dX6_number_0 : decode cX6_number 0 = .ok (.aload_n 0, 1) := by decide +kernel
theorem dX6_number_1 : decode cX6_number 1 = .ok (.iconst 0, 1) := by decide +kernel
theorem dX6_number_2 : decode cX6_number 2 = .ok (.putfield 85, 3) := by decide +kernel
theorem dX6_number_5 : decode cX6_number 5 = .ok (.aload_n 0, 1) := by decide +kernel
theorem dX6_number_6 : decode cX6_number 6 = .ok (.iload_n 1, 1) := by decide +kernel
theorem dX6_number_7 : decode cX6_number 7 = .ok (.putfield 88, 3) := by decide +kernel
theorem dX6_number_10 : decode cX6_number 10 = .ok (.aload_n 0, 1) := by decide +kernel
theorem dX6_number_11 : decode cX6_number 11 = .ok (.getfield 88, 3) := by decide +kernel
theorem dX6_number_14 : decode cX6_number 14 = .ok (.iload_n 1, 1) := by decide +kernel
theorem dX6_number_15 : decode cX6_number 15 = .ok (.iconst 2, 1) := by decide +kernel
theorem dX6_number_16 : decode cX6_number 16 = .ok (.iadd, 1) := by decide +kernel
theorem dX6_number_17 : decode cX6_number 17 = .ok (.if_icmp .ge 66, 3) := by decide +kernel
theorem dX6_number_20 : decode cX6_number 20 = .ok (.aload_n 0, 1) := by decide +kernel
theorem dX6_number_21 : decode cX6_number 21 = .ok (.aload_n 0, 1) := by decide +kernel
theorem dX6_number_22 : decode cX6_number 22 = .ok (.getfield 88, 3) := by decide +kernel
theorem dX6_number_25 : decode cX6_number 25 = .ok (.invokevirtual 91, 3) := by decide +kernel
theorem dX6_number_28 : decode cX6_number 28 = .ok (.bipush 48, 2) := by decide +kernel
theorem dX6_number_30 : decode cX6_number 30 = .ok (.if_icmp .lt 53, 3) := by decide +kernel
theorem dX6_number_33 : decode cX6_number 33 = .ok (.aload_n 0, 1) := by decide +kernel
theorem dX6_number_34 : decode cX6_number 34 = .ok (.aload_n 0, 1) := by decide +kernel
theorem dX6_number_35 : decode cX6_number 35 = .ok (.getfield 88, 3) := by decide +kernel
theorem dX6_number_38 : decode cX6_number 38 = .ok (.invokevirtual 91, 3) := by decide +kernel
theorem dX6_number_41 : decode cX6_number 41 = .ok (.bipush 57, 2) := by decide +kernel
theorem dX6_number_43 : decode cX6_number 43 = .ok (.if_icmp .gt 40, 3) := by decide +kernel
theorem dX6_number_46 : decode cX6_number 46 = .ok (.aload_n 0, 1) := by decide +kernel
theorem dX6_number_47 : decode cX6_number 47 = .ok (.bipush 10, 2) := by decide +kernel
theorem dX6_number_49 : decode cX6_number 49 = .ok (.aload_n 0, 1) := by decide +kernel
theorem dX6_number_50 : decode cX6_number 50 = .ok (.getfield 85, 3) := by decide +kernel
theorem dX6_number_53 : decode cX6_number 53 = .ok (.imul, 1) := by decide +kernel
theorem dX6_number_54 : decode cX6_number 54 = .ok (.aload_n 0, 1) := by decide +kernel
theorem dX6_number_55 : decode cX6_number 55 = .ok (.getfield 7, 3) := by decide +kernel
theorem dX6_number_58 : decode cX6_number 58 = .ok (.aload_n 0, 1) := by decide +kernel
theorem dX6_number_59 : decode cX6_number 59 = .ok (.getfield 88, 3) := by decide +kernel
theorem dX6_number_62 : decode cX6_number 62 = .ok (.iaload, 1) := by decide +kernel
theorem dX6_number_63 : decode cX6_number 63 = .ok (.iadd, 1) := by decide +kernel
theorem dX6_number_64 : decode cX6_number 64 = .ok (.bipush 48, 2) := by decide +kernel
theorem dX6_number_66 : decode cX6_number 66 = .ok (.isub, 1) := by decide +kernel
theorem dX6_number_67 : decode cX6_number 67 = .ok (.putfield 85, 3) := by decide +kernel
theorem dX6_number_70 : decode cX6_number 70 = .ok (.aload_n 0, 1) := by decide +kernel
theorem dX6_number_71 : decode cX6_number 71 = .ok (.dup, 1) := by decide +kernel
theorem dX6_number_72 : decode cX6_number 72 = .ok (.getfield 88, 3) := by decide +kernel
theorem dX6_number_75 : decode cX6_number 75 = .ok (.iconst 1, 1) := by decide +kernel
theorem dX6_number_76 : decode cX6_number 76 = .ok (.iadd, 1) := by decide +kernel
theorem dX6_number_77 : decode cX6_number 77 = .ok (.putfield 88, 3) := by decide +kernel
theorem dX6_number_80 : decode cX6_number 80 = .ok (.goto (-70), 3) := by decide +kernel
theorem dX6_number_83 : decode cX6_number 83 = .ok (.aload_n 0, 1) := by decide +kernel
theorem dX6_number_84 : decode cX6_number 84 = .ok (.getfield 88, 3) := by decide +kernel
theorem dX6_number_87 : decode cX6_number 87 = .ok (.iload_n 1, 1) := by decide +kernel
theorem dX6_number_88 : decode cX6_number 88 = .ok (.if_icmp .le 19, 3) := by decide +kernel
theorem dX6_number_91 : decode cX6_number 91 = .ok (.aload_n 0, 1) := by decide +kernel
theorem dX6_number_92 : decode cX6_number 92 = .ok (.getfield 85, 3) := by decide +kernel
theorem dX6_number_95 : decode cX6_number 95 = .ok (.iload_n 2, 1) := by decide +kernel
theorem dX6_number_96 : decode cX6_number 96 = .ok (.iload_n 3, 1) := by decide +kernel
theorem dX6_number_97 : decode cX6_number 97 = .ok (.invokestatic 95, 3) := by decide +kernel
theorem dX6_number_100 : decode cX6_number 100 = .ok (.ifCond .eq 7, 3) := by decide +kernel
theorem dX6_number_103 : decode cX6_number 103 = .ok (.iconst 1, 1) := by decide +kernel
theorem dX6_number_104 : decode cX6_number 104 = .ok (.goto 4, 3) := by decide +kernel
theorem dX6_number_107 : decode cX6_number 107 = .ok (.iconst 0, 1) := by decide +kernel
theorem dX6_number_108 : decode cX6_number 108 = .ok (.ireturn, 1) := by decide +kernel
set_option maxRecDepth 20000 in
theorem ggX6_more_X6_letterAt : GoodIn wsX6_more wsX6_letterAt := goodIn_r _ [6, 7, 8, 17, 18, 19, 20, 21, 22, 23, 24, 25, 26, 27, 28, 29, 30, 31, 32, 33, 34, 35, 36, 37, 38, 39] (by decide +kernel) (by decide +kernel)
set_option maxRecDepth 20000 in
theorem gX6_more_X6_letterAt : GoodIn wsX6_more (wsV RX6 91 RX6 yX6_letterAt wsX6_letterAt) := goodIn_app (goodIn_of _ (by decide +kernel)) ggX6_more_X6_letterAt
set_option maxRecDepth 20000 in
theorem ggX6_more_X6_number : GoodIn wsX6_more wsX6_number := goodIn_r _ [12, 13, 1, 8, 2, 3, 4, 5, 6, 7, 14, 15, 16, 17, 18, 19, 20, 21, 22, 23, 24, 25, 26, 27, 28, 29, 30, 31, 32, 33, 34, 35, 36, 37, 38, 39] (by decide +kernel) (by decide +kernel)
set_option maxRecDepth 20000 in
theorem gX6_more_X6_number : GoodIn wsX6_more (wsV RX6 99 RX6 yX6_number wsX6_number) := goodIn_app (goodIn_of _ (by decide +kernel)) ggX6_more_X6_number
theorem dX6_more_0 : decode cX6_more 0 = .ok (.aload_n 0, 1) := by decide +kernel
theorem dX6_more_1 : decode cX6_more 1 = .ok (.aload_n 0, 1) := by decide +kernel
theorem dX6_more_2 : decode cX6_more 2 = .ok (.getfield 88, 3) := by decide +kernel
theorem dX6_more_5 : decode cX6_more 5 = .ok (.invokevirtual 91, 3) := by decide +kernel
theorem dX6_more_8 : decode cX6_more 8 = .ok (.bipush 44, 2) := by decide +kernel
theorem dX6_more_10 : decode cX6_more 10 = .ok (.if_icmp .ne 22, 3) := by decide +kernel
theorem dX6_more_13 : decode cX6_more 13 = .ok (.aload_n 0, 1) := by decide +kernel
theorem dX6_more_14 : decode cX6_more 14 = .ok (.aload_n 0, 1) := by decide +kernel
theorem dX6_more_15 : decode cX6_more 15 = .ok (.getfield 88, 3) := by decide +kernel
theorem dX6_more_18 : decode cX6_more 18 = .ok (.iconst 1, 1) := by decide +kernel
theorem dX6_more_19 : decode cX6_more 19 = .ok (.iadd, 1) := by decide +kernel
theorem dX6_more_20 : decode cX6_more 20 = .ok (.iload_n 1, 1) := by decide +kernel
theorem dX6_more_21 : decode cX6_more 21 = .ok (.iload_n 2, 1) := by decide +kernel
theorem dX6_more_22 : decode cX6_more 22 = .ok (.invokevirtual 99, 3) := by decide +kernel
theorem dX6_more_25 : decode cX6_more 25 = .ok (.ifCond .eq 7, 3) := by decide +kernel
theorem dX6_more_28 : decode cX6_more 28 = .ok (.iconst 1, 1) := by decide +kernel
theorem dX6_more_29 : decode cX6_more 29 = .ok (.goto 4, 3) := by decide +kernel
theorem dX6_more_32 : decode cX6_more 32 = .ok (.iconst 0, 1) := by decide +kernel
theorem dX6_more_33 : decode cX6_more 33 = .ok (.ireturn, 1) := by decide +kernel
set_option maxRecDepth 20000 in
theorem ggX6_readsCavity_X6_number : GoodIn wsX6_readsCavity wsX6_number := goodIn_r _ [7, 2, 8, 9, 10, 11, 12, 6, 13, 14, 15, 16, 17, 27, 28, 29, 30, 31, 32, 33, 34, 35, 36, 37, 38, 39, 40, 41, 42, 43, 44, 45, 46, 47, 48, 49] (by decide +kernel) (by decide +kernel)
set_option maxRecDepth 20000 in
theorem gX6_readsCavity_X6_number : GoodIn wsX6_readsCavity (wsV RX6 99 RX6 yX6_number wsX6_number) := goodIn_app (goodIn_of _ (by decide +kernel)) ggX6_readsCavity_X6_number
set_option maxRecDepth 20000 in
theorem ggX6_readsCavity_X6_more : GoodIn wsX6_readsCavity wsX6_more := goodIn_r _ [21, 8, 10, 11, 12, 6, 13, 14, 9, 3, 4, 5, 7, 2, 15, 16, 17, 27, 28, 29, 30, 31, 32, 33, 34, 35, 36, 37, 38, 39, 40, 41, 42, 43, 44, 45, 46, 47, 48, 49] (by decide +kernel) (by decide +kernel)
set_option maxRecDepth 20000 in
theorem gX6_readsCavity_X6_more : GoodIn wsX6_readsCavity (wsV RX6 102 RX6 yX6_more wsX6_more) := goodIn_app (goodIn_of _ (by decide +kernel)) ggX6_readsCavity_X6_more
set_option maxRecDepth 20000 in
theorem ggX6_readsCavity_X6_cavityOf : GoodIn wsX6_readsCavity wsX6_cavityOf := goodIn_r _ [25, 26, 1, 27, 28, 29, 30, 31, 32, 33, 34, 35, 36, 37, 38, 39, 40, 41, 42, 43, 44, 45, 46, 47, 48, 49] (by decide +kernel) (by decide +kernel)
set_option maxRecDepth 20000 in
theorem gX6_readsCavity_X6_cavityOf : GoodIn wsX6_readsCavity (wsV RX6 49 RX6 yX6_cavityOf wsX6_cavityOf) := goodIn_app (goodIn_of _ (by decide +kernel)) ggX6_readsCavity_X6_cavityOf
theorem dX6_readsCavity_0 : decode cX6_readsCavity 0 = .ok (.aload_n 0, 1) := by decide +kernel
theorem dX6_readsCavity_1 : decode cX6_readsCavity 1 = .ok (.getfield 64, 3) := by decide +kernel
theorem dX6_readsCavity_4 : decode cX6_readsCavity 4 = .ok (.bipush 6, 2) := by decide +kernel
theorem dX6_readsCavity_6 : decode cX6_readsCavity 6 = .ok (.if_icmp .eq 14, 3) := by decide +kernel
theorem dX6_readsCavity_9 : decode cX6_readsCavity 9 = .ok (.aload_n 0, 1) := by decide +kernel
theorem dX6_readsCavity_10 : decode cX6_readsCavity 10 = .ok (.iload_n 1, 1) := by decide +kernel
theorem dX6_readsCavity_11 : decode cX6_readsCavity 11 = .ok (.iconst 1, 1) := by decide +kernel
theorem dX6_readsCavity_12 : decode cX6_readsCavity 12 = .ok (.bipush 30, 2) := by decide +kernel
theorem dX6_readsCavity_14 : decode cX6_readsCavity 14 = .ok (.invokevirtual 99, 3) := by decide +kernel
theorem dX6_readsCavity_17 : decode cX6_readsCavity 17 = .ok (.ifCond .ne 5, 3) := by decide +kernel
theorem dX6_readsCavity_20 : decode cX6_readsCavity 20 = .ok (.iconst 0, 1) := by decide +kernel
theorem dX6_readsCavity_21 : decode cX6_readsCavity 21 = .ok (.ireturn, 1) := by decide +kernel
theorem dX6_readsCavity_22 : decode cX6_readsCavity 22 = .ok (.aload_n 0, 1) := by decide +kernel
theorem dX6_readsCavity_23 : decode cX6_readsCavity 23 = .ok (.getfield 85, 3) := by decide +kernel
theorem dX6_readsCavity_26 : decode cX6_readsCavity 26 = .ok (.istore_n 2, 1) := by decide +kernel
theorem dX6_readsCavity_27 : decode cX6_readsCavity 27 = .ok (.aload_n 0, 1) := by decide +kernel
theorem dX6_readsCavity_28 : decode cX6_readsCavity 28 = .ok (.iconst 1, 1) := by decide +kernel
theorem dX6_readsCavity_29 : decode cX6_readsCavity 29 = .ok (.bipush 9, 2) := by decide +kernel
theorem dX6_readsCavity_31 : decode cX6_readsCavity 31 = .ok (.invokevirtual 102, 3) := by decide +kernel
theorem dX6_readsCavity_34 : decode cX6_readsCavity 34 = .ok (.ifCond .ne 5, 3) := by decide +kernel
theorem dX6_readsCavity_37 : decode cX6_readsCavity 37 = .ok (.iconst 0, 1) := by decide +kernel
theorem dX6_readsCavity_38 : decode cX6_readsCavity 38 = .ok (.ireturn, 1) := by decide +kernel
theorem dX6_readsCavity_39 : decode cX6_readsCavity 39 = .ok (.aload_n 0, 1) := by decide +kernel
theorem dX6_readsCavity_40 : decode cX6_readsCavity 40 = .ok (.getfield 85, 3) := by decide +kernel
theorem dX6_readsCavity_43 : decode cX6_readsCavity 43 = .ok (.istore_n 3, 1) := by decide +kernel
theorem dX6_readsCavity_44 : decode cX6_readsCavity 44 = .ok (.aload_n 0, 1) := by decide +kernel
theorem dX6_readsCavity_45 : decode cX6_readsCavity 45 = .ok (.iconst 1, 1) := by decide +kernel
theorem dX6_readsCavity_46 : decode cX6_readsCavity 46 = .ok (.bipush 9, 2) := by decide +kernel
theorem dX6_readsCavity_48 : decode cX6_readsCavity 48 = .ok (.invokevirtual 102, 3) := by decide +kernel
theorem dX6_readsCavity_51 : decode cX6_readsCavity 51 = .ok (.istore 4, 2) := by decide +kernel
theorem dX6_readsCavity_53 : decode cX6_readsCavity 53 = .ok (.aload_n 0, 1) := by decide +kernel
theorem dX6_readsCavity_54 : decode cX6_readsCavity 54 = .ok (.iload_n 2, 1) := by decide +kernel
theorem dX6_readsCavity_55 : decode cX6_readsCavity 55 = .ok (.iload_n 3, 1) := by decide +kernel
theorem dX6_readsCavity_56 : decode cX6_readsCavity 56 = .ok (.aload_n 0, 1) := by decide +kernel
theorem dX6_readsCavity_57 : decode cX6_readsCavity 57 = .ok (.getfield 85, 3) := by decide +kernel
theorem dX6_readsCavity_60 : decode cX6_readsCavity 60 = .ok (.invokevirtual 49, 3) := by decide +kernel
theorem dX6_readsCavity_63 : decode cX6_readsCavity 63 = .ok (.iload 4, 2) := by decide +kernel
theorem dX6_readsCavity_65 : decode cX6_readsCavity 65 = .ok (.ireturn, 1) := by decide +kernel
set_option maxRecDepth 20000 in
theorem ggX6_readsCore_X6_number : GoodIn wsX6_readsCore wsX6_number := goodIn_r _ [8, 2, 9, 10, 11, 12, 13, 7, 14, 15, 16, 17, 18, 19, 20, 21, 22, 23, 24, 25, 26, 27, 28, 29, 30, 31, 32, 33, 34, 35, 36, 37, 38, 39, 40, 41] (by decide +kernel) (by decide +kernel)
set_option maxRecDepth 20000 in
theorem gX6_readsCore_X6_number : GoodIn wsX6_readsCore (wsV RX6 99 RX6 yX6_number wsX6_number) := goodIn_app (goodIn_of _ (by decide +kernel)) ggX6_readsCore_X6_number
theorem dX6_readsCore_0 : decode cX6_readsCore 0 = .ok (.aload_n 0, 1) := by decide +kernel
theorem dX6_readsCore_1 : decode cX6_readsCore 1 = .ok (.getfield 53, 3) := by decide +kernel
theorem dX6_readsCore_4 : decode cX6_readsCore 4 = .ok (.iconst 4, 1) := by decide +kernel
theorem dX6_readsCore_5 : decode cX6_readsCore 5 = .ok (.if_icmp .ge 35, 3) := by decide +kernel
theorem dX6_readsCore_8 : decode cX6_readsCore 8 = .ok (.aload_n 0, 1) := by decide +kernel
theorem dX6_readsCore_9 : decode cX6_readsCore 9 = .ok (.iload_n 1, 1) := by decide +kernel
theorem dX6_readsCore_10 : decode cX6_readsCore 10 = .ok (.iconst 0, 1) := by decide +kernel
theorem dX6_readsCore_11 : decode cX6_readsCore 11 = .ok (.bipush 9, 2) := by decide +kernel
theorem dX6_readsCore_13 : decode cX6_readsCore 13 = .ok (.invokevirtual 99, 3) := by decide +kernel
theorem dX6_readsCore_16 : decode cX6_readsCore 16 = .ok (.ifCond .eq 24, 3) := by decide +kernel
theorem dX6_readsCore_19 : decode cX6_readsCore 19 = .ok (.aload_n 0, 1) := by decide +kernel
theorem dX6_readsCore_20 : decode cX6_readsCore 20 = .ok (.getfield 85, 3) := by decide +kernel
theorem dX6_readsCore_23 : decode cX6_readsCore 23 = .ok (.iconst 4, 1) := by decide +kernel
theorem dX6_readsCore_24 : decode cX6_readsCore 24 = .ok (.if_icmp .lt 12, 3) := by decide +kernel
theorem dX6_readsCore_27 : decode cX6_readsCore 27 = .ok (.aload_n 0, 1) := by decide +kernel
theorem dX6_readsCore_28 : decode cX6_readsCore 28 = .ok (.getfield 85, 3) := by decide +kernel
theorem dX6_readsCore_31 : decode cX6_readsCore 31 = .ok (.bipush 9, 2) := by decide +kernel
theorem dX6_readsCore_33 : decode cX6_readsCore 33 = .ok (.if_icmp .ne 7, 3) := by decide +kernel
theorem dX6_readsCore_36 : decode cX6_readsCore 36 = .ok (.iconst 1, 1) := by decide +kernel
theorem dX6_readsCore_37 : decode cX6_readsCore 37 = .ok (.goto 4, 3) := by decide +kernel
theorem dX6_readsCore_40 : decode cX6_readsCore 40 = .ok (.iconst 0, 1) := by decide +kernel
theorem dX6_readsCore_41 : decode cX6_readsCore 41 = .ok (.istore_n 2, 1) := by decide +kernel
theorem dX6_readsCore_42 : decode cX6_readsCore 42 = .ok (.iload_n 2, 1) := by decide +kernel
theorem dX6_readsCore_43 : decode cX6_readsCore 43 = .ok (.ifCond .eq 26, 3) := by decide +kernel
theorem dX6_readsCore_46 : decode cX6_readsCore 46 = .ok (.aload_n 0, 1) := by decide +kernel
theorem dX6_readsCore_47 : decode cX6_readsCore 47 = .ok (.getfield 37, 3) := by decide +kernel
theorem dX6_readsCore_50 : decode cX6_readsCore 50 = .ok (.aload_n 0, 1) := by decide +kernel
theorem dX6_readsCore_51 : decode cX6_readsCore 51 = .ok (.getfield 53, 3) := by decide +kernel
theorem dX6_readsCore_54 : decode cX6_readsCore 54 = .ok (.aload_n 0, 1) := by decide +kernel
theorem dX6_readsCore_55 : decode cX6_readsCore 55 = .ok (.getfield 85, 3) := by decide +kernel
theorem dX6_readsCore_58 : decode cX6_readsCore 58 = .ok (.iastore, 1) := by decide +kernel
theorem dX6_readsCore_59 : decode cX6_readsCore 59 = .ok (.aload_n 0, 1) := by decide +kernel
theorem dX6_readsCore_60 : decode cX6_readsCore 60 = .ok (.dup, 1) := by decide +kernel
theorem dX6_readsCore_61 : decode cX6_readsCore 61 = .ok (.getfield 53, 3) := by decide +kernel
theorem dX6_readsCore_64 : decode cX6_readsCore 64 = .ok (.iconst 1, 1) := by decide +kernel
theorem dX6_readsCore_65 : decode cX6_readsCore 65 = .ok (.iadd, 1) := by decide +kernel
theorem dX6_readsCore_66 : decode cX6_readsCore 66 = .ok (.putfield 53, 3) := by decide +kernel
theorem dX6_readsCore_69 : decode cX6_readsCore 69 = .ok (.iload_n 2, 1) := by decide +kernel
theorem dX6_readsCore_70 : decode cX6_readsCore 70 = .ok (.ireturn, 1) := by decide +kernel
set_option maxRecDepth 20000 in
theorem ggX6_readsStage_X6_number : GoodIn wsX6_readsStage wsX6_number := goodIn_r _ [8, 3, 9, 10, 11, 12, 13, 7, 14, 15, 16, 17, 18, 27, 28, 29, 30, 31, 32, 33, 34, 35, 36, 37, 38, 39, 40, 41, 42, 43, 44, 45, 46, 47, 48, 49] (by decide +kernel) (by decide +kernel)
set_option maxRecDepth 20000 in
theorem gX6_readsStage_X6_number : GoodIn wsX6_readsStage (wsV RX6 99 RX6 yX6_number wsX6_number) := goodIn_app (goodIn_of _ (by decide +kernel)) ggX6_readsStage_X6_number
set_option maxRecDepth 20000 in
theorem ggX6_readsStage_X6_more : GoodIn wsX6_readsStage wsX6_more := goodIn_r _ [22, 9, 11, 12, 13, 7, 14, 15, 10, 4, 5, 6, 8, 3, 16, 17, 18, 27, 28, 29, 30, 31, 32, 33, 34, 35, 36, 37, 38, 39, 40, 41, 42, 43, 44, 45, 46, 47, 48, 49] (by decide +kernel) (by decide +kernel)
set_option maxRecDepth 20000 in
theorem gX6_readsStage_X6_more : GoodIn wsX6_readsStage (wsV RX6 102 RX6 yX6_more wsX6_more) := goodIn_app (goodIn_of _ (by decide +kernel)) ggX6_readsStage_X6_more
set_option maxRecDepth 20000 in
theorem ggX6_readsStage_X6_stageOf : GoodIn wsX6_readsStage wsX6_stageOf := goodIn_r _ [26, 2, 1, 27, 28, 29, 30, 31, 32, 33, 34, 35, 36, 37, 38, 39, 40, 41, 42, 43, 44, 45, 46, 47, 48, 49] (by decide +kernel) (by decide +kernel)
set_option maxRecDepth 20000 in
theorem gX6_readsStage_X6_stageOf : GoodIn wsX6_readsStage (wsV RX6 57 RX6 yX6_stageOf wsX6_stageOf) := goodIn_app (goodIn_of _ (by decide +kernel)) ggX6_readsStage_X6_stageOf
theorem dX6_readsStage_0 : decode cX6_readsStage 0 = .ok (.aload_n 0, 1) := by decide +kernel
theorem dX6_readsStage_1 : decode cX6_readsStage 1 = .ok (.getfield 67, 3) := by decide +kernel
theorem dX6_readsStage_4 : decode cX6_readsStage 4 = .ok (.ifCond .eq 11, 3) := by decide +kernel
theorem dX6_readsStage_7 : decode cX6_readsStage 7 = .ok (.aload_n 0, 1) := by decide +kernel
theorem dX6_readsStage_8 : decode cX6_readsStage 8 = .ok (.getfield 67, 3) := by decide +kernel
theorem dX6_readsStage_11 : decode cX6_readsStage 11 = .ok (.iconst 4, 1) := by decide +kernel
theorem dX6_readsStage_12 : decode cX6_readsStage 12 = .ok (.if_icmp .ne 7, 3) := by decide +kernel
theorem dX6_readsStage_15 : decode cX6_readsStage 15 = .ok (.iconst 0, 1) := by decide +kernel
theorem dX6_readsStage_16 : decode cX6_readsStage 16 = .ok (.goto 18, 3) := by decide +kernel
theorem dX6_readsStage_19 : decode cX6_readsStage 19 = .ok (.aload_n 0, 1) := by decide +kernel
theorem dX6_readsStage_20 : decode cX6_readsStage 20 = .ok (.getfield 40, 3) := by decide +kernel
theorem dX6_readsStage_23 : decode cX6_readsStage 23 = .ok (.iconst 2, 1) := by decide +kernel
theorem dX6_readsStage_24 : decode cX6_readsStage 24 = .ok (.aload_n 0, 1) := by decide +kernel
theorem dX6_readsStage_25 : decode cX6_readsStage 25 = .ok (.getfield 67, 3) := by decide +kernel
theorem dX6_readsStage_28 : decode cX6_readsStage 28 = .ok (.imul, 1) := by decide +kernel
theorem dX6_readsStage_29 : decode cX6_readsStage 29 = .ok (.iconst 2, 1) := by decide +kernel
theorem dX6_readsStage_30 : decode cX6_readsStage 30 = .ok (.isub, 1) := by decide +kernel
theorem dX6_readsStage_31 : decode cX6_readsStage 31 = .ok (.iaload, 1) := by decide +kernel
theorem dX6_readsStage_32 : decode cX6_readsStage 32 = .ok (.iconst 1, 1) := by decide +kernel
theorem dX6_readsStage_33 : decode cX6_readsStage 33 = .ok (.iadd, 1) := by decide +kernel
theorem dX6_readsStage_34 : decode cX6_readsStage 34 = .ok (.istore_n 2, 1) := by decide +kernel
theorem dX6_readsStage_35 : decode cX6_readsStage 35 = .ok (.aload_n 0, 1) := by decide +kernel
theorem dX6_readsStage_36 : decode cX6_readsStage 36 = .ok (.getfield 67, 3) := by decide +kernel
theorem dX6_readsStage_39 : decode cX6_readsStage 39 = .ok (.iconst 4, 1) := by decide +kernel
theorem dX6_readsStage_40 : decode cX6_readsStage 40 = .ok (.if_icmp .eq 25, 3) := by decide +kernel
theorem dX6_readsStage_43 : decode cX6_readsStage 43 = .ok (.aload_n 0, 1) := by decide +kernel
theorem dX6_readsStage_44 : decode cX6_readsStage 44 = .ok (.iload_n 1, 1) := by decide +kernel
theorem dX6_readsStage_45 : decode cX6_readsStage 45 = .ok (.iload_n 2, 1) := by decide +kernel
theorem dX6_readsStage_46 : decode cX6_readsStage 46 = .ok (.aload_n 0, 1) := by decide +kernel
theorem dX6_readsStage_47 : decode cX6_readsStage 47 = .ok (.getfield 67, 3) := by decide +kernel
theorem dX6_readsStage_50 : decode cX6_readsStage 50 = .ok (.ifCond .ne 7, 3) := by decide +kernel
theorem dX6_readsStage_53 : decode cX6_readsStage 53 = .ok (.iconst 0, 1) := by decide +kernel
theorem dX6_readsStage_54 : decode cX6_readsStage 54 = .ok (.goto 5, 3) := by decide +kernel
theorem dX6_readsStage_57 : decode cX6_readsStage 57 = .ok (.bipush 98, 2) := by decide +kernel
theorem dX6_readsStage_59 : decode cX6_readsStage 59 = .ok (.invokevirtual 99, 3) := by decide +kernel
theorem dX6_readsStage_62 : decode cX6_readsStage 62 = .ok (.ifCond .ne 5, 3) := by decide +kernel
theorem dX6_readsStage_65 : decode cX6_readsStage 65 = .ok (.iconst 0, 1) := by decide +kernel
theorem dX6_readsStage_66 : decode cX6_readsStage 66 = .ok (.ireturn, 1) := by decide +kernel
theorem dX6_readsStage_67 : decode cX6_readsStage 67 = .ok (.aload_n 0, 1) := by decide +kernel
theorem dX6_readsStage_68 : decode cX6_readsStage 68 = .ok (.getfield 85, 3) := by decide +kernel
theorem dX6_readsStage_71 : decode cX6_readsStage 71 = .ok (.istore_n 3, 1) := by decide +kernel
theorem dX6_readsStage_72 : decode cX6_readsStage 72 = .ok (.aload_n 0, 1) := by decide +kernel
theorem dX6_readsStage_73 : decode cX6_readsStage 73 = .ok (.iconst 1, 1) := by decide +kernel
theorem dX6_readsStage_74 : decode cX6_readsStage 74 = .ok (.bipush 9, 2) := by decide +kernel
theorem dX6_readsStage_76 : decode cX6_readsStage 76 = .ok (.invokevirtual 102, 3) := by decide +kernel
theorem dX6_readsStage_79 : decode cX6_readsStage 79 = .ok (.istore 4, 2) := by decide +kernel
theorem dX6_readsStage_81 : decode cX6_readsStage 81 = .ok (.aload_n 0, 1) := by decide +kernel
theorem dX6_readsStage_82 : decode cX6_readsStage 82 = .ok (.iload_n 3, 1) := by decide +kernel
theorem dX6_readsStage_83 : decode cX6_readsStage 83 = .ok (.aload_n 0, 1) := by decide +kernel
theorem dX6_readsStage_84 : decode cX6_readsStage 84 = .ok (.getfield 85, 3) := by decide +kernel
theorem dX6_readsStage_87 : decode cX6_readsStage 87 = .ok (.invokevirtual 57, 3) := by decide +kernel
theorem dX6_readsStage_90 : decode cX6_readsStage 90 = .ok (.iload 4, 2) := by decide +kernel
theorem dX6_readsStage_92 : decode cX6_readsStage 92 = .ok (.ireturn, 1) := by decide +kernel
theorem dX6_lowOf_0 : decode cX6_lowOf 0 = .ok (.iload_n 0, 1) := by decide +kernel
theorem dX6_lowOf_1 : decode cX6_lowOf 1 = .ok (.iconst 3, 1) := by decide +kernel
theorem dX6_lowOf_2 : decode cX6_lowOf 2 = .ok (.if_icmp .ge 7, 3) := by decide +kernel
theorem dX6_lowOf_5 : decode cX6_lowOf 5 = .ok (.iconst 1, 1) := by decide +kernel
theorem dX6_lowOf_6 : decode cX6_lowOf 6 = .ok (.goto 4, 3) := by decide +kernel
theorem dX6_lowOf_9 : decode cX6_lowOf 9 = .ok (.iconst 0, 1) := by decide +kernel
theorem dX6_lowOf_10 : decode cX6_lowOf 10 = .ok (.ireturn, 1) := by decide +kernel
theorem dX6_highOf_0 : decode cX6_highOf 0 = .ok (.iload_n 0, 1) := by decide +kernel
theorem dX6_highOf_1 : decode cX6_highOf 1 = .ok (.iconst 2, 1) := by decide +kernel
theorem dX6_highOf_2 : decode cX6_highOf 2 = .ok (.if_icmp .ne 8, 3) := by decide +kernel
theorem dX6_highOf_5 : decode cX6_highOf 5 = .ok (.bipush 40, 2) := by decide +kernel
theorem dX6_highOf_7 : decode cX6_highOf 7 = .ok (.goto 15, 3) := by decide +kernel
theorem dX6_highOf_10 : decode cX6_highOf 10 = .ok (.iload_n 0, 1) := by decide +kernel
theorem dX6_highOf_11 : decode cX6_highOf 11 = .ok (.iconst 4, 1) := by decide +kernel
theorem dX6_highOf_12 : decode cX6_highOf 12 = .ok (.if_icmp .ne 8, 3) := by decide +kernel
theorem dX6_highOf_15 : decode cX6_highOf 15 = .ok (.bipush 20, 2) := by decide +kernel
theorem dX6_highOf_17 : decode cX6_highOf 17 = .ok (.goto 5, 3) := by decide +kernel
theorem dX6_highOf_20 : decode cX6_highOf 20 = .ok (.bipush 99, 2) := by decide +kernel
theorem dX6_highOf_22 : decode cX6_highOf 22 = .ok (.ireturn, 1) := by decide +kernel
set_option maxRecDepth 20000 in
theorem ggX6_readsRules_X6_lowOf : GoodIn wsX6_readsRules wsX6_lowOf := goodIn_r _ [6] (by decide +kernel) (by decide +kernel)
set_option maxRecDepth 20000 in
theorem gX6_readsRules_X6_lowOf : GoodIn wsX6_readsRules (va_wsS RX6 106 yX6_lowOf wsX6_lowOf) := goodIn_app (goodIn_of _ (by decide +kernel)) ggX6_readsRules_X6_lowOf
set_option maxRecDepth 20000 in
theorem ggX6_readsRules_X6_highOf : GoodIn wsX6_readsRules wsX6_highOf := goodIn_r _ [9] (by decide +kernel) (by decide +kernel)
set_option maxRecDepth 20000 in
theorem gX6_readsRules_X6_highOf : GoodIn wsX6_readsRules (va_wsS RX6 109 yX6_highOf wsX6_highOf) := goodIn_app (goodIn_of _ (by decide +kernel)) ggX6_readsRules_X6_highOf
set_option maxRecDepth 20000 in
theorem ggX6_readsRules_X6_number : GoodIn wsX6_readsRules wsX6_number := goodIn_r _ [13, 2, 14, 15, 16, 17, 18, 5, 19, 20, 21, 22, 23, 28, 29, 30, 31, 32, 33, 34, 35, 36, 37, 38, 39, 40, 41, 42, 43, 44, 45, 46, 47, 48, 49, 50] (by decide +kernel) (by decide +kernel)
set_option maxRecDepth 20000 in
theorem gX6_readsRules_X6_number : GoodIn wsX6_readsRules (wsV RX6 99 RX6 yX6_number wsX6_number) := goodIn_app (goodIn_of _ (by decide +kernel)) ggX6_readsRules_X6_number
set_option maxRecDepth 20000 in
theorem ggX6_readsRules_X6_more : GoodIn wsX6_readsRules wsX6_more := goodIn_r _ [27, 14, 16, 17, 18, 5, 19, 20, 15, 10, 11, 12, 13, 2, 21, 22, 23, 28, 29, 30, 31, 32, 33, 34, 35, 36, 37, 38, 39, 40, 41, 42, 43, 44, 45, 46, 47, 48, 49, 50] (by decide +kernel) (by decide +kernel)
set_option maxRecDepth 20000 in
theorem gX6_readsRules_X6_more : GoodIn wsX6_readsRules (wsV RX6 102 RX6 yX6_more wsX6_more) := goodIn_app (goodIn_of _ (by decide +kernel)) ggX6_readsRules_X6_more
theorem dX6_readsRules_0 : decode cX6_readsRules 0 = .ok (.iload_n 2, 1) := by decide +kernel
theorem dX6_readsRules_1 : decode cX6_readsRules 1 = .ok (.istore_n 3, 1) := by decide +kernel
theorem dX6_readsRules_2 : decode cX6_readsRules 2 = .ok (.iload_n 3, 1) := by decide +kernel
theorem dX6_readsRules_3 : decode cX6_readsRules 3 = .ok (.iload_n 2, 1) := by decide +kernel
theorem dX6_readsRules_4 : decode cX6_readsRules 4 = .ok (.iconst 3, 1) := by decide +kernel
theorem dX6_readsRules_5 : decode cX6_readsRules 5 = .ok (.iadd, 1) := by decide +kernel
theorem dX6_readsRules_6 : decode cX6_readsRules 6 = .ok (.if_icmp .ge 61, 3) := by decide +kernel
theorem dX6_readsRules_9 : decode cX6_readsRules 9 = .ok (.iload_n 3, 1) := by decide +kernel
theorem dX6_readsRules_10 : decode cX6_readsRules 10 = .ok (.iload_n 2, 1) := by decide +kernel
theorem dX6_readsRules_11 : decode cX6_readsRules 11 = .ok (.if_icmp .ne 19, 3) := by decide +kernel
theorem dX6_readsRules_14 : decode cX6_readsRules 14 = .ok (.aload_n 0, 1) := by decide +kernel
theorem dX6_readsRules_15 : decode cX6_readsRules 15 = .ok (.iload_n 1, 1) := by decide +kernel
theorem dX6_readsRules_16 : decode cX6_readsRules 16 = .ok (.iload_n 3, 1) := by decide +kernel
theorem dX6_readsRules_17 : decode cX6_readsRules 17 = .ok (.invokestatic 106, 3) := by decide +kernel
theorem dX6_readsRules_20 : decode cX6_readsRules 20 = .ok (.iload_n 3, 1) := by decide +kernel
theorem dX6_readsRules_21 : decode cX6_readsRules 21 = .ok (.invokestatic 109, 3) := by decide +kernel
theorem dX6_readsRules_24 : decode cX6_readsRules 24 = .ok (.invokevirtual 99, 3) := by decide +kernel
theorem dX6_readsRules_27 : decode cX6_readsRules 27 = .ok (.goto 15, 3) := by decide +kernel
theorem dX6_readsRules_30 : decode cX6_readsRules 30 = .ok (.aload_n 0, 1) := by decide +kernel
theorem dX6_readsRules_31 : decode cX6_readsRules 31 = .ok (.iload_n 3, 1) := by decide +kernel
theorem dX6_readsRules_32 : decode cX6_readsRules 32 = .ok (.invokestatic 106, 3) := by decide +kernel
theorem dX6_readsRules_35 : decode cX6_readsRules 35 = .ok (.iload_n 3, 1) := by decide +kernel
theorem dX6_readsRules_36 : decode cX6_readsRules 36 = .ok (.invokestatic 109, 3) := by decide +kernel
theorem dX6_readsRules_39 : decode cX6_readsRules 39 = .ok (.invokevirtual 102, 3) := by decide +kernel
theorem dX6_readsRules_42 : decode cX6_readsRules 42 = .ok (.istore 4, 2) := by decide +kernel
theorem dX6_readsRules_44 : decode cX6_readsRules 44 = .ok (.iload 4, 2) := by decide +kernel
theorem dX6_readsRules_46 : decode cX6_readsRules 46 = .ok (.ifCond .ne 5, 3) := by decide +kernel
theorem dX6_readsRules_49 : decode cX6_readsRules 49 = .ok (.iconst 0, 1) := by decide +kernel
theorem dX6_readsRules_50 : decode cX6_readsRules 50 = .ok (.ireturn, 1) := by decide +kernel
theorem dX6_readsRules_51 : decode cX6_readsRules 51 = .ok (.aload_n 0, 1) := by decide +kernel
theorem dX6_readsRules_52 : decode cX6_readsRules 52 = .ok (.getfield 43, 3) := by decide +kernel
theorem dX6_readsRules_55 : decode cX6_readsRules 55 = .ok (.iload_n 3, 1) := by decide +kernel
theorem dX6_readsRules_56 : decode cX6_readsRules 56 = .ok (.aload_n 0, 1) := by decide +kernel
theorem dX6_readsRules_57 : decode cX6_readsRules 57 = .ok (.getfield 85, 3) := by decide +kernel
theorem dX6_readsRules_60 : decode cX6_readsRules 60 = .ok (.iastore, 1) := by decide +kernel
theorem dX6_readsRules_61 : decode cX6_readsRules 61 = .ok (.iinc 3 1, 3) := by decide +kernel
theorem dX6_readsRules_64 : decode cX6_readsRules 64 = .ok (.goto (-62), 3) := by decide +kernel
theorem dX6_readsRules_67 : decode cX6_readsRules 67 = .ok (.iconst 1, 1) := by decide +kernel
theorem dX6_readsRules_68 : decode cX6_readsRules 68 = .ok (.ireturn, 1) := by decide +kernel
set_option maxRecDepth 20000 in
theorem ggX6_readsItem_X6_readsCavity : GoodIn wsX6_readsItem wsX6_readsCavity := goodIn_r _ [5, 6, 7, 8, 9, 10, 4, 11, 12, 13, 14, 15, 16, 17, 18, 19, 20, 21, 22, 23, 24, 25, 26, 27, 28, 29, 30, 58, 59, 60, 61, 62, 63, 64, 65, 66, 67, 68, 69, 70, 71, 72, 73, 74, 75, 76, 77, 78, 79, 80] (by decide +kernel) (by decide +kernel)
set_option maxRecDepth 20000 in
theorem gX6_readsItem_X6_readsCavity : GoodIn wsX6_readsItem (wsV RX6 112 RX6 yX6_readsCavity wsX6_readsCavity) := goodIn_app (goodIn_of _ (by decide +kernel)) ggX6_readsItem_X6_readsCavity
set_option maxRecDepth 20000 in
theorem ggX6_readsItem_X6_readsCore : GoodIn wsX6_readsItem wsX6_readsCore := goodIn_r _ [34, 35, 7, 36, 8, 9, 10, 4, 11, 12, 13, 14, 15, 16, 17, 18, 19, 20, 21, 58, 59, 60, 61, 62, 63, 64, 65, 66, 67, 68, 69, 70, 71, 72, 73, 74, 75, 76, 77, 78, 79, 80] (by decide +kernel) (by decide +kernel)
set_option maxRecDepth 20000 in
theorem gX6_readsItem_X6_readsCore : GoodIn wsX6_readsItem (wsV RX6 116 RX6 yX6_readsCore wsX6_readsCore) := goodIn_app (goodIn_of _ (by decide +kernel)) ggX6_readsItem_X6_readsCore
set_option maxRecDepth 20000 in
theorem ggX6_readsItem_X6_readsStage : GoodIn wsX6_readsItem wsX6_readsStage := goodIn_r _ [40, 41, 42, 7, 8, 9, 10, 4, 11, 12, 13, 14, 15, 16, 17, 18, 19, 20, 21, 22, 23, 24, 25, 43, 44, 45, 46, 58, 59, 60, 61, 62, 63, 64, 65, 66, 67, 68, 69, 70, 71, 72, 73, 74, 75, 76, 77, 78, 79, 80] (by decide +kernel) (by decide +kernel)
set_option maxRecDepth 20000 in
theorem gX6_readsItem_X6_readsStage : GoodIn wsX6_readsItem (wsV RX6 119 RX6 yX6_readsStage wsX6_readsStage) := goodIn_app (goodIn_of _ (by decide +kernel)) ggX6_readsItem_X6_readsStage
set_option maxRecDepth 20000 in
theorem ggX6_readsItem_X6_readsRules : GoodIn wsX6_readsItem wsX6_readsRules := goodIn_r _ [50, 51, 7, 52, 53, 4, 54, 55, 56, 57, 8, 9, 10, 11, 12, 13, 14, 15, 16, 17, 18, 19, 20, 21, 22, 23, 24, 25, 58, 59, 60, 61, 62, 63, 64, 65, 66, 67, 68, 69, 70, 71, 72, 73, 74, 75, 76, 77, 78, 79, 80] (by decide +kernel) (by decide +kernel)
set_option maxRecDepth 20000 in
theorem gX6_readsItem_X6_readsRules : GoodIn wsX6_readsItem (wsV RX6 122 RX6 yX6_readsRules wsX6_readsRules) := goodIn_app (goodIn_of _ (by decide +kernel)) ggX6_readsItem_X6_readsRules
theorem dX6_readsItem_0 : decode cX6_readsItem 0 = .ok (.iload_n 1, 1) := by decide +kernel
theorem dX6_readsItem_1 : decode cX6_readsItem 1 = .ok (.lookupswitch 83 #[(99, 57), (104, 76), (111, 69), (115, 63), (118, 51)], 51) := by decide +kernel
theorem dX6_readsItem_52 : decode cX6_readsItem 52 = .ok (.aload_n 0, 1) := by decide +kernel
theorem dX6_readsItem_53 : decode cX6_readsItem 53 = .ok (.iload_n 2, 1) := by decide +kernel
theorem dX6_readsItem_54 : decode cX6_readsItem 54 = .ok (.invokevirtual 112, 3) := by decide +kernel
theorem dX6_readsItem_57 : decode cX6_readsItem 57 = .ok (.ireturn, 1) := by decide +kernel
theorem dX6_readsItem_58 : decode cX6_readsItem 58 = .ok (.aload_n 0, 1) := by decide +kernel
theorem dX6_readsItem_59 : decode cX6_readsItem 59 = .ok (.iload_n 2, 1) := by decide +kernel
theorem dX6_readsItem_60 : decode cX6_readsItem 60 = .ok (.invokevirtual 116, 3) := by decide +kernel
theorem dX6_readsItem_63 : decode cX6_readsItem 63 = .ok (.ireturn, 1) := by decide +kernel
theorem dX6_readsItem_64 : decode cX6_readsItem 64 = .ok (.aload_n 0, 1) := by decide +kernel
theorem dX6_readsItem_65 : decode cX6_readsItem 65 = .ok (.iload_n 2, 1) := by decide +kernel
theorem dX6_readsItem_66 : decode cX6_readsItem 66 = .ok (.invokevirtual 119, 3) := by decide +kernel
theorem dX6_readsItem_69 : decode cX6_readsItem 69 = .ok (.ireturn, 1) := by decide +kernel
theorem dX6_readsItem_70 : decode cX6_readsItem 70 = .ok (.aload_n 0, 1) := by decide +kernel
theorem dX6_readsItem_71 : decode cX6_readsItem 71 = .ok (.iload_n 2, 1) := by decide +kernel
theorem dX6_readsItem_72 : decode cX6_readsItem 72 = .ok (.iconst 0, 1) := by decide +kernel
theorem dX6_readsItem_73 : decode cX6_readsItem 73 = .ok (.invokevirtual 122, 3) := by decide +kernel
theorem dX6_readsItem_76 : decode cX6_readsItem 76 = .ok (.ireturn, 1) := by decide +kernel
theorem dX6_readsItem_77 : decode cX6_readsItem 77 = .ok (.aload_n 0, 1) := by decide +kernel
theorem dX6_readsItem_78 : decode cX6_readsItem 78 = .ok (.iload_n 2, 1) := by decide +kernel
theorem dX6_readsItem_79 : decode cX6_readsItem 79 = .ok (.iconst 3, 1) := by decide +kernel
theorem dX6_readsItem_80 : decode cX6_readsItem 80 = .ok (.invokevirtual 122, 3) := by decide +kernel
theorem dX6_readsItem_83 : decode cX6_readsItem 83 = .ok (.ireturn, 1) := by decide +kernel
theorem dX6_readsItem_84 : decode cX6_readsItem 84 = .ok (.iconst 0, 1) := by decide +kernel
theorem dX6_readsItem_85 : decode cX6_readsItem 85 = .ok (.ireturn, 1) := by decide +kernel
set_option maxRecDepth 20000 in
theorem ggX6_reads_X6_clears : GoodIn wsX6_reads wsX6_clears := goodIn_r _ [8, 9, 10, 11, 12, 66, 67, 68, 69, 70, 71, 72, 73, 74, 75, 76, 77, 78, 79, 80, 81, 82, 83, 84, 85, 86, 87, 88] (by decide +kernel) (by decide +kernel)
set_option maxRecDepth 20000 in
theorem gX6_reads_X6_clears : GoodIn wsX6_reads (wsV RX6 46 RX6 yX6_clears wsX6_clears) := goodIn_app (goodIn_of _ (by decide +kernel)) ggX6_reads_X6_clears
set_option maxRecDepth 20000 in
theorem ggX6_reads_X6_readsItem : GoodIn wsX6_reads wsX6_readsItem := goodIn_r _ [16, 17, 18, 19, 7, 20, 9, 21, 22, 23, 24, 25, 3, 2, 26, 27, 28, 29, 1, 30, 31, 32, 33, 34, 35, 36, 37, 38, 39, 40, 41, 42, 43, 44, 45, 10, 46, 47, 48, 49, 50, 11, 51, 52, 53, 54, 55, 56, 57, 58, 59, 12, 60, 61, 62, 63, 64, 65, 66, 67, 68, 69, 70, 71, 72, 73, 74, 75, 76, 77, 78, 79, 80, 81, 82, 83, 84, 85, 86, 87, 88] (by decide +kernel) (by decide +kernel)
set_option maxRecDepth 20000 in
theorem gX6_reads_X6_readsItem : GoodIn wsX6_reads (wsV RX6 125 RX6 yX6_readsItem wsX6_readsItem) := goodIn_app (goodIn_of _ (by decide +kernel)) ggX6_reads_X6_readsItem
set_option maxRecDepth 20000 in
theorem ggX6_reads_X6_letterAt : GoodIn wsX6_reads wsX6_letterAt := goodIn_r _ [29, 1, 2, 66, 67, 68, 69, 70, 71, 72, 73, 74, 75, 76, 77, 78, 79, 80, 81, 82, 83, 84, 85, 86, 87, 88] (by decide +kernel) (by decide +kernel)
set_option maxRecDepth 20000 in
theorem gX6_reads_X6_letterAt : GoodIn wsX6_reads (wsV RX6 91 RX6 yX6_letterAt wsX6_letterAt) := goodIn_app (goodIn_of _ (by decide +kernel)) ggX6_reads_X6_letterAt
theorem dX6_reads_0 : decode cX6_reads 0 = .ok (.aload_n 0, 1) := by decide +kernel
theorem dX6_reads_1 : decode cX6_reads 1 = .ok (.invokevirtual 46, 3) := by decide +kernel
theorem dX6_reads_4 : decode cX6_reads 4 = .ok (.iconst 0, 1) := by decide +kernel
theorem dX6_reads_5 : decode cX6_reads 5 = .ok (.istore_n 1, 1) := by decide +kernel
theorem dX6_reads_6 : decode cX6_reads 6 = .ok (.iload_n 1, 1) := by decide +kernel
theorem dX6_reads_7 : decode cX6_reads 7 = .ok (.aload_n 0, 1) := by decide +kernel
theorem dX6_reads_8 : decode cX6_reads 8 = .ok (.getfield 82, 3) := by decide +kernel
theorem dX6_reads_11 : decode cX6_reads 11 = .ok (.if_icmp .ge 44, 3) := by decide +kernel
theorem dX6_reads_14 : decode cX6_reads 14 = .ok (.aload_n 0, 1) := by decide +kernel
theorem dX6_reads_15 : decode cX6_reads 15 = .ok (.aload_n 0, 1) := by decide +kernel
theorem dX6_reads_16 : decode cX6_reads 16 = .ok (.getfield 7, 3) := by decide +kernel
theorem dX6_reads_19 : decode cX6_reads 19 = .ok (.iload_n 1, 1) := by decide +kernel
theorem dX6_reads_20 : decode cX6_reads 20 = .ok (.iaload, 1) := by decide +kernel
theorem dX6_reads_21 : decode cX6_reads 21 = .ok (.iload_n 1, 1) := by decide +kernel
theorem dX6_reads_22 : decode cX6_reads 22 = .ok (.iconst 1, 1) := by decide +kernel
theorem dX6_reads_23 : decode cX6_reads 23 = .ok (.iadd, 1) := by decide +kernel
theorem dX6_reads_24 : decode cX6_reads 24 = .ok (.invokevirtual 125, 3) := by decide +kernel
theorem dX6_reads_27 : decode cX6_reads 27 = .ok (.ifCond .eq 16, 3) := by decide +kernel
theorem dX6_reads_30 : decode cX6_reads 30 = .ok (.aload_n 0, 1) := by decide +kernel
theorem dX6_reads_31 : decode cX6_reads 31 = .ok (.aload_n 0, 1) := by decide +kernel
theorem dX6_reads_32 : decode cX6_reads 32 = .ok (.getfield 88, 3) := by decide +kernel
theorem dX6_reads_35 : decode cX6_reads 35 = .ok (.invokevirtual 91, 3) := by decide +kernel
theorem dX6_reads_38 : decode cX6_reads 38 = .ok (.bipush 59, 2) := by decide +kernel
theorem dX6_reads_40 : decode cX6_reads 40 = .ok (.if_icmp .eq 5, 3) := by decide +kernel
theorem dX6_reads_43 : decode cX6_reads 43 = .ok (.iload_n 1, 1) := by decide +kernel
theorem dX6_reads_44 : decode cX6_reads 44 = .ok (.ireturn, 1) := by decide +kernel
theorem dX6_reads_45 : decode cX6_reads 45 = .ok (.aload_n 0, 1) := by decide +kernel
theorem dX6_reads_46 : decode cX6_reads 46 = .ok (.getfield 88, 3) := by decide +kernel
theorem dX6_reads_49 : decode cX6_reads 49 = .ok (.iconst 1, 1) := by decide +kernel
theorem dX6_reads_50 : decode cX6_reads 50 = .ok (.iadd, 1) := by decide +kernel
theorem dX6_reads_51 : decode cX6_reads 51 = .ok (.istore_n 1, 1) := by decide +kernel
theorem dX6_reads_52 : decode cX6_reads 52 = .ok (.goto (-46), 3) := by decide +kernel
theorem dX6_reads_55 : decode cX6_reads 55 = .ok (.bipush (-4), 2) := by decide +kernel
theorem dX6_reads_57 : decode cX6_reads 57 = .ok (.ireturn, 1) := by decide +kernel
theorem dX6_areCores_0 : decode cX6_areCores 0 = .ok (.iconst 0, 1) := by decide +kernel
theorem dX6_areCores_1 : decode cX6_areCores 1 = .ok (.istore_n 1, 1) := by decide +kernel
theorem dX6_areCores_2 : decode cX6_areCores 2 = .ok (.iload_n 1, 1) := by decide +kernel
theorem dX6_areCores_3 : decode cX6_areCores 3 = .ok (.aload_n 0, 1) := by decide +kernel
theorem dX6_areCores_4 : decode cX6_areCores 4 = .ok (.getfield 53, 3) := by decide +kernel
theorem dX6_areCores_7 : decode cX6_areCores 7 = .ok (.if_icmp .ge 61, 3) := by decide +kernel
theorem dX6_areCores_10 : decode cX6_areCores 10 = .ok (.iload_n 1, 1) := by decide +kernel
theorem dX6_areCores_11 : decode cX6_areCores 11 = .ok (.istore_n 2, 1) := by decide +kernel
theorem dX6_areCores_12 : decode cX6_areCores 12 = .ok (.iconst 0, 1) := by decide +kernel
theorem dX6_areCores_13 : decode cX6_areCores 13 = .ok (.istore_n 3, 1) := by decide +kernel
theorem dX6_areCores_14 : decode cX6_areCores 14 = .ok (.iload_n 2, 1) := by decide +kernel
theorem dX6_areCores_15 : decode cX6_areCores 15 = .ok (.bipush 9, 2) := by decide +kernel
theorem dX6_areCores_17 : decode cX6_areCores 17 = .ok (.if_icmp .eq 37, 3) := by decide +kernel
theorem dX6_areCores_20 : decode cX6_areCores 20 = .ok (.iload_n 3, 1) := by decide +kernel
theorem dX6_areCores_21 : decode cX6_areCores 21 = .ok (.iconst 5, 1) := by decide +kernel
theorem dX6_areCores_22 : decode cX6_areCores 22 = .ok (.if_icmp .ge 32, 3) := by decide +kernel
theorem dX6_areCores_25 : decode cX6_areCores 25 = .ok (.aload_n 0, 1) := by decide +kernel
theorem dX6_areCores_26 : decode cX6_areCores 26 = .ok (.getfield 37, 3) := by decide +kernel
theorem dX6_areCores_29 : decode cX6_areCores 29 = .ok (.iload_n 2, 1) := by decide +kernel
theorem dX6_areCores_30 : decode cX6_areCores 30 = .ok (.iaload, 1) := by decide +kernel
theorem dX6_areCores_31 : decode cX6_areCores 31 = .ok (.istore_n 2, 1) := by decide +kernel
theorem dX6_areCores_32 : decode cX6_areCores 32 = .ok (.iload_n 2, 1) := by decide +kernel
theorem dX6_areCores_33 : decode cX6_areCores 33 = .ok (.bipush 9, 2) := by decide +kernel
theorem dX6_areCores_35 : decode cX6_areCores 35 = .ok (.if_icmp .eq 13, 3) := by decide +kernel
theorem dX6_areCores_38 : decode cX6_areCores 38 = .ok (.iload_n 2, 1) := by decide +kernel
theorem dX6_areCores_39 : decode cX6_areCores 39 = .ok (.aload_n 0, 1) := by decide +kernel
theorem dX6_areCores_40 : decode cX6_areCores 40 = .ok (.getfield 53, 3) := by decide +kernel
theorem dX6_areCores_43 : decode cX6_areCores 43 = .ok (.if_icmp .lt 5, 3) := by decide +kernel
theorem dX6_areCores_46 : decode cX6_areCores 46 = .ok (.iconst 0, 1) := by decide +kernel
theorem dX6_areCores_47 : decode cX6_areCores 47 = .ok (.ireturn, 1) := by decide +kernel
theorem dX6_areCores_48 : decode cX6_areCores 48 = .ok (.iinc 3 1, 3) := by decide +kernel
theorem dX6_areCores_51 : decode cX6_areCores 51 = .ok (.goto (-37), 3) := by decide +kernel
theorem dX6_areCores_54 : decode cX6_areCores 54 = .ok (.iload_n 2, 1) := by decide +kernel
theorem dX6_areCores_55 : decode cX6_areCores 55 = .ok (.bipush 9, 2) := by decide +kernel
theorem dX6_areCores_57 : decode cX6_areCores 57 = .ok (.if_icmp .eq 5, 3) := by decide +kernel
theorem dX6_areCores_60 : decode cX6_areCores 60 = .ok (.iconst 0, 1) := by decide +kernel
theorem dX6_areCores_61 : decode cX6_areCores 61 = .ok (.ireturn, 1) := by decide +kernel
theorem dX6_areCores_62 : decode cX6_areCores 62 = .ok (.iinc 1 1, 3) := by decide +kernel
theorem dX6_areCores_65 : decode cX6_areCores 65 = .ok (.goto (-63), 3) := by decide +kernel
theorem dX6_areCores_68 : decode cX6_areCores 68 = .ok (.iconst 1, 1) := by decide +kernel
theorem dX6_areCores_69 : decode cX6_areCores 69 = .ok (.ireturn, 1) := by decide +kernel
theorem dX6_write_0 : decode cX6_write 0 = .ok (.iload_n 1, 1) := by decide +kernel
theorem dX6_write_1 : decode cX6_write 1 = .ok (.bipush 32, 2) := by decide +kernel
theorem dX6_write_3 : decode cX6_write 3 = .ok (.if_icmp .lt 9, 3) := by decide +kernel
theorem dX6_write_6 : decode cX6_write 6 = .ok (.iload_n 1, 1) := by decide +kernel
theorem dX6_write_7 : decode cX6_write 7 = .ok (.bipush 126, 2) := by decide +kernel
theorem dX6_write_9 : decode cX6_write 9 = .ok (.if_icmp .le 5, 3) := by decide +kernel
theorem dX6_write_12 : decode cX6_write 12 = .ok (.iconst (-1), 1) := by decide +kernel
theorem dX6_write_13 : decode cX6_write 13 = .ok (.ireturn, 1) := by decide +kernel
theorem dX6_write_14 : decode cX6_write 14 = .ok (.aload_n 0, 1) := by decide +kernel
theorem dX6_write_15 : decode cX6_write 15 = .ok (.getfield 82, 3) := by decide +kernel
theorem dX6_write_18 : decode cX6_write 18 = .ok (.sipush 200, 3) := by decide +kernel
theorem dX6_write_21 : decode cX6_write 21 = .ok (.if_icmp .ne 6, 3) := by decide +kernel
theorem dX6_write_24 : decode cX6_write 24 = .ok (.bipush (-3), 2) := by decide +kernel
theorem dX6_write_26 : decode cX6_write 26 = .ok (.ireturn, 1) := by decide +kernel
theorem dX6_write_27 : decode cX6_write 27 = .ok (.aload_n 0, 1) := by decide +kernel
theorem dX6_write_28 : decode cX6_write 28 = .ok (.getfield 7, 3) := by decide +kernel
theorem dX6_write_31 : decode cX6_write 31 = .ok (.aload_n 0, 1) := by decide +kernel
theorem dX6_write_32 : decode cX6_write 32 = .ok (.getfield 82, 3) := by decide +kernel
theorem dX6_write_35 : decode cX6_write 35 = .ok (.iload_n 1, 1) := by decide +kernel
theorem dX6_write_36 : decode cX6_write 36 = .ok (.iastore, 1) := by decide +kernel
theorem dX6_write_37 : decode cX6_write 37 = .ok (.aload_n 0, 1) := by decide +kernel
theorem dX6_write_38 : decode cX6_write 38 = .ok (.dup, 1) := by decide +kernel
theorem dX6_write_39 : decode cX6_write 39 = .ok (.getfield 82, 3) := by decide +kernel
theorem dX6_write_42 : decode cX6_write 42 = .ok (.iconst 1, 1) := by decide +kernel
theorem dX6_write_43 : decode cX6_write 43 = .ok (.iadd, 1) := by decide +kernel
theorem dX6_write_44 : decode cX6_write 44 = .ok (.putfield 82, 3) := by decide +kernel
theorem dX6_write_47 : decode cX6_write 47 = .ok (.aload_n 0, 1) := by decide +kernel
theorem dX6_write_48 : decode cX6_write 48 = .ok (.getfield 82, 3) := by decide +kernel
theorem dX6_write_51 : decode cX6_write 51 = .ok (.ireturn, 1) := by decide +kernel
theorem dX6_wipe_0 : decode cX6_wipe 0 = .ok (.aload_n 0, 1) := by decide +kernel
theorem dX6_wipe_1 : decode cX6_wipe 1 = .ok (.getfield 82, 3) := by decide +kernel
theorem dX6_wipe_4 : decode cX6_wipe 4 = .ok (.istore_n 1, 1) := by decide +kernel
theorem dX6_wipe_5 : decode cX6_wipe 5 = .ok (.aload_n 0, 1) := by decide +kernel
theorem dX6_wipe_6 : decode cX6_wipe 6 = .ok (.iconst 0, 1) := by decide +kernel
theorem dX6_wipe_7 : decode cX6_wipe 7 = .ok (.putfield 82, 3) := by decide +kernel
theorem dX6_wipe_10 : decode cX6_wipe 10 = .ok (.iload_n 1, 1) := by decide +kernel
theorem dX6_wipe_11 : decode cX6_wipe 11 = .ok (.ireturn, 1) := by decide +kernel
set_option maxRecDepth 20000 in
theorem ggX6_fault_X6_reads : GoodIn wsX6_fault wsX6_reads := goodIn_r _ [5, 6, 7, 8, 9, 10, 11, 4, 12, 13, 14, 15, 16, 17, 18, 19, 20, 21, 22, 23, 24, 25, 26, 27, 28, 29, 30, 31, 32, 33, 34, 35, 36, 37, 38, 39, 40, 41, 42, 43, 44, 45, 46, 47, 48, 49, 50, 51, 52, 53, 54, 55, 56, 57, 58, 59, 60, 61, 62, 63, 64, 65, 66, 67, 68, 69, 70, 71, 72, 73, 74, 75, 76, 77, 78, 79, 80, 81, 82, 83, 84, 85, 86, 87, 88, 89, 90, 91, 92] (by decide +kernel) (by decide +kernel)
set_option maxRecDepth 20000 in
theorem gX6_fault_X6_reads : GoodIn wsX6_fault (wsV RX6 128 RX6 yX6_reads wsX6_reads) := goodIn_app (goodIn_of _ (by decide +kernel)) ggX6_fault_X6_reads
theorem dX6_fault_0 : decode cX6_fault 0 = .ok (.aload_n 0, 1) := by decide +kernel
theorem dX6_fault_1 : decode cX6_fault 1 = .ok (.invokevirtual 128, 3) := by decide +kernel
theorem dX6_fault_4 : decode cX6_fault 4 = .ok (.ireturn, 1) := by decide +kernel
set_option maxRecDepth 20000 in
theorem ggX6_lay_X6_reads : GoodIn wsX6_lay wsX6_reads := goodIn_r _ [8, 9, 10, 11, 12, 13, 14, 7, 15, 1, 16, 2, 17, 18, 19, 20, 21, 22, 23, 24, 25, 26, 27, 28, 29, 30, 31, 32, 33, 34, 35, 36, 37, 38, 39, 40, 41, 42, 43, 44, 45, 46, 47, 48, 49, 50, 51, 52, 53, 54, 55, 56, 57, 58, 59, 60, 61, 62, 63, 64, 65, 66, 67, 68, 69, 70, 87, 88, 89, 90, 91, 92, 93, 94, 95, 96, 97, 98, 99, 100, 101, 102, 103, 104, 105, 106, 107, 108, 109] (by decide +kernel) (by decide +kernel)
set_option maxRecDepth 20000 in
theorem gX6_lay_X6_reads : GoodIn wsX6_lay (wsV RX6 128 RX6 yX6_reads wsX6_reads) := goodIn_app (goodIn_of _ (by decide +kernel)) ggX6_lay_X6_reads
set_option maxRecDepth 20000 in
theorem ggX6_lay_X6_areCores : GoodIn wsX6_lay wsX6_areCores := goodIn_r _ [74, 16, 51, 87, 88, 89, 90, 91, 92, 93, 94, 95, 96, 97, 98, 99, 100, 101, 102, 103, 104, 105, 106, 107, 108, 109] (by decide +kernel) (by decide +kernel)
set_option maxRecDepth 20000 in
theorem gX6_lay_X6_areCores : GoodIn wsX6_lay (wsV RX6 132 RX6 yX6_areCores wsX6_areCores) := goodIn_app (goodIn_of _ (by decide +kernel)) ggX6_lay_X6_areCores
set_option maxRecDepth 20000 in
theorem ggX6_lay_X6_takes : GoodIn wsX6_lay wsX6_takes := goodIn_r _ [78, 1, 3, 16, 79, 2, 80, 81, 82, 46, 83, 84, 51, 85, 56, 17, 86, 87, 88, 89, 90, 91, 92, 93, 94, 95, 96, 97, 98, 99, 100, 101, 102, 103, 104, 105, 106, 107, 108, 109] (by decide +kernel) (by decide +kernel)
set_option maxRecDepth 20000 in
theorem gX6_lay_X6_takes : GoodIn wsX6_lay (wsV RX6 61 RX6 yX6_takes wsX6_takes) := goodIn_app (goodIn_of _ (by decide +kernel)) ggX6_lay_X6_takes
theorem dX6_lay_0 : decode cX6_lay 0 = .ok (.aload_n 0, 1) := by decide +kernel
theorem dX6_lay_1 : decode cX6_lay 1 = .ok (.invokevirtual 128, 3) := by decide +kernel
theorem dX6_lay_4 : decode cX6_lay 4 = .ok (.bipush (-4), 2) := by decide +kernel
theorem dX6_lay_6 : decode cX6_lay 6 = .ok (.if_icmp .ne 24, 3) := by decide +kernel
theorem dX6_lay_9 : decode cX6_lay 9 = .ok (.aload_n 0, 1) := by decide +kernel
theorem dX6_lay_10 : decode cX6_lay 10 = .ok (.getfield 64, 3) := by decide +kernel
theorem dX6_lay_13 : decode cX6_lay 13 = .ok (.ifCond .eq 17, 3) := by decide +kernel
theorem dX6_lay_16 : decode cX6_lay 16 = .ok (.aload_n 0, 1) := by decide +kernel
theorem dX6_lay_17 : decode cX6_lay 17 = .ok (.getfield 67, 3) := by decide +kernel
theorem dX6_lay_20 : decode cX6_lay 20 = .ok (.ifCond .eq 10, 3) := by decide +kernel
theorem dX6_lay_23 : decode cX6_lay 23 = .ok (.aload_n 0, 1) := by decide +kernel
theorem dX6_lay_24 : decode cX6_lay 24 = .ok (.invokevirtual 132, 3) := by decide +kernel
theorem dX6_lay_27 : decode cX6_lay 27 = .ok (.ifCond .ne 6, 3) := by decide +kernel
theorem dX6_lay_30 : decode cX6_lay 30 = .ok (.bipush (-2), 2) := by decide +kernel
theorem dX6_lay_32 : decode cX6_lay 32 = .ok (.ireturn, 1) := by decide +kernel
theorem dX6_lay_33 : decode cX6_lay 33 = .ok (.aload_n 0, 1) := by decide +kernel
theorem dX6_lay_34 : decode cX6_lay 34 = .ok (.invokevirtual 61, 3) := by decide +kernel
theorem dX6_lay_37 : decode cX6_lay 37 = .ok (.aload_n 0, 1) := by decide +kernel
theorem dX6_lay_38 : decode cX6_lay 38 = .ok (.getfield 70, 3) := by decide +kernel
theorem dX6_lay_41 : decode cX6_lay 41 = .ok (.ireturn, 1) := by decide +kernel
theorem dX6_easiest_0 : decode cX6_easiest 0 = .ok (.bipush (-4), 2) := by decide +kernel
theorem dX6_easiest_2 : decode cX6_easiest 2 = .ok (.istore_n 1, 1) := by decide +kernel
theorem dX6_easiest_3 : decode cX6_easiest 3 = .ok (.iconst 0, 1) := by decide +kernel
theorem dX6_easiest_4 : decode cX6_easiest 4 = .ok (.istore_n 2, 1) := by decide +kernel
theorem dX6_easiest_5 : decode cX6_easiest 5 = .ok (.iload_n 2, 1) := by decide +kernel
theorem dX6_easiest_6 : decode cX6_easiest 6 = .ok (.aload_n 0, 1) := by decide +kernel
theorem dX6_easiest_7 : decode cX6_easiest 7 = .ok (.getfield 70, 3) := by decide +kernel
theorem dX6_easiest_10 : decode cX6_easiest 10 = .ok (.if_icmp .ge 98, 3) := by decide +kernel
theorem dX6_easiest_13 : decode cX6_easiest 13 = .ok (.aload_n 0, 1) := by decide +kernel
theorem dX6_easiest_14 : decode cX6_easiest 14 = .ok (.getfield 31, 3) := by decide +kernel
theorem dX6_easiest_17 : decode cX6_easiest 17 = .ok (.bipush 66, 2) := by decide +kernel
theorem dX6_easiest_19 : decode cX6_easiest 19 = .ok (.iload_n 2, 1) := by decide +kernel
theorem dX6_easiest_20 : decode cX6_easiest 20 = .ok (.iadd, 1) := by decide +kernel
theorem dX6_easiest_21 : decode cX6_easiest 21 = .ok (.iaload, 1) := by decide +kernel
theorem dX6_easiest_22 : decode cX6_easiest 22 = .ok (.aload_n 0, 1) := by decide +kernel
theorem dX6_easiest_23 : decode cX6_easiest 23 = .ok (.getfield 13, 3) := by decide +kernel
theorem dX6_easiest_26 : decode cX6_easiest 26 = .ok (.iload_n 2, 1) := by decide +kernel
theorem dX6_easiest_27 : decode cX6_easiest 27 = .ok (.iaload, 1) := by decide +kernel
theorem dX6_easiest_28 : decode cX6_easiest 28 = .ok (.if_icmp .ge 7, 3) := by decide +kernel
theorem dX6_easiest_31 : decode cX6_easiest 31 = .ok (.iconst 1, 1) := by decide +kernel
theorem dX6_easiest_32 : decode cX6_easiest 32 = .ok (.goto 4, 3) := by decide +kernel
theorem dX6_easiest_35 : decode cX6_easiest 35 = .ok (.iconst 0, 1) := by decide +kernel
theorem dX6_easiest_36 : decode cX6_easiest 36 = .ok (.istore_n 3, 1) := by decide +kernel
theorem dX6_easiest_37 : decode cX6_easiest 37 = .ok (.aload_n 0, 1) := by decide +kernel
theorem dX6_easiest_38 : decode cX6_easiest 38 = .ok (.getfield 25, 3) := by decide +kernel
theorem dX6_easiest_41 : decode cX6_easiest 41 = .ok (.sipush 1139, 3) := by decide +kernel
theorem dX6_easiest_44 : decode cX6_easiest 44 = .ok (.iload_n 2, 1) := by decide +kernel
theorem dX6_easiest_45 : decode cX6_easiest 45 = .ok (.iadd, 1) := by decide +kernel
theorem dX6_easiest_46 : decode cX6_easiest 46 = .ok (.iaload, 1) := by decide +kernel
theorem dX6_easiest_47 : decode cX6_easiest 47 = .ok (.aload_n 0, 1) := by decide +kernel
theorem dX6_easiest_48 : decode cX6_easiest 48 = .ok (.getfield 31, 3) := by decide +kernel
theorem dX6_easiest_51 : decode cX6_easiest 51 = .ok (.bipush 66, 2) := by decide +kernel
theorem dX6_easiest_53 : decode cX6_easiest 53 = .ok (.iload_n 2, 1) := by decide +kernel
theorem dX6_easiest_54 : decode cX6_easiest 54 = .ok (.iadd, 1) := by decide +kernel
theorem dX6_easiest_55 : decode cX6_easiest 55 = .ok (.iaload, 1) := by decide +kernel
theorem dX6_easiest_56 : decode cX6_easiest 56 = .ok (.iconst 1, 1) := by decide +kernel
theorem dX6_easiest_57 : decode cX6_easiest 57 = .ok (.iadd, 1) := by decide +kernel
theorem dX6_easiest_58 : decode cX6_easiest 58 = .ok (.imul, 1) := by decide +kernel
theorem dX6_easiest_59 : decode cX6_easiest 59 = .ok (.istore 4, 2) := by decide +kernel
theorem dX6_easiest_61 : decode cX6_easiest 61 = .ok (.iload_n 3, 1) := by decide +kernel
theorem dX6_easiest_62 : decode cX6_easiest 62 = .ok (.ifCond .eq 38, 3) := by decide +kernel
theorem dX6_easiest_65 : decode cX6_easiest 65 = .ok (.iload_n 1, 1) := by decide +kernel
theorem dX6_easiest_66 : decode cX6_easiest 66 = .ok (.ifCond .lt 30, 3) := by decide +kernel
theorem dX6_easiest_69 : decode cX6_easiest 69 = .ok (.iload 4, 2) := by decide +kernel
theorem dX6_easiest_71 : decode cX6_easiest 71 = .ok (.aload_n 0, 1) := by decide +kernel
theorem dX6_easiest_72 : decode cX6_easiest 72 = .ok (.getfield 25, 3) := by decide +kernel
theorem dX6_easiest_75 : decode cX6_easiest 75 = .ok (.sipush 1139, 3) := by decide +kernel
theorem dX6_easiest_78 : decode cX6_easiest 78 = .ok (.iload_n 1, 1) := by decide +kernel
theorem dX6_easiest_79 : decode cX6_easiest 79 = .ok (.iadd, 1) := by decide +kernel
theorem dX6_easiest_80 : decode cX6_easiest 80 = .ok (.iaload, 1) := by decide +kernel
theorem dX6_easiest_81 : decode cX6_easiest 81 = .ok (.aload_n 0, 1) := by decide +kernel
theorem dX6_easiest_82 : decode cX6_easiest 82 = .ok (.getfield 31, 3) := by decide +kernel
theorem dX6_easiest_85 : decode cX6_easiest 85 = .ok (.bipush 66, 2) := by decide +kernel
theorem dX6_easiest_87 : decode cX6_easiest 87 = .ok (.iload_n 1, 1) := by decide +kernel
theorem dX6_easiest_88 : decode cX6_easiest 88 = .ok (.iadd, 1) := by decide +kernel
theorem dX6_easiest_89 : decode cX6_easiest 89 = .ok (.iaload, 1) := by decide +kernel
theorem dX6_easiest_90 : decode cX6_easiest 90 = .ok (.iconst 1, 1) := by decide +kernel
theorem dX6_easiest_91 : decode cX6_easiest 91 = .ok (.iadd, 1) := by decide +kernel
theorem dX6_easiest_92 : decode cX6_easiest 92 = .ok (.imul, 1) := by decide +kernel
theorem dX6_easiest_93 : decode cX6_easiest 93 = .ok (.if_icmp .ge 7, 3) := by decide +kernel
theorem dX6_easiest_96 : decode cX6_easiest 96 = .ok (.iload_n 2, 1) := by decide +kernel
theorem dX6_easiest_97 : decode cX6_easiest 97 = .ok (.goto 4, 3) := by decide +kernel
theorem dX6_easiest_100 : decode cX6_easiest 100 = .ok (.iload_n 1, 1) := by decide +kernel
theorem dX6_easiest_101 : decode cX6_easiest 101 = .ok (.istore_n 1, 1) := by decide +kernel
theorem dX6_easiest_102 : decode cX6_easiest 102 = .ok (.iinc 2 1, 3) := by decide +kernel
theorem dX6_easiest_105 : decode cX6_easiest 105 = .ok (.goto (-100), 3) := by decide +kernel
theorem dX6_easiest_108 : decode cX6_easiest 108 = .ok (.iload_n 1, 1) := by decide +kernel
theorem dX6_easiest_109 : decode cX6_easiest 109 = .ok (.ifCond .lt 5, 3) := by decide +kernel
theorem dX6_easiest_112 : decode cX6_easiest 112 = .ok (.iload_n 1, 1) := by decide +kernel
theorem dX6_easiest_113 : decode cX6_easiest 113 = .ok (.ireturn, 1) := by decide +kernel
theorem dX6_easiest_114 : decode cX6_easiest 114 = .ok (.iconst 0, 1) := by decide +kernel
theorem dX6_easiest_115 : decode cX6_easiest 115 = .ok (.istore_n 1, 1) := by decide +kernel
theorem dX6_easiest_116 : decode cX6_easiest 116 = .ok (.iconst 1, 1) := by decide +kernel
theorem dX6_easiest_117 : decode cX6_easiest 117 = .ok (.istore_n 2, 1) := by decide +kernel
theorem dX6_easiest_118 : decode cX6_easiest 118 = .ok (.iload_n 2, 1) := by decide +kernel
theorem dX6_easiest_119 : decode cX6_easiest 119 = .ok (.aload_n 0, 1) := by decide +kernel
theorem dX6_easiest_120 : decode cX6_easiest 120 = .ok (.getfield 70, 3) := by decide +kernel
theorem dX6_easiest_123 : decode cX6_easiest 123 = .ok (.if_icmp .ge 58, 3) := by decide +kernel
theorem dX6_easiest_126 : decode cX6_easiest 126 = .ok (.aload_n 0, 1) := by decide +kernel
theorem dX6_easiest_127 : decode cX6_easiest 127 = .ok (.getfield 25, 3) := by decide +kernel
theorem dX6_easiest_130 : decode cX6_easiest 130 = .ok (.sipush 1139, 3) := by decide +kernel
theorem dX6_easiest_133 : decode cX6_easiest 133 = .ok (.iload_n 2, 1) := by decide +kernel
theorem dX6_easiest_134 : decode cX6_easiest 134 = .ok (.iadd, 1) := by decide +kernel
theorem dX6_easiest_135 : decode cX6_easiest 135 = .ok (.iaload, 1) := by decide +kernel
theorem dX6_easiest_136 : decode cX6_easiest 136 = .ok (.aload_n 0, 1) := by decide +kernel
theorem dX6_easiest_137 : decode cX6_easiest 137 = .ok (.getfield 31, 3) := by decide +kernel
theorem dX6_easiest_140 : decode cX6_easiest 140 = .ok (.bipush 66, 2) := by decide +kernel
theorem dX6_easiest_142 : decode cX6_easiest 142 = .ok (.iload_n 2, 1) := by decide +kernel
theorem dX6_easiest_143 : decode cX6_easiest 143 = .ok (.iadd, 1) := by decide +kernel
theorem dX6_easiest_144 : decode cX6_easiest 144 = .ok (.iaload, 1) := by decide +kernel
theorem dX6_easiest_145 : decode cX6_easiest 145 = .ok (.imul, 1) := by decide +kernel
theorem dX6_easiest_146 : decode cX6_easiest 146 = .ok (.aload_n 0, 1) := by decide +kernel
theorem dX6_easiest_147 : decode cX6_easiest 147 = .ok (.getfield 25, 3) := by decide +kernel
theorem dX6_easiest_150 : decode cX6_easiest 150 = .ok (.sipush 1139, 3) := by decide +kernel
theorem dX6_easiest_153 : decode cX6_easiest 153 = .ok (.iload_n 1, 1) := by decide +kernel
theorem dX6_easiest_154 : decode cX6_easiest 154 = .ok (.iadd, 1) := by decide +kernel
theorem dX6_easiest_155 : decode cX6_easiest 155 = .ok (.iaload, 1) := by decide +kernel
theorem dX6_easiest_156 : decode cX6_easiest 156 = .ok (.aload_n 0, 1) := by decide +kernel
theorem dX6_easiest_157 : decode cX6_easiest 157 = .ok (.getfield 31, 3) := by decide +kernel
theorem dX6_easiest_160 : decode cX6_easiest 160 = .ok (.bipush 66, 2) := by decide +kernel
theorem dX6_easiest_162 : decode cX6_easiest 162 = .ok (.iload_n 1, 1) := by decide +kernel
theorem dX6_easiest_163 : decode cX6_easiest 163 = .ok (.iadd, 1) := by decide +kernel
theorem dX6_easiest_164 : decode cX6_easiest 164 = .ok (.iaload, 1) := by decide +kernel
theorem dX6_easiest_165 : decode cX6_easiest 165 = .ok (.imul, 1) := by decide +kernel
theorem dX6_easiest_166 : decode cX6_easiest 166 = .ok (.if_icmp .ge 7, 3) := by decide +kernel
theorem dX6_easiest_169 : decode cX6_easiest 169 = .ok (.iload_n 2, 1) := by decide +kernel
theorem dX6_easiest_170 : decode cX6_easiest 170 = .ok (.goto 4, 3) := by decide +kernel
theorem dX6_easiest_173 : decode cX6_easiest 173 = .ok (.iload_n 1, 1) := by decide +kernel
theorem dX6_easiest_174 : decode cX6_easiest 174 = .ok (.istore_n 1, 1) := by decide +kernel
theorem dX6_easiest_175 : decode cX6_easiest 175 = .ok (.iinc 2 1, 3) := by decide +kernel
theorem dX6_easiest_178 : decode cX6_easiest 178 = .ok (.goto (-60), 3) := by decide +kernel
theorem dX6_easiest_181 : decode cX6_easiest 181 = .ok (.iload_n 1, 1) := by decide +kernel
theorem dX6_easiest_182 : decode cX6_easiest 182 = .ok (.ireturn, 1) := by decide +kernel
theorem dX6_comes_0 : decode cX6_comes 0 = .ok (.aload_n 0, 1) := by decide +kernel
theorem dX6_comes_1 : decode cX6_comes 1 = .ok (.getfield 31, 3) := by decide +kernel
theorem dX6_comes_4 : decode cX6_comes 4 = .ok (.bipush 66, 2) := by decide +kernel
theorem dX6_comes_6 : decode cX6_comes 6 = .ok (.iload_n 1, 1) := by decide +kernel
theorem dX6_comes_7 : decode cX6_comes 7 = .ok (.iadd, 1) := by decide +kernel
theorem dX6_comes_8 : decode cX6_comes 8 = .ok (.dup2, 1) := by decide +kernel
theorem dX6_comes_9 : decode cX6_comes 9 = .ok (.iaload, 1) := by decide +kernel
theorem dX6_comes_10 : decode cX6_comes 10 = .ok (.iconst 1, 1) := by decide +kernel
theorem dX6_comes_11 : decode cX6_comes 11 = .ok (.iadd, 1) := by decide +kernel
theorem dX6_comes_12 : decode cX6_comes 12 = .ok (.iastore, 1) := by decide +kernel
theorem dX6_comes_13 : decode cX6_comes 13 = .ok (.aload_n 0, 1) := by decide +kernel
theorem dX6_comes_14 : decode cX6_comes 14 = .ok (.getfield 31, 3) := by decide +kernel
theorem dX6_comes_17 : decode cX6_comes 17 = .ok (.bipush 78, 2) := by decide +kernel
theorem dX6_comes_19 : decode cX6_comes 19 = .ok (.iload_n 1, 1) := by decide +kernel
theorem dX6_comes_20 : decode cX6_comes 20 = .ok (.iadd, 1) := by decide +kernel
theorem dX6_comes_21 : decode cX6_comes 21 = .ok (.aload_n 0, 1) := by decide +kernel
theorem dX6_comes_22 : decode cX6_comes 22 = .ok (.getfield 31, 3) := by decide +kernel
theorem dX6_comes_25 : decode cX6_comes 25 = .ok (.bipush 78, 2) := by decide +kernel
theorem dX6_comes_27 : decode cX6_comes 27 = .ok (.iload_n 1, 1) := by decide +kernel
theorem dX6_comes_28 : decode cX6_comes 28 = .ok (.iadd, 1) := by decide +kernel
theorem dX6_comes_29 : decode cX6_comes 29 = .ok (.iaload, 1) := by decide +kernel
theorem dX6_comes_30 : decode cX6_comes 30 = .ok (.bipush (-4), 2) := by decide +kernel
theorem dX6_comes_32 : decode cX6_comes 32 = .ok (.if_icmp .ne 7, 3) := by decide +kernel
theorem dX6_comes_35 : decode cX6_comes 35 = .ok (.iload_n 2, 1) := by decide +kernel
theorem dX6_comes_36 : decode cX6_comes 36 = .ok (.goto 12, 3) := by decide +kernel
theorem dX6_comes_39 : decode cX6_comes 39 = .ok (.aload_n 0, 1) := by decide +kernel
theorem dX6_comes_40 : decode cX6_comes 40 = .ok (.getfield 31, 3) := by decide +kernel
theorem dX6_comes_43 : decode cX6_comes 43 = .ok (.bipush 78, 2) := by decide +kernel
theorem dX6_comes_45 : decode cX6_comes 45 = .ok (.iload_n 1, 1) := by decide +kernel
theorem dX6_comes_46 : decode cX6_comes 46 = .ok (.iadd, 1) := by decide +kernel
theorem dX6_comes_47 : decode cX6_comes 47 = .ok (.iaload, 1) := by decide +kernel
theorem dX6_comes_48 : decode cX6_comes 48 = .ok (.iastore, 1) := by decide +kernel
theorem dX6_comes_49 : decode cX6_comes 49 = .ok (.aload_n 0, 1) := by decide +kernel
theorem dX6_comes_50 : decode cX6_comes 50 = .ok (.getfield 31, 3) := by decide +kernel
theorem dX6_comes_53 : decode cX6_comes 53 = .ok (.bipush 72, 2) := by decide +kernel
theorem dX6_comes_55 : decode cX6_comes 55 = .ok (.iload_n 1, 1) := by decide +kernel
theorem dX6_comes_56 : decode cX6_comes 56 = .ok (.iadd, 1) := by decide +kernel
theorem dX6_comes_57 : decode cX6_comes 57 = .ok (.aload_n 0, 1) := by decide +kernel
theorem dX6_comes_58 : decode cX6_comes 58 = .ok (.getfield 31, 3) := by decide +kernel
theorem dX6_comes_61 : decode cX6_comes 61 = .ok (.bipush 66, 2) := by decide +kernel
theorem dX6_comes_63 : decode cX6_comes 63 = .ok (.iload_n 1, 1) := by decide +kernel
theorem dX6_comes_64 : decode cX6_comes 64 = .ok (.iadd, 1) := by decide +kernel
theorem dX6_comes_65 : decode cX6_comes 65 = .ok (.iaload, 1) := by decide +kernel
theorem dX6_comes_66 : decode cX6_comes 66 = .ok (.aload_n 0, 1) := by decide +kernel
theorem dX6_comes_67 : decode cX6_comes 67 = .ok (.getfield 13, 3) := by decide +kernel
theorem dX6_comes_70 : decode cX6_comes 70 = .ok (.iload_n 1, 1) := by decide +kernel
theorem dX6_comes_71 : decode cX6_comes 71 = .ok (.iaload, 1) := by decide +kernel
theorem dX6_comes_72 : decode cX6_comes 72 = .ok (.if_icmp .ne 7, 3) := by decide +kernel
theorem dX6_comes_75 : decode cX6_comes 75 = .ok (.iload_n 2, 1) := by decide +kernel
theorem dX6_comes_76 : decode cX6_comes 76 = .ok (.goto 12, 3) := by decide +kernel
theorem dX6_comes_79 : decode cX6_comes 79 = .ok (.aload_n 0, 1) := by decide +kernel
theorem dX6_comes_80 : decode cX6_comes 80 = .ok (.getfield 31, 3) := by decide +kernel
theorem dX6_comes_83 : decode cX6_comes 83 = .ok (.bipush 72, 2) := by decide +kernel
theorem dX6_comes_85 : decode cX6_comes 85 = .ok (.iload_n 1, 1) := by decide +kernel
theorem dX6_comes_86 : decode cX6_comes 86 = .ok (.iadd, 1) := by decide +kernel
theorem dX6_comes_87 : decode cX6_comes 87 = .ok (.iaload, 1) := by decide +kernel
theorem dX6_comes_88 : decode cX6_comes 88 = .ok (.iastore, 1) := by decide +kernel
theorem dX6_comes_89 : decode cX6_comes 89 = .ok (.return_, 1) := by decide +kernel
theorem dX6_speedAt_0 : decode cX6_speedAt 0 = .ok (.iconst 0, 1) := by decide +kernel
theorem dX6_speedAt_1 : decode cX6_speedAt 1 = .ok (.istore_n 2, 1) := by decide +kernel
theorem dX6_speedAt_2 : decode cX6_speedAt 2 = .ok (.iload_n 2, 1) := by decide +kernel
theorem dX6_speedAt_3 : decode cX6_speedAt 3 = .ok (.iconst 1, 1) := by decide +kernel
theorem dX6_speedAt_4 : decode cX6_speedAt 4 = .ok (.iadd, 1) := by decide +kernel
theorem dX6_speedAt_5 : decode cX6_speedAt 5 = .ok (.aload_n 0, 1) := by decide +kernel
theorem dX6_speedAt_6 : decode cX6_speedAt 6 = .ok (.getfield 76, 3) := by decide +kernel
theorem dX6_speedAt_9 : decode cX6_speedAt 9 = .ok (.if_icmp .ge 24, 3) := by decide +kernel
theorem dX6_speedAt_12 : decode cX6_speedAt 12 = .ok (.aload_n 0, 1) := by decide +kernel
theorem dX6_speedAt_13 : decode cX6_speedAt 13 = .ok (.getfield 22, 3) := by decide +kernel
theorem dX6_speedAt_16 : decode cX6_speedAt 16 = .ok (.iload_n 2, 1) := by decide +kernel
theorem dX6_speedAt_17 : decode cX6_speedAt 17 = .ok (.iconst 1, 1) := by decide +kernel
theorem dX6_speedAt_18 : decode cX6_speedAt 18 = .ok (.iadd, 1) := by decide +kernel
theorem dX6_speedAt_19 : decode cX6_speedAt 19 = .ok (.iaload, 1) := by decide +kernel
theorem dX6_speedAt_20 : decode cX6_speedAt 20 = .ok (.aload_n 0, 1) := by decide +kernel
theorem dX6_speedAt_21 : decode cX6_speedAt 21 = .ok (.getfield 136, 3) := by decide +kernel
theorem dX6_speedAt_24 : decode cX6_speedAt 24 = .ok (.if_icmp .gt 9, 3) := by decide +kernel
theorem dX6_speedAt_27 : decode cX6_speedAt 27 = .ok (.iinc 2 1, 3) := by decide +kernel
theorem dX6_speedAt_30 : decode cX6_speedAt 30 = .ok (.goto (-28), 3) := by decide +kernel
theorem dX6_speedAt_33 : decode cX6_speedAt 33 = .ok (.aload_n 0, 1) := by decide +kernel
theorem dX6_speedAt_34 : decode cX6_speedAt 34 = .ok (.getfield 25, 3) := by decide +kernel
theorem dX6_speedAt_37 : decode cX6_speedAt 37 = .ok (.sipush 1145, 3) := by decide +kernel
theorem dX6_speedAt_40 : decode cX6_speedAt 40 = .ok (.iload_n 2, 1) := by decide +kernel
theorem dX6_speedAt_41 : decode cX6_speedAt 41 = .ok (.iadd, 1) := by decide +kernel
theorem dX6_speedAt_42 : decode cX6_speedAt 42 = .ok (.iaload, 1) := by decide +kernel
theorem dX6_speedAt_43 : decode cX6_speedAt 43 = .ok (.iload_n 1, 1) := by decide +kernel
theorem dX6_speedAt_44 : decode cX6_speedAt 44 = .ok (.iadd, 1) := by decide +kernel
theorem dX6_speedAt_45 : decode cX6_speedAt 45 = .ok (.istore_n 3, 1) := by decide +kernel
theorem dX6_speedAt_46 : decode cX6_speedAt 46 = .ok (.iload_n 3, 1) := by decide +kernel
theorem dX6_speedAt_47 : decode cX6_speedAt 47 = .ok (.iconst 1, 1) := by decide +kernel
theorem dX6_speedAt_48 : decode cX6_speedAt 48 = .ok (.if_icmp .ge 7, 3) := by decide +kernel
theorem dX6_speedAt_51 : decode cX6_speedAt 51 = .ok (.iconst 1, 1) := by decide +kernel
theorem dX6_speedAt_52 : decode cX6_speedAt 52 = .ok (.goto 15, 3) := by decide +kernel
theorem dX6_speedAt_55 : decode cX6_speedAt 55 = .ok (.iload_n 3, 1) := by decide +kernel
theorem dX6_speedAt_56 : decode cX6_speedAt 56 = .ok (.bipush 9, 2) := by decide +kernel
theorem dX6_speedAt_58 : decode cX6_speedAt 58 = .ok (.if_icmp .le 8, 3) := by decide +kernel
theorem dX6_speedAt_61 : decode cX6_speedAt 61 = .ok (.bipush 9, 2) := by decide +kernel
theorem dX6_speedAt_63 : decode cX6_speedAt 63 = .ok (.goto 4, 3) := by decide +kernel
theorem dX6_speedAt_66 : decode cX6_speedAt 66 = .ok (.iload_n 3, 1) := by decide +kernel
theorem dX6_speedAt_67 : decode cX6_speedAt 67 = .ok (.ireturn, 1) := by decide +kernel
set_option maxRecDepth 20000 in
theorem ggX6_fills_X6_speedAt : GoodIn wsX6_fills wsX6_speedAt := goodIn_r _ [9, 10, 11, 1, 4, 21, 22, 23, 24, 25, 26, 27, 28, 29, 30, 31, 32, 33, 34, 35, 36, 37, 38, 39, 40, 41, 42, 43] (by decide +kernel) (by decide +kernel)
set_option maxRecDepth 20000 in
theorem gX6_fills_X6_speedAt : GoodIn wsX6_fills (wsV RX6 139 RX6 yX6_speedAt wsX6_speedAt) := goodIn_app (goodIn_of _ (by decide +kernel)) ggX6_fills_X6_speedAt
set_option maxRecDepth 20000 in
theorem ggX6_fills_X6_easiest : GoodIn wsX6_fills wsX6_easiest := goodIn_r _ [15, 16, 2, 3, 4, 21, 22, 23, 24, 25, 26, 27, 28, 29, 30, 31, 32, 33, 34, 35, 36, 37, 38, 39, 40, 41, 42, 43] (by decide +kernel) (by decide +kernel)
set_option maxRecDepth 20000 in
theorem gX6_fills_X6_easiest : GoodIn wsX6_fills (wsV RX6 142 RX6 yX6_easiest wsX6_easiest) := goodIn_app (goodIn_of _ (by decide +kernel)) ggX6_fills_X6_easiest
set_option maxRecDepth 20000 in
theorem ggX6_fills_X6_comes : GoodIn wsX6_fills wsX6_comes := goodIn_r _ [20, 2, 3, 21, 22, 23, 24, 25, 26, 27, 28, 29, 30, 31, 32, 33, 34, 35, 36, 37, 38, 39, 40, 41, 42, 43] (by decide +kernel) (by decide +kernel)
set_option maxRecDepth 20000 in
theorem gX6_fills_X6_comes : GoodIn wsX6_fills (wsV RX6 145 RX6 yX6_comes wsX6_comes) := goodIn_app (goodIn_of _ (by decide +kernel)) ggX6_fills_X6_comes
theorem dX6_fills_0 : decode cX6_fills 0 = .ok (.aload_n 0, 1) := by decide +kernel
theorem dX6_fills_1 : decode cX6_fills 1 = .ok (.getfield 136, 3) := by decide +kernel
theorem dX6_fills_4 : decode cX6_fills 4 = .ok (.aload_n 0, 1) := by decide +kernel
theorem dX6_fills_5 : decode cX6_fills 5 = .ok (.iload_n 2, 1) := by decide +kernel
theorem dX6_fills_6 : decode cX6_fills 6 = .ok (.invokevirtual 139, 3) := by decide +kernel
theorem dX6_fills_9 : decode cX6_fills 9 = .ok (.iadd, 1) := by decide +kernel
theorem dX6_fills_10 : decode cX6_fills 10 = .ok (.istore_n 3, 1) := by decide +kernel
theorem dX6_fills_11 : decode cX6_fills 11 = .ok (.iconst 0, 1) := by decide +kernel
theorem dX6_fills_12 : decode cX6_fills 12 = .ok (.istore 4, 2) := by decide +kernel
theorem dX6_fills_14 : decode cX6_fills 14 = .ok (.aload_n 0, 1) := by decide +kernel
theorem dX6_fills_15 : decode cX6_fills 15 = .ok (.getfield 136, 3) := by decide +kernel
theorem dX6_fills_18 : decode cX6_fills 18 = .ok (.iload_n 3, 1) := by decide +kernel
theorem dX6_fills_19 : decode cX6_fills 19 = .ok (.if_icmp .ge 115, 3) := by decide +kernel
theorem dX6_fills_22 : decode cX6_fills 22 = .ok (.aload_n 0, 1) := by decide +kernel
theorem dX6_fills_23 : decode cX6_fills 23 = .ok (.getfield 136, 3) := by decide +kernel
theorem dX6_fills_26 : decode cX6_fills 26 = .ok (.bipush 99, 2) := by decide +kernel
theorem dX6_fills_28 : decode cX6_fills 28 = .ok (.if_icmp .ge 106, 3) := by decide +kernel
theorem dX6_fills_31 : decode cX6_fills 31 = .ok (.aload_n 0, 1) := by decide +kernel
theorem dX6_fills_32 : decode cX6_fills 32 = .ok (.invokevirtual 142, 3) := by decide +kernel
theorem dX6_fills_35 : decode cX6_fills 35 = .ok (.istore 5, 2) := by decide +kernel
theorem dX6_fills_37 : decode cX6_fills 37 = .ok (.aload_n 0, 1) := by decide +kernel
theorem dX6_fills_38 : decode cX6_fills 38 = .ok (.getfield 31, 3) := by decide +kernel
theorem dX6_fills_41 : decode cX6_fills 41 = .ok (.bipush 66, 2) := by decide +kernel
theorem dX6_fills_43 : decode cX6_fills 43 = .ok (.iload 5, 2) := by decide +kernel
theorem dX6_fills_45 : decode cX6_fills 45 = .ok (.iadd, 1) := by decide +kernel
theorem dX6_fills_46 : decode cX6_fills 46 = .ok (.iaload, 1) := by decide +kernel
theorem dX6_fills_47 : decode cX6_fills 47 = .ok (.istore 6, 2) := by decide +kernel
theorem dX6_fills_49 : decode cX6_fills 49 = .ok (.iload 6, 2) := by decide +kernel
theorem dX6_fills_51 : decode cX6_fills 51 = .ok (.aload_n 0, 1) := by decide +kernel
theorem dX6_fills_52 : decode cX6_fills 52 = .ok (.getfield 13, 3) := by decide +kernel
theorem dX6_fills_55 : decode cX6_fills 55 = .ok (.iload 5, 2) := by decide +kernel
theorem dX6_fills_57 : decode cX6_fills 57 = .ok (.iaload, 1) := by decide +kernel
theorem dX6_fills_58 : decode cX6_fills 58 = .ok (.if_icmp .ge 22, 3) := by decide +kernel
theorem dX6_fills_61 : decode cX6_fills 61 = .ok (.aload_n 0, 1) := by decide +kernel
theorem dX6_fills_62 : decode cX6_fills 62 = .ok (.getfield 25, 3) := by decide +kernel
theorem dX6_fills_65 : decode cX6_fills 65 = .ok (.sipush 1139, 3) := by decide +kernel
theorem dX6_fills_68 : decode cX6_fills 68 = .ok (.iload 5, 2) := by decide +kernel
theorem dX6_fills_70 : decode cX6_fills 70 = .ok (.iadd, 1) := by decide +kernel
theorem dX6_fills_71 : decode cX6_fills 71 = .ok (.iaload, 1) := by decide +kernel
theorem dX6_fills_72 : decode cX6_fills 72 = .ok (.iload 6, 2) := by decide +kernel
theorem dX6_fills_74 : decode cX6_fills 74 = .ok (.iconst 1, 1) := by decide +kernel
theorem dX6_fills_75 : decode cX6_fills 75 = .ok (.iadd, 1) := by decide +kernel
theorem dX6_fills_76 : decode cX6_fills 76 = .ok (.imul, 1) := by decide +kernel
theorem dX6_fills_77 : decode cX6_fills 77 = .ok (.goto 19, 3) := by decide +kernel
theorem dX6_fills_80 : decode cX6_fills 80 = .ok (.iconst 3, 1) := by decide +kernel
theorem dX6_fills_81 : decode cX6_fills 81 = .ok (.aload_n 0, 1) := by decide +kernel
theorem dX6_fills_82 : decode cX6_fills 82 = .ok (.getfield 25, 3) := by decide +kernel
theorem dX6_fills_85 : decode cX6_fills 85 = .ok (.sipush 1139, 3) := by decide +kernel
theorem dX6_fills_88 : decode cX6_fills 88 = .ok (.iload 5, 2) := by decide +kernel
theorem dX6_fills_90 : decode cX6_fills 90 = .ok (.iadd, 1) := by decide +kernel
theorem dX6_fills_91 : decode cX6_fills 91 = .ok (.iaload, 1) := by decide +kernel
theorem dX6_fills_92 : decode cX6_fills 92 = .ok (.imul, 1) := by decide +kernel
theorem dX6_fills_93 : decode cX6_fills 93 = .ok (.iload 6, 2) := by decide +kernel
theorem dX6_fills_95 : decode cX6_fills 95 = .ok (.imul, 1) := by decide +kernel
theorem dX6_fills_96 : decode cX6_fills 96 = .ok (.istore 7, 2) := by decide +kernel
theorem dX6_fills_98 : decode cX6_fills 98 = .ok (.iload 7, 2) := by decide +kernel
theorem dX6_fills_100 : decode cX6_fills 100 = .ok (.iload 4, 2) := by decide +kernel
theorem dX6_fills_102 : decode cX6_fills 102 = .ok (.if_icmp .le 8, 3) := by decide +kernel
theorem dX6_fills_105 : decode cX6_fills 105 = .ok (.iload 7, 2) := by decide +kernel
theorem dX6_fills_107 : decode cX6_fills 107 = .ok (.goto 5, 3) := by decide +kernel
theorem dX6_fills_110 : decode cX6_fills 110 = .ok (.iload 4, 2) := by decide +kernel
theorem dX6_fills_112 : decode cX6_fills 112 = .ok (.istore 4, 2) := by decide +kernel
theorem dX6_fills_114 : decode cX6_fills 114 = .ok (.aload_n 0, 1) := by decide +kernel
theorem dX6_fills_115 : decode cX6_fills 115 = .ok (.iload 5, 2) := by decide +kernel
theorem dX6_fills_117 : decode cX6_fills 117 = .ok (.iload_n 1, 1) := by decide +kernel
theorem dX6_fills_118 : decode cX6_fills 118 = .ok (.invokevirtual 145, 3) := by decide +kernel
theorem dX6_fills_121 : decode cX6_fills 121 = .ok (.aload_n 0, 1) := by decide +kernel
theorem dX6_fills_122 : decode cX6_fills 122 = .ok (.dup, 1) := by decide +kernel
theorem dX6_fills_123 : decode cX6_fills 123 = .ok (.getfield 136, 3) := by decide +kernel
theorem dX6_fills_126 : decode cX6_fills 126 = .ok (.iconst 1, 1) := by decide +kernel
theorem dX6_fills_127 : decode cX6_fills 127 = .ok (.iadd, 1) := by decide +kernel
theorem dX6_fills_128 : decode cX6_fills 128 = .ok (.putfield 136, 3) := by decide +kernel
theorem dX6_fills_131 : decode cX6_fills 131 = .ok (.goto (-117), 3) := by decide +kernel
theorem dX6_fills_134 : decode cX6_fills 134 = .ok (.iload 4, 2) := by decide +kernel
theorem dX6_fills_136 : decode cX6_fills 136 = .ok (.bipush 99, 2) := by decide +kernel
theorem dX6_fills_138 : decode cX6_fills 138 = .ok (.if_icmp .le 8, 3) := by decide +kernel
theorem dX6_fills_141 : decode cX6_fills 141 = .ok (.bipush 99, 2) := by decide +kernel
theorem dX6_fills_143 : decode cX6_fills 143 = .ok (.goto 5, 3) := by decide +kernel
theorem dX6_fills_146 : decode cX6_fills 146 = .ok (.iload 4, 2) := by decide +kernel
theorem dX6_fills_148 : decode cX6_fills 148 = .ok (.ireturn, 1) := by decide +kernel
theorem dX6_why_0 : decode cX6_why 0 = .ok (.aload_n 0, 1) := by decide +kernel
theorem dX6_why_1 : decode cX6_why 1 = .ok (.getfield 136, 3) := by decide +kernel
theorem dX6_why_4 : decode cX6_why 4 = .ok (.aload_n 0, 1) := by decide +kernel
theorem dX6_why_5 : decode cX6_why 5 = .ok (.getfield 25, 3) := by decide +kernel
theorem dX6_why_8 : decode cX6_why 8 = .ok (.sipush 1149, 3) := by decide +kernel
theorem dX6_why_11 : decode cX6_why 11 = .ok (.iaload, 1) := by decide +kernel
theorem dX6_why_12 : decode cX6_why 12 = .ok (.if_icmp .lt 7, 3) := by decide +kernel
theorem dX6_why_15 : decode cX6_why 15 = .ok (.iconst 0, 1) := by decide +kernel
theorem dX6_why_16 : decode cX6_why 16 = .ok (.goto 37, 3) := by decide +kernel
theorem dX6_why_19 : decode cX6_why 19 = .ok (.iload_n 2, 1) := by decide +kernel
theorem dX6_why_20 : decode cX6_why 20 = .ok (.aload_n 0, 1) := by decide +kernel
theorem dX6_why_21 : decode cX6_why 21 = .ok (.getfield 25, 3) := by decide +kernel
theorem dX6_why_24 : decode cX6_why 24 = .ok (.sipush 1150, 3) := by decide +kernel
theorem dX6_why_27 : decode cX6_why 27 = .ok (.iaload, 1) := by decide +kernel
theorem dX6_why_28 : decode cX6_why 28 = .ok (.if_icmp .lt 7, 3) := by decide +kernel
theorem dX6_why_31 : decode cX6_why 31 = .ok (.iconst 1, 1) := by decide +kernel
theorem dX6_why_32 : decode cX6_why 32 = .ok (.goto 21, 3) := by decide +kernel
theorem dX6_why_35 : decode cX6_why 35 = .ok (.iload_n 1, 1) := by decide +kernel
theorem dX6_why_36 : decode cX6_why 36 = .ok (.aload_n 0, 1) := by decide +kernel
theorem dX6_why_37 : decode cX6_why 37 = .ok (.getfield 25, 3) := by decide +kernel
theorem dX6_why_40 : decode cX6_why 40 = .ok (.sipush 1151, 3) := by decide +kernel
theorem dX6_why_43 : decode cX6_why 43 = .ok (.iaload, 1) := by decide +kernel
theorem dX6_why_44 : decode cX6_why 44 = .ok (.if_icmp .lt 7, 3) := by decide +kernel
theorem dX6_why_47 : decode cX6_why 47 = .ok (.iconst 2, 1) := by decide +kernel
theorem dX6_why_48 : decode cX6_why 48 = .ok (.goto 5, 3) := by decide +kernel
theorem dX6_why_51 : decode cX6_why 51 = .ok (.bipush (-4), 2) := by decide +kernel
theorem dX6_why_53 : decode cX6_why 53 = .ok (.ireturn, 1) := by decide +kernel
set_option maxRecDepth 20000 in
theorem ggX6_holds_X6_comes : GoodIn wsX6_holds wsX6_comes := goodIn_r _ [10, 2, 11, 12, 13, 14, 15, 16, 17, 18, 19, 20, 21, 22, 23, 24, 25, 26, 27, 28, 29, 30, 31, 32, 33, 34] (by decide +kernel) (by decide +kernel)
set_option maxRecDepth 20000 in
theorem gX6_holds_X6_comes : GoodIn wsX6_holds (wsV RX6 145 RX6 yX6_comes wsX6_comes) := goodIn_app (goodIn_of _ (by decide +kernel)) ggX6_holds_X6_comes
theorem dX6_holds_0 : decode cX6_holds 0 = .ok (.iconst 0, 1) := by decide +kernel
theorem dX6_holds_1 : decode cX6_holds 1 = .ok (.istore_n 2, 1) := by decide +kernel
theorem dX6_holds_2 : decode cX6_holds 2 = .ok (.iload_n 2, 1) := by decide +kernel
theorem dX6_holds_3 : decode cX6_holds 3 = .ok (.aload_n 0, 1) := by decide +kernel
theorem dX6_holds_4 : decode cX6_holds 4 = .ok (.getfield 70, 3) := by decide +kernel
theorem dX6_holds_7 : decode cX6_holds 7 = .ok (.if_icmp .ge 109, 3) := by decide +kernel
theorem dX6_holds_10 : decode cX6_holds 10 = .ok (.aload_n 0, 1) := by decide +kernel
theorem dX6_holds_11 : decode cX6_holds 11 = .ok (.getfield 31, 3) := by decide +kernel
theorem dX6_holds_14 : decode cX6_holds 14 = .ok (.bipush 78, 2) := by decide +kernel
theorem dX6_holds_16 : decode cX6_holds 16 = .ok (.iload_n 2, 1) := by decide +kernel
theorem dX6_holds_17 : decode cX6_holds 17 = .ok (.iadd, 1) := by decide +kernel
theorem dX6_holds_18 : decode cX6_holds 18 = .ok (.iaload, 1) := by decide +kernel
theorem dX6_holds_19 : decode cX6_holds 19 = .ok (.bipush (-4), 2) := by decide +kernel
theorem dX6_holds_21 : decode cX6_holds 21 = .ok (.if_icmp .eq 27, 3) := by decide +kernel
theorem dX6_holds_24 : decode cX6_holds 24 = .ok (.iload_n 1, 1) := by decide +kernel
theorem dX6_holds_25 : decode cX6_holds 25 = .ok (.aload_n 0, 1) := by decide +kernel
theorem dX6_holds_26 : decode cX6_holds 26 = .ok (.getfield 31, 3) := by decide +kernel
theorem dX6_holds_29 : decode cX6_holds 29 = .ok (.bipush 78, 2) := by decide +kernel
theorem dX6_holds_31 : decode cX6_holds 31 = .ok (.iload_n 2, 1) := by decide +kernel
theorem dX6_holds_32 : decode cX6_holds 32 = .ok (.iadd, 1) := by decide +kernel
theorem dX6_holds_33 : decode cX6_holds 33 = .ok (.iaload, 1) := by decide +kernel
theorem dX6_holds_34 : decode cX6_holds 34 = .ok (.isub, 1) := by decide +kernel
theorem dX6_holds_35 : decode cX6_holds 35 = .ok (.aload_n 0, 1) := by decide +kernel
theorem dX6_holds_36 : decode cX6_holds 36 = .ok (.getfield 16, 3) := by decide +kernel
theorem dX6_holds_39 : decode cX6_holds 39 = .ok (.iload_n 2, 1) := by decide +kernel
theorem dX6_holds_40 : decode cX6_holds 40 = .ok (.iaload, 1) := by decide +kernel
theorem dX6_holds_41 : decode cX6_holds 41 = .ok (.if_icmp .lt 7, 3) := by decide +kernel
theorem dX6_holds_44 : decode cX6_holds 44 = .ok (.iconst 1, 1) := by decide +kernel
theorem dX6_holds_45 : decode cX6_holds 45 = .ok (.goto 4, 3) := by decide +kernel
theorem dX6_holds_48 : decode cX6_holds 48 = .ok (.iconst 0, 1) := by decide +kernel
theorem dX6_holds_49 : decode cX6_holds 49 = .ok (.istore_n 3, 1) := by decide +kernel
theorem dX6_holds_50 : decode cX6_holds 50 = .ok (.iload_n 3, 1) := by decide +kernel
theorem dX6_holds_51 : decode cX6_holds 51 = .ok (.ifCond .ne 59, 3) := by decide +kernel
theorem dX6_holds_54 : decode cX6_holds 54 = .ok (.aload_n 0, 1) := by decide +kernel
theorem dX6_holds_55 : decode cX6_holds 55 = .ok (.getfield 25, 3) := by decide +kernel
theorem dX6_holds_58 : decode cX6_holds 58 = .ok (.sipush 1139, 3) := by decide +kernel
theorem dX6_holds_61 : decode cX6_holds 61 = .ok (.iload_n 2, 1) := by decide +kernel
theorem dX6_holds_62 : decode cX6_holds 62 = .ok (.iadd, 1) := by decide +kernel
theorem dX6_holds_63 : decode cX6_holds 63 = .ok (.iaload, 1) := by decide +kernel
theorem dX6_holds_64 : decode cX6_holds 64 = .ok (.aload_n 0, 1) := by decide +kernel
theorem dX6_holds_65 : decode cX6_holds 65 = .ok (.getfield 31, 3) := by decide +kernel
theorem dX6_holds_68 : decode cX6_holds 68 = .ok (.bipush 66, 2) := by decide +kernel
theorem dX6_holds_70 : decode cX6_holds 70 = .ok (.iload_n 2, 1) := by decide +kernel
theorem dX6_holds_71 : decode cX6_holds 71 = .ok (.iadd, 1) := by decide +kernel
theorem dX6_holds_72 : decode cX6_holds 72 = .ok (.iaload, 1) := by decide +kernel
theorem dX6_holds_73 : decode cX6_holds 73 = .ok (.imul, 1) := by decide +kernel
theorem dX6_holds_74 : decode cX6_holds 74 = .ok (.aload_n 0, 1) := by decide +kernel
theorem dX6_holds_75 : decode cX6_holds 75 = .ok (.getfield 25, 3) := by decide +kernel
theorem dX6_holds_78 : decode cX6_holds 78 = .ok (.sipush 1152, 3) := by decide +kernel
theorem dX6_holds_81 : decode cX6_holds 81 = .ok (.iaload, 1) := by decide +kernel
theorem dX6_holds_82 : decode cX6_holds 82 = .ok (.if_icmp .ge 28, 3) := by decide +kernel
theorem dX6_holds_85 : decode cX6_holds 85 = .ok (.aload_n 0, 1) := by decide +kernel
theorem dX6_holds_86 : decode cX6_holds 86 = .ok (.getfield 136, 3) := by decide +kernel
theorem dX6_holds_89 : decode cX6_holds 89 = .ok (.bipush 99, 2) := by decide +kernel
theorem dX6_holds_91 : decode cX6_holds 91 = .ok (.if_icmp .ge 19, 3) := by decide +kernel
theorem dX6_holds_94 : decode cX6_holds 94 = .ok (.aload_n 0, 1) := by decide +kernel
theorem dX6_holds_95 : decode cX6_holds 95 = .ok (.iload_n 2, 1) := by decide +kernel
theorem dX6_holds_96 : decode cX6_holds 96 = .ok (.iload_n 1, 1) := by decide +kernel
theorem dX6_holds_97 : decode cX6_holds 97 = .ok (.invokevirtual 145, 3) := by decide +kernel
theorem dX6_holds_100 : decode cX6_holds 100 = .ok (.aload_n 0, 1) := by decide +kernel
theorem dX6_holds_101 : decode cX6_holds 101 = .ok (.dup, 1) := by decide +kernel
theorem dX6_holds_102 : decode cX6_holds 102 = .ok (.getfield 136, 3) := by decide +kernel
theorem dX6_holds_105 : decode cX6_holds 105 = .ok (.iconst 1, 1) := by decide +kernel
theorem dX6_holds_106 : decode cX6_holds 106 = .ok (.iadd, 1) := by decide +kernel
theorem dX6_holds_107 : decode cX6_holds 107 = .ok (.putfield 136, 3) := by decide +kernel
theorem dX6_holds_110 : decode cX6_holds 110 = .ok (.iinc 2 1, 3) := by decide +kernel
theorem dX6_holds_113 : decode cX6_holds 113 = .ok (.goto (-111), 3) := by decide +kernel
theorem dX6_holds_116 : decode cX6_holds 116 = .ok (.return_, 1) := by decide +kernel
set_option maxRecDepth 20000 in
theorem ggX6_tries_X6_fills : GoodIn wsX6_tries wsX6_fills := goodIn_r _ [9, 2, 1, 10, 3, 11, 12, 13, 8, 14, 15, 16, 17, 18, 19, 20, 4, 21, 22, 23, 24, 34, 35, 36, 37, 38, 39, 40, 41, 42, 43, 44, 45, 46, 47, 48, 49, 50, 51, 52, 53, 54, 55, 56] (by decide +kernel) (by decide +kernel)
set_option maxRecDepth 20000 in
theorem gX6_tries_X6_fills : GoodIn wsX6_tries (wsV RX6 148 RX6 yX6_fills wsX6_fills) := goodIn_app (goodIn_of _ (by decide +kernel)) ggX6_tries_X6_fills
set_option maxRecDepth 20000 in
theorem ggX6_tries_X6_why : GoodIn wsX6_tries wsX6_why := goodIn_r _ [28, 2, 3, 34, 35, 36, 37, 38, 39, 40, 41, 42, 43, 44, 45, 46, 47, 48, 49, 50, 51, 52, 53, 54, 55, 56] (by decide +kernel) (by decide +kernel)
set_option maxRecDepth 20000 in
theorem gX6_tries_X6_why : GoodIn wsX6_tries (wsV RX6 152 RX6 yX6_why wsX6_why) := goodIn_app (goodIn_of _ (by decide +kernel)) ggX6_tries_X6_why
set_option maxRecDepth 20000 in
theorem ggX6_tries_X6_holds : GoodIn wsX6_tries wsX6_holds := goodIn_r _ [32, 4, 1, 33, 3, 2, 21, 22, 23, 8, 24, 10, 34, 35, 36, 37, 38, 39, 40, 41, 42, 43, 44, 45, 46, 47, 48, 49, 50, 51, 52, 53, 54, 55, 56] (by decide +kernel) (by decide +kernel)
set_option maxRecDepth 20000 in
theorem gX6_tries_X6_holds : GoodIn wsX6_tries (wsV RX6 155 RX6 yX6_holds wsX6_holds) := goodIn_app (goodIn_of _ (by decide +kernel)) ggX6_tries_X6_holds
theorem dX6_tries_0 : decode cX6_tries 0 = .ok (.iconst 0, 1) := by decide +kernel
theorem dX6_tries_1 : decode cX6_tries 1 = .ok (.istore_n 2, 1) := by decide +kernel
theorem dX6_tries_2 : decode cX6_tries 2 = .ok (.iload_n 2, 1) := by decide +kernel
theorem dX6_tries_3 : decode cX6_tries 3 = .ok (.bipush 84, 2) := by decide +kernel
theorem dX6_tries_5 : decode cX6_tries 5 = .ok (.if_icmp .ge 27, 3) := by decide +kernel
theorem dX6_tries_8 : decode cX6_tries 8 = .ok (.aload_n 0, 1) := by decide +kernel
theorem dX6_tries_9 : decode cX6_tries 9 = .ok (.getfield 31, 3) := by decide +kernel
theorem dX6_tries_12 : decode cX6_tries 12 = .ok (.iload_n 2, 1) := by decide +kernel
theorem dX6_tries_13 : decode cX6_tries 13 = .ok (.iload_n 2, 1) := by decide +kernel
theorem dX6_tries_14 : decode cX6_tries 14 = .ok (.bipush 72, 2) := by decide +kernel
theorem dX6_tries_16 : decode cX6_tries 16 = .ok (.if_icmp .lt 8, 3) := by decide +kernel
theorem dX6_tries_19 : decode cX6_tries 19 = .ok (.bipush (-4), 2) := by decide +kernel
theorem dX6_tries_21 : decode cX6_tries 21 = .ok (.goto 4, 3) := by decide +kernel
theorem dX6_tries_24 : decode cX6_tries 24 = .ok (.iconst 0, 1) := by decide +kernel
theorem dX6_tries_25 : decode cX6_tries 25 = .ok (.iastore, 1) := by decide +kernel
theorem dX6_tries_26 : decode cX6_tries 26 = .ok (.iinc 2 1, 3) := by decide +kernel
theorem dX6_tries_29 : decode cX6_tries 29 = .ok (.goto (-27), 3) := by decide +kernel
theorem dX6_tries_32 : decode cX6_tries 32 = .ok (.aload_n 0, 1) := by decide +kernel
theorem dX6_tries_33 : decode cX6_tries 33 = .ok (.iconst 0, 1) := by decide +kernel
theorem dX6_tries_34 : decode cX6_tries 34 = .ok (.putfield 136, 3) := by decide +kernel
theorem dX6_tries_37 : decode cX6_tries 37 = .ok (.iconst 0, 1) := by decide +kernel
theorem dX6_tries_38 : decode cX6_tries 38 = .ok (.istore_n 2, 1) := by decide +kernel
theorem dX6_tries_39 : decode cX6_tries 39 = .ok (.bipush (-4), 2) := by decide +kernel
theorem dX6_tries_41 : decode cX6_tries 41 = .ok (.istore_n 3, 1) := by decide +kernel
theorem dX6_tries_42 : decode cX6_tries 42 = .ok (.iload_n 3, 1) := by decide +kernel
theorem dX6_tries_43 : decode cX6_tries 43 = .ok (.ifCond .ge 38, 3) := by decide +kernel
theorem dX6_tries_46 : decode cX6_tries 46 = .ok (.iinc 2 1, 3) := by decide +kernel
theorem dX6_tries_49 : decode cX6_tries 49 = .ok (.aload_n 0, 1) := by decide +kernel
theorem dX6_tries_50 : decode cX6_tries 50 = .ok (.iload_n 2, 1) := by decide +kernel
theorem dX6_tries_51 : decode cX6_tries 51 = .ok (.iload_n 1, 1) := by decide +kernel
theorem dX6_tries_52 : decode cX6_tries 52 = .ok (.invokevirtual 148, 3) := by decide +kernel
theorem dX6_tries_55 : decode cX6_tries 55 = .ok (.istore 4, 2) := by decide +kernel
theorem dX6_tries_57 : decode cX6_tries 57 = .ok (.aload_n 0, 1) := by decide +kernel
theorem dX6_tries_58 : decode cX6_tries 58 = .ok (.getfield 31, 3) := by decide +kernel
theorem dX6_tries_61 : decode cX6_tries 61 = .ok (.bipush 6, 2) := by decide +kernel
theorem dX6_tries_63 : decode cX6_tries 63 = .ok (.iload_n 2, 1) := by decide +kernel
theorem dX6_tries_64 : decode cX6_tries 64 = .ok (.iadd, 1) := by decide +kernel
theorem dX6_tries_65 : decode cX6_tries 65 = .ok (.iconst 1, 1) := by decide +kernel
theorem dX6_tries_66 : decode cX6_tries 66 = .ok (.isub, 1) := by decide +kernel
theorem dX6_tries_67 : decode cX6_tries 67 = .ok (.iload 4, 2) := by decide +kernel
theorem dX6_tries_69 : decode cX6_tries 69 = .ok (.iastore, 1) := by decide +kernel
theorem dX6_tries_70 : decode cX6_tries 70 = .ok (.aload_n 0, 1) := by decide +kernel
theorem dX6_tries_71 : decode cX6_tries 71 = .ok (.iload_n 2, 1) := by decide +kernel
theorem dX6_tries_72 : decode cX6_tries 72 = .ok (.iload 4, 2) := by decide +kernel
theorem dX6_tries_74 : decode cX6_tries 74 = .ok (.invokevirtual 152, 3) := by decide +kernel
theorem dX6_tries_77 : decode cX6_tries 77 = .ok (.istore_n 3, 1) := by decide +kernel
theorem dX6_tries_78 : decode cX6_tries 78 = .ok (.goto (-36), 3) := by decide +kernel
theorem dX6_tries_81 : decode cX6_tries 81 = .ok (.aload_n 0, 1) := by decide +kernel
theorem dX6_tries_82 : decode cX6_tries 82 = .ok (.getfield 31, 3) := by decide +kernel
theorem dX6_tries_85 : decode cX6_tries 85 = .ok (.iconst 0, 1) := by decide +kernel
theorem dX6_tries_86 : decode cX6_tries 86 = .ok (.iload_n 2, 1) := by decide +kernel
theorem dX6_tries_87 : decode cX6_tries 87 = .ok (.iastore, 1) := by decide +kernel
theorem dX6_tries_88 : decode cX6_tries 88 = .ok (.aload_n 0, 1) := by decide +kernel
theorem dX6_tries_89 : decode cX6_tries 89 = .ok (.getfield 31, 3) := by decide +kernel
theorem dX6_tries_92 : decode cX6_tries 92 = .ok (.iconst 2, 1) := by decide +kernel
theorem dX6_tries_93 : decode cX6_tries 93 = .ok (.iload_n 3, 1) := by decide +kernel
theorem dX6_tries_94 : decode cX6_tries 94 = .ok (.iastore, 1) := by decide +kernel
theorem dX6_tries_95 : decode cX6_tries 95 = .ok (.iconst 0, 1) := by decide +kernel
theorem dX6_tries_96 : decode cX6_tries 96 = .ok (.istore 4, 2) := by decide +kernel
theorem dX6_tries_98 : decode cX6_tries 98 = .ok (.iload 4, 2) := by decide +kernel
theorem dX6_tries_100 : decode cX6_tries 100 = .ok (.aload_n 0, 1) := by decide +kernel
theorem dX6_tries_101 : decode cX6_tries 101 = .ok (.getfield 25, 3) := by decide +kernel
theorem dX6_tries_104 : decode cX6_tries 104 = .ok (.sipush 1153, 3) := by decide +kernel
theorem dX6_tries_107 : decode cX6_tries 107 = .ok (.iaload, 1) := by decide +kernel
theorem dX6_tries_108 : decode cX6_tries 108 = .ok (.if_icmp .ge 36, 3) := by decide +kernel
theorem dX6_tries_111 : decode cX6_tries 111 = .ok (.iinc 2 1, 3) := by decide +kernel
theorem dX6_tries_114 : decode cX6_tries 114 = .ok (.aload_n 0, 1) := by decide +kernel
theorem dX6_tries_115 : decode cX6_tries 115 = .ok (.iload_n 2, 1) := by decide +kernel
theorem dX6_tries_116 : decode cX6_tries 116 = .ok (.invokevirtual 155, 3) := by decide +kernel
theorem dX6_tries_119 : decode cX6_tries 119 = .ok (.aload_n 0, 1) := by decide +kernel
theorem dX6_tries_120 : decode cX6_tries 120 = .ok (.getfield 31, 3) := by decide +kernel
theorem dX6_tries_123 : decode cX6_tries 123 = .ok (.bipush 6, 2) := by decide +kernel
theorem dX6_tries_125 : decode cX6_tries 125 = .ok (.iload_n 2, 1) := by decide +kernel
theorem dX6_tries_126 : decode cX6_tries 126 = .ok (.iadd, 1) := by decide +kernel
theorem dX6_tries_127 : decode cX6_tries 127 = .ok (.iconst 1, 1) := by decide +kernel
theorem dX6_tries_128 : decode cX6_tries 128 = .ok (.isub, 1) := by decide +kernel
theorem dX6_tries_129 : decode cX6_tries 129 = .ok (.aload_n 0, 1) := by decide +kernel
theorem dX6_tries_130 : decode cX6_tries 130 = .ok (.getfield 25, 3) := by decide +kernel
theorem dX6_tries_133 : decode cX6_tries 133 = .ok (.sipush 1152, 3) := by decide +kernel
theorem dX6_tries_136 : decode cX6_tries 136 = .ok (.iaload, 1) := by decide +kernel
theorem dX6_tries_137 : decode cX6_tries 137 = .ok (.iastore, 1) := by decide +kernel
theorem dX6_tries_138 : decode cX6_tries 138 = .ok (.iinc 4 1, 3) := by decide +kernel
theorem dX6_tries_141 : decode cX6_tries 141 = .ok (.goto (-43), 3) := by decide +kernel
theorem dX6_tries_144 : decode cX6_tries 144 = .ok (.aload_n 0, 1) := by decide +kernel
theorem dX6_tries_145 : decode cX6_tries 145 = .ok (.getfield 31, 3) := by decide +kernel
theorem dX6_tries_148 : decode cX6_tries 148 = .ok (.iconst 1, 1) := by decide +kernel
theorem dX6_tries_149 : decode cX6_tries 149 = .ok (.iload_n 2, 1) := by decide +kernel
theorem dX6_tries_150 : decode cX6_tries 150 = .ok (.iastore, 1) := by decide +kernel
theorem dX6_tries_151 : decode cX6_tries 151 = .ok (.aload_n 0, 1) := by decide +kernel
theorem dX6_tries_152 : decode cX6_tries 152 = .ok (.getfield 31, 3) := by decide +kernel
theorem dX6_tries_155 : decode cX6_tries 155 = .ok (.iconst 3, 1) := by decide +kernel
theorem dX6_tries_156 : decode cX6_tries 156 = .ok (.aload_n 0, 1) := by decide +kernel
theorem dX6_tries_157 : decode cX6_tries 157 = .ok (.getfield 136, 3) := by decide +kernel
theorem dX6_tries_160 : decode cX6_tries 160 = .ok (.iastore, 1) := by decide +kernel
theorem dX6_tries_161 : decode cX6_tries 161 = .ok (.aload_n 0, 1) := by decide +kernel
theorem dX6_tries_162 : decode cX6_tries 162 = .ok (.getfield 31, 3) := by decide +kernel
theorem dX6_tries_165 : decode cX6_tries 165 = .ok (.iconst 5, 1) := by decide +kernel
theorem dX6_tries_166 : decode cX6_tries 166 = .ok (.iload_n 2, 1) := by decide +kernel
theorem dX6_tries_167 : decode cX6_tries 167 = .ok (.aload_n 0, 1) := by decide +kernel
theorem dX6_tries_168 : decode cX6_tries 168 = .ok (.getfield 25, 3) := by decide +kernel
theorem dX6_tries_171 : decode cX6_tries 171 = .ok (.sipush 1154, 3) := by decide +kernel
theorem dX6_tries_174 : decode cX6_tries 174 = .ok (.iaload, 1) := by decide +kernel
theorem dX6_tries_175 : decode cX6_tries 175 = .ok (.iadd, 1) := by decide +kernel
theorem dX6_tries_176 : decode cX6_tries 176 = .ok (.iastore, 1) := by decide +kernel
theorem dX6_tries_177 : decode cX6_tries 177 = .ok (.bipush (-4), 2) := by decide +kernel
theorem dX6_tries_179 : decode cX6_tries 179 = .ok (.istore 4, 2) := by decide +kernel
theorem dX6_tries_181 : decode cX6_tries 181 = .ok (.bipush (-4), 2) := by decide +kernel
theorem dX6_tries_183 : decode cX6_tries 183 = .ok (.istore 5, 2) := by decide +kernel
theorem dX6_tries_185 : decode cX6_tries 185 = .ok (.iconst 0, 1) := by decide +kernel
theorem dX6_tries_186 : decode cX6_tries 186 = .ok (.istore 6, 2) := by decide +kernel
theorem dX6_tries_188 : decode cX6_tries 188 = .ok (.iload 6, 2) := by decide +kernel
theorem dX6_tries_190 : decode cX6_tries 190 = .ok (.aload_n 0, 1) := by decide +kernel
theorem dX6_tries_191 : decode cX6_tries 191 = .ok (.getfield 70, 3) := by decide +kernel
theorem dX6_tries_194 : decode cX6_tries 194 = .ok (.if_icmp .ge 67, 3) := by decide +kernel
theorem dX6_tries_197 : decode cX6_tries 197 = .ok (.aload_n 0, 1) := by decide +kernel
theorem dX6_tries_198 : decode cX6_tries 198 = .ok (.getfield 31, 3) := by decide +kernel
theorem dX6_tries_201 : decode cX6_tries 201 = .ok (.bipush 72, 2) := by decide +kernel
theorem dX6_tries_203 : decode cX6_tries 203 = .ok (.iload 6, 2) := by decide +kernel
theorem dX6_tries_205 : decode cX6_tries 205 = .ok (.iadd, 1) := by decide +kernel
theorem dX6_tries_206 : decode cX6_tries 206 = .ok (.iaload, 1) := by decide +kernel
theorem dX6_tries_207 : decode cX6_tries 207 = .ok (.istore 7, 2) := by decide +kernel
theorem dX6_tries_209 : decode cX6_tries 209 = .ok (.iload 7, 2) := by decide +kernel
theorem dX6_tries_211 : decode cX6_tries 211 = .ok (.bipush (-4), 2) := by decide +kernel
theorem dX6_tries_213 : decode cX6_tries 213 = .ok (.if_icmp .eq 22, 3) := by decide +kernel
theorem dX6_tries_216 : decode cX6_tries 216 = .ok (.iload 4, 2) := by decide +kernel
theorem dX6_tries_218 : decode cX6_tries 218 = .ok (.bipush (-4), 2) := by decide +kernel
theorem dX6_tries_220 : decode cX6_tries 220 = .ok (.if_icmp .eq 10, 3) := by decide +kernel
theorem dX6_tries_223 : decode cX6_tries 223 = .ok (.iload 7, 2) := by decide +kernel
theorem dX6_tries_225 : decode cX6_tries 225 = .ok (.iload 4, 2) := by decide +kernel
theorem dX6_tries_227 : decode cX6_tries 227 = .ok (.if_icmp .ge 8, 3) := by decide +kernel
theorem dX6_tries_230 : decode cX6_tries 230 = .ok (.iload 7, 2) := by decide +kernel
theorem dX6_tries_232 : decode cX6_tries 232 = .ok (.goto 5, 3) := by decide +kernel
theorem dX6_tries_235 : decode cX6_tries 235 = .ok (.iload 4, 2) := by decide +kernel
theorem dX6_tries_237 : decode cX6_tries 237 = .ok (.istore 4, 2) := by decide +kernel
theorem dX6_tries_239 : decode cX6_tries 239 = .ok (.iload 7, 2) := by decide +kernel
theorem dX6_tries_241 : decode cX6_tries 241 = .ok (.iload 5, 2) := by decide +kernel
theorem dX6_tries_243 : decode cX6_tries 243 = .ok (.if_icmp .le 8, 3) := by decide +kernel
theorem dX6_tries_246 : decode cX6_tries 246 = .ok (.iload 7, 2) := by decide +kernel
theorem dX6_tries_248 : decode cX6_tries 248 = .ok (.goto 5, 3) := by decide +kernel
theorem dX6_tries_251 : decode cX6_tries 251 = .ok (.iload 5, 2) := by decide +kernel
theorem dX6_tries_253 : decode cX6_tries 253 = .ok (.istore 5, 2) := by decide +kernel
theorem dX6_tries_255 : decode cX6_tries 255 = .ok (.iinc 6 1, 3) := by decide +kernel
theorem dX6_tries_258 : decode cX6_tries 258 = .ok (.goto (-70), 3) := by decide +kernel
theorem dX6_tries_261 : decode cX6_tries 261 = .ok (.aload_n 0, 1) := by decide +kernel
theorem dX6_tries_262 : decode cX6_tries 262 = .ok (.getfield 31, 3) := by decide +kernel
theorem dX6_tries_265 : decode cX6_tries 265 = .ok (.iconst 4, 1) := by decide +kernel
theorem dX6_tries_266 : decode cX6_tries 266 = .ok (.iload 4, 2) := by decide +kernel
theorem dX6_tries_268 : decode cX6_tries 268 = .ok (.bipush (-4), 2) := by decide +kernel
theorem dX6_tries_270 : decode cX6_tries 270 = .ok (.if_icmp .ne 7, 3) := by decide +kernel
theorem dX6_tries_273 : decode cX6_tries 273 = .ok (.iconst 0, 1) := by decide +kernel
theorem dX6_tries_274 : decode cX6_tries 274 = .ok (.goto 8, 3) := by decide +kernel
theorem dX6_tries_277 : decode cX6_tries 277 = .ok (.iload 5, 2) := by decide +kernel
theorem dX6_tries_279 : decode cX6_tries 279 = .ok (.iload 4, 2) := by decide +kernel
theorem dX6_tries_281 : decode cX6_tries 281 = .ok (.isub, 1) := by decide +kernel
theorem dX6_tries_282 : decode cX6_tries 282 = .ok (.iastore, 1) := by decide +kernel
theorem dX6_tries_283 : decode cX6_tries 283 = .ok (.return_, 1) := by decide +kernel
theorem dX6_told_0 : decode cX6_told 0 = .ok (.iload_n 2, 1) := by decide +kernel
theorem dX6_told_1 : decode cX6_told 1 = .ok (.bipush 6, 2) := by decide +kernel
theorem dX6_told_3 : decode cX6_told 3 = .ok (.if_icmp .ne 50, 3) := by decide +kernel
theorem dX6_told_6 : decode cX6_told 6 = .ok (.iconst 0, 1) := by decide +kernel
theorem dX6_told_7 : decode cX6_told 7 = .ok (.istore_n 3, 1) := by decide +kernel
theorem dX6_told_8 : decode cX6_told 8 = .ok (.iconst 0, 1) := by decide +kernel
theorem dX6_told_9 : decode cX6_told 9 = .ok (.istore 4, 2) := by decide +kernel
theorem dX6_told_11 : decode cX6_told 11 = .ok (.iload 4, 2) := by decide +kernel
theorem dX6_told_13 : decode cX6_told 13 = .ok (.bipush 60, 2) := by decide +kernel
theorem dX6_told_15 : decode cX6_told 15 = .ok (.if_icmp .ge 36, 3) := by decide +kernel
theorem dX6_told_18 : decode cX6_told 18 = .ok (.aload_n 0, 1) := by decide +kernel
theorem dX6_told_19 : decode cX6_told 19 = .ok (.iload_n 1, 1) := by decide +kernel
theorem dX6_told_20 : decode cX6_told 20 = .ok (.bipush 6, 2) := by decide +kernel
theorem dX6_told_22 : decode cX6_told 22 = .ok (.iadd, 1) := by decide +kernel
theorem dX6_told_23 : decode cX6_told 23 = .ok (.iload 4, 2) := by decide +kernel
theorem dX6_told_25 : decode cX6_told 25 = .ok (.iadd, 1) := by decide +kernel
theorem dX6_told_26 : decode cX6_told 26 = .ok (.iaload, 1) := by decide +kernel
theorem dX6_told_27 : decode cX6_told 27 = .ok (.iload_n 3, 1) := by decide +kernel
theorem dX6_told_28 : decode cX6_told 28 = .ok (.if_icmp .le 15, 3) := by decide +kernel
theorem dX6_told_31 : decode cX6_told 31 = .ok (.aload_n 0, 1) := by decide +kernel
theorem dX6_told_32 : decode cX6_told 32 = .ok (.iload_n 1, 1) := by decide +kernel
theorem dX6_told_33 : decode cX6_told 33 = .ok (.bipush 6, 2) := by decide +kernel
theorem dX6_told_35 : decode cX6_told 35 = .ok (.iadd, 1) := by decide +kernel
theorem dX6_told_36 : decode cX6_told 36 = .ok (.iload 4, 2) := by decide +kernel
theorem dX6_told_38 : decode cX6_told 38 = .ok (.iadd, 1) := by decide +kernel
theorem dX6_told_39 : decode cX6_told 39 = .ok (.iaload, 1) := by decide +kernel
theorem dX6_told_40 : decode cX6_told 40 = .ok (.goto 4, 3) := by decide +kernel
theorem dX6_told_43 : decode cX6_told 43 = .ok (.iload_n 3, 1) := by decide +kernel
theorem dX6_told_44 : decode cX6_told 44 = .ok (.istore_n 3, 1) := by decide +kernel
theorem dX6_told_45 : decode cX6_told 45 = .ok (.iinc 4 1, 3) := by decide +kernel
theorem dX6_told_48 : decode cX6_told 48 = .ok (.goto (-37), 3) := by decide +kernel
theorem dX6_told_51 : decode cX6_told 51 = .ok (.iload_n 3, 1) := by decide +kernel
theorem dX6_told_52 : decode cX6_told 52 = .ok (.ireturn, 1) := by decide +kernel
theorem dX6_told_53 : decode cX6_told 53 = .ok (.iload_n 2, 1) := by decide +kernel
theorem dX6_told_54 : decode cX6_told 54 = .ok (.iconst 3, 1) := by decide +kernel
theorem dX6_told_55 : decode cX6_told 55 = .ok (.if_icmp .ne 14, 3) := by decide +kernel
theorem dX6_told_58 : decode cX6_told 58 = .ok (.bipush 99, 2) := by decide +kernel
theorem dX6_told_60 : decode cX6_told 60 = .ok (.aload_n 0, 1) := by decide +kernel
theorem dX6_told_61 : decode cX6_told 61 = .ok (.iload_n 1, 1) := by decide +kernel
theorem dX6_told_62 : decode cX6_told 62 = .ok (.iconst 3, 1) := by decide +kernel
theorem dX6_told_63 : decode cX6_told 63 = .ok (.iadd, 1) := by decide +kernel
theorem dX6_told_64 : decode cX6_told 64 = .ok (.iaload, 1) := by decide +kernel
theorem dX6_told_65 : decode cX6_told 65 = .ok (.isub, 1) := by decide +kernel
theorem dX6_told_66 : decode cX6_told 66 = .ok (.goto 8, 3) := by decide +kernel
theorem dX6_told_69 : decode cX6_told 69 = .ok (.aload_n 0, 1) := by decide +kernel
theorem dX6_told_70 : decode cX6_told 70 = .ok (.iload_n 1, 1) := by decide +kernel
theorem dX6_told_71 : decode cX6_told 71 = .ok (.iload_n 2, 1) := by decide +kernel
theorem dX6_told_72 : decode cX6_told 72 = .ok (.iadd, 1) := by decide +kernel
theorem dX6_told_73 : decode cX6_told 73 = .ok (.iaload, 1) := by decide +kernel
theorem dX6_told_74 : decode cX6_told 74 = .ok (.ireturn, 1) := by decide +kernel
theorem dX6_keeps_0 : decode cX6_keeps 0 = .ok (.aload_n 0, 1) := by decide +kernel
theorem dX6_keeps_1 : decode cX6_keeps 1 = .ok (.getfield 79, 3) := by decide +kernel
theorem dX6_keeps_4 : decode cX6_keeps 4 = .ok (.iconst 4, 1) := by decide +kernel
theorem dX6_keeps_5 : decode cX6_keeps 5 = .ok (.if_icmp .ne 44, 3) := by decide +kernel
theorem dX6_keeps_8 : decode cX6_keeps 8 = .ok (.iconst 0, 1) := by decide +kernel
theorem dX6_keeps_9 : decode cX6_keeps 9 = .ok (.istore_n 1, 1) := by decide +kernel
theorem dX6_keeps_10 : decode cX6_keeps 10 = .ok (.iload_n 1, 1) := by decide +kernel
theorem dX6_keeps_11 : decode cX6_keeps 11 = .ok (.sipush 3465, 3) := by decide +kernel
theorem dX6_keeps_14 : decode cX6_keeps 14 = .ok (.if_icmp .ge 25, 3) := by decide +kernel
theorem dX6_keeps_17 : decode cX6_keeps 17 = .ok (.aload_n 0, 1) := by decide +kernel
theorem dX6_keeps_18 : decode cX6_keeps 18 = .ok (.getfield 28, 3) := by decide +kernel
theorem dX6_keeps_21 : decode cX6_keeps 21 = .ok (.iload_n 1, 1) := by decide +kernel
theorem dX6_keeps_22 : decode cX6_keeps 22 = .ok (.aload_n 0, 1) := by decide +kernel
theorem dX6_keeps_23 : decode cX6_keeps 23 = .ok (.getfield 28, 3) := by decide +kernel
theorem dX6_keeps_26 : decode cX6_keeps 26 = .ok (.iload_n 1, 1) := by decide +kernel
theorem dX6_keeps_27 : decode cX6_keeps 27 = .ok (.sipush 1155, 3) := by decide +kernel
theorem dX6_keeps_30 : decode cX6_keeps 30 = .ok (.iadd, 1) := by decide +kernel
theorem dX6_keeps_31 : decode cX6_keeps 31 = .ok (.iaload, 1) := by decide +kernel
theorem dX6_keeps_32 : decode cX6_keeps 32 = .ok (.iastore, 1) := by decide +kernel
theorem dX6_keeps_33 : decode cX6_keeps 33 = .ok (.iinc 1 1, 3) := by decide +kernel
theorem dX6_keeps_36 : decode cX6_keeps 36 = .ok (.goto (-26), 3) := by decide +kernel
theorem dX6_keeps_39 : decode cX6_keeps 39 = .ok (.aload_n 0, 1) := by decide +kernel
theorem dX6_keeps_40 : decode cX6_keeps 40 = .ok (.dup, 1) := by decide +kernel
theorem dX6_keeps_41 : decode cX6_keeps 41 = .ok (.getfield 79, 3) := by decide +kernel
theorem dX6_keeps_44 : decode cX6_keeps 44 = .ok (.iconst 1, 1) := by decide +kernel
theorem dX6_keeps_45 : decode cX6_keeps 45 = .ok (.isub, 1) := by decide +kernel
theorem dX6_keeps_46 : decode cX6_keeps 46 = .ok (.putfield 79, 3) := by decide +kernel
theorem dX6_keeps_49 : decode cX6_keeps 49 = .ok (.iconst 0, 1) := by decide +kernel
theorem dX6_keeps_50 : decode cX6_keeps 50 = .ok (.istore_n 1, 1) := by decide +kernel
theorem dX6_keeps_51 : decode cX6_keeps 51 = .ok (.iload_n 1, 1) := by decide +kernel
theorem dX6_keeps_52 : decode cX6_keeps 52 = .ok (.sipush 1155, 3) := by decide +kernel
theorem dX6_keeps_55 : decode cX6_keeps 55 = .ok (.if_icmp .ge 30, 3) := by decide +kernel
theorem dX6_keeps_58 : decode cX6_keeps 58 = .ok (.aload_n 0, 1) := by decide +kernel
theorem dX6_keeps_59 : decode cX6_keeps 59 = .ok (.getfield 28, 3) := by decide +kernel
theorem dX6_keeps_62 : decode cX6_keeps 62 = .ok (.sipush 1155, 3) := by decide +kernel
theorem dX6_keeps_65 : decode cX6_keeps 65 = .ok (.aload_n 0, 1) := by decide +kernel
theorem dX6_keeps_66 : decode cX6_keeps 66 = .ok (.getfield 79, 3) := by decide +kernel
theorem dX6_keeps_69 : decode cX6_keeps 69 = .ok (.imul, 1) := by decide +kernel
theorem dX6_keeps_70 : decode cX6_keeps 70 = .ok (.iload_n 1, 1) := by decide +kernel
theorem dX6_keeps_71 : decode cX6_keeps 71 = .ok (.iadd, 1) := by decide +kernel
theorem dX6_keeps_72 : decode cX6_keeps 72 = .ok (.aload_n 0, 1) := by decide +kernel
theorem dX6_keeps_73 : decode cX6_keeps 73 = .ok (.getfield 25, 3) := by decide +kernel
theorem dX6_keeps_76 : decode cX6_keeps 76 = .ok (.iload_n 1, 1) := by decide +kernel
theorem dX6_keeps_77 : decode cX6_keeps 77 = .ok (.iaload, 1) := by decide +kernel
theorem dX6_keeps_78 : decode cX6_keeps 78 = .ok (.iastore, 1) := by decide +kernel
theorem dX6_keeps_79 : decode cX6_keeps 79 = .ok (.iinc 1 1, 3) := by decide +kernel
theorem dX6_keeps_82 : decode cX6_keeps 82 = .ok (.goto (-31), 3) := by decide +kernel
theorem dX6_keeps_85 : decode cX6_keeps 85 = .ok (.aload_n 0, 1) := by decide +kernel
theorem dX6_keeps_86 : decode cX6_keeps 86 = .ok (.dup, 1) := by decide +kernel
theorem dX6_keeps_87 : decode cX6_keeps 87 = .ok (.getfield 79, 3) := by decide +kernel
theorem dX6_keeps_90 : decode cX6_keeps 90 = .ok (.iconst 1, 1) := by decide +kernel
theorem dX6_keeps_91 : decode cX6_keeps 91 = .ok (.iadd, 1) := by decide +kernel
theorem dX6_keeps_92 : decode cX6_keeps 92 = .ok (.putfield 79, 3) := by decide +kernel
theorem dX6_keeps_95 : decode cX6_keeps 95 = .ok (.return_, 1) := by decide +kernel
theorem dX6_undo_0 : decode cX6_undo 0 = .ok (.aload_n 0, 1) := by decide +kernel
theorem dX6_undo_1 : decode cX6_undo 1 = .ok (.getfield 79, 3) := by decide +kernel
theorem dX6_undo_4 : decode cX6_undo 4 = .ok (.ifCond .ne 6, 3) := by decide +kernel
theorem dX6_undo_7 : decode cX6_undo 7 = .ok (.bipush (-2), 2) := by decide +kernel
theorem dX6_undo_9 : decode cX6_undo 9 = .ok (.ireturn, 1) := by decide +kernel
theorem dX6_undo_10 : decode cX6_undo 10 = .ok (.aload_n 0, 1) := by decide +kernel
theorem dX6_undo_11 : decode cX6_undo 11 = .ok (.dup, 1) := by decide +kernel
theorem dX6_undo_12 : decode cX6_undo 12 = .ok (.getfield 79, 3) := by decide +kernel
theorem dX6_undo_15 : decode cX6_undo 15 = .ok (.iconst 1, 1) := by decide +kernel
theorem dX6_undo_16 : decode cX6_undo 16 = .ok (.isub, 1) := by decide +kernel
theorem dX6_undo_17 : decode cX6_undo 17 = .ok (.putfield 79, 3) := by decide +kernel
theorem dX6_undo_20 : decode cX6_undo 20 = .ok (.iconst 0, 1) := by decide +kernel
theorem dX6_undo_21 : decode cX6_undo 21 = .ok (.istore_n 1, 1) := by decide +kernel
theorem dX6_undo_22 : decode cX6_undo 22 = .ok (.iload_n 1, 1) := by decide +kernel
theorem dX6_undo_23 : decode cX6_undo 23 = .ok (.sipush 1155, 3) := by decide +kernel
theorem dX6_undo_26 : decode cX6_undo 26 = .ok (.if_icmp .ge 30, 3) := by decide +kernel
theorem dX6_undo_29 : decode cX6_undo 29 = .ok (.aload_n 0, 1) := by decide +kernel
theorem dX6_undo_30 : decode cX6_undo 30 = .ok (.getfield 25, 3) := by decide +kernel
theorem dX6_undo_33 : decode cX6_undo 33 = .ok (.iload_n 1, 1) := by decide +kernel
theorem dX6_undo_34 : decode cX6_undo 34 = .ok (.aload_n 0, 1) := by decide +kernel
theorem dX6_undo_35 : decode cX6_undo 35 = .ok (.getfield 28, 3) := by decide +kernel
theorem dX6_undo_38 : decode cX6_undo 38 = .ok (.sipush 1155, 3) := by decide +kernel
theorem dX6_undo_41 : decode cX6_undo 41 = .ok (.aload_n 0, 1) := by decide +kernel
theorem dX6_undo_42 : decode cX6_undo 42 = .ok (.getfield 79, 3) := by decide +kernel
theorem dX6_undo_45 : decode cX6_undo 45 = .ok (.imul, 1) := by decide +kernel
theorem dX6_undo_46 : decode cX6_undo 46 = .ok (.iload_n 1, 1) := by decide +kernel
theorem dX6_undo_47 : decode cX6_undo 47 = .ok (.iadd, 1) := by decide +kernel
theorem dX6_undo_48 : decode cX6_undo 48 = .ok (.iaload, 1) := by decide +kernel
theorem dX6_undo_49 : decode cX6_undo 49 = .ok (.iastore, 1) := by decide +kernel
theorem dX6_undo_50 : decode cX6_undo 50 = .ok (.iinc 1 1, 3) := by decide +kernel
theorem dX6_undo_53 : decode cX6_undo 53 = .ok (.goto (-31), 3) := by decide +kernel
theorem dX6_undo_56 : decode cX6_undo 56 = .ok (.aload_n 0, 1) := by decide +kernel
theorem dX6_undo_57 : decode cX6_undo 57 = .ok (.getfield 79, 3) := by decide +kernel
theorem dX6_undo_60 : decode cX6_undo 60 = .ok (.ireturn, 1) := by decide +kernel
set_option maxRecDepth 20000 in
theorem ggX6_becomes_X6_keeps : GoodIn wsX6_becomes wsX6_keeps := goodIn_r _ [6, 7, 8, 1, 9, 10, 11, 12, 13, 14, 15, 16, 17, 18, 19, 20, 21, 22, 23, 24, 25, 26, 27, 28, 29, 30, 31] (by decide +kernel) (by decide +kernel)
set_option maxRecDepth 20000 in
theorem gX6_becomes_X6_keeps : GoodIn wsX6_becomes (wsV RX6 159 RX6 yX6_keeps wsX6_keeps) := goodIn_app (goodIn_of _ (by decide +kernel)) ggX6_becomes_X6_keeps
theorem dX6_becomes_0 : decode cX6_becomes 0 = .ok (.aload_n 0, 1) := by decide +kernel
theorem dX6_becomes_1 : decode cX6_becomes 1 = .ok (.getfield 25, 3) := by decide +kernel
theorem dX6_becomes_4 : decode cX6_becomes 4 = .ok (.iload_n 1, 1) := by decide +kernel
theorem dX6_becomes_5 : decode cX6_becomes 5 = .ok (.iaload, 1) := by decide +kernel
theorem dX6_becomes_6 : decode cX6_becomes 6 = .ok (.istore_n 3, 1) := by decide +kernel
theorem dX6_becomes_7 : decode cX6_becomes 7 = .ok (.iload_n 3, 1) := by decide +kernel
theorem dX6_becomes_8 : decode cX6_becomes 8 = .ok (.iload_n 2, 1) := by decide +kernel
theorem dX6_becomes_9 : decode cX6_becomes 9 = .ok (.if_icmp .ne 6, 3) := by decide +kernel
theorem dX6_becomes_12 : decode cX6_becomes 12 = .ok (.bipush (-2), 2) := by decide +kernel
theorem dX6_becomes_14 : decode cX6_becomes 14 = .ok (.ireturn, 1) := by decide +kernel
theorem dX6_becomes_15 : decode cX6_becomes 15 = .ok (.aload_n 0, 1) := by decide +kernel
theorem dX6_becomes_16 : decode cX6_becomes 16 = .ok (.invokevirtual 159, 3) := by decide +kernel
theorem dX6_becomes_19 : decode cX6_becomes 19 = .ok (.aload_n 0, 1) := by decide +kernel
theorem dX6_becomes_20 : decode cX6_becomes 20 = .ok (.getfield 25, 3) := by decide +kernel
theorem dX6_becomes_23 : decode cX6_becomes 23 = .ok (.iload_n 1, 1) := by decide +kernel
theorem dX6_becomes_24 : decode cX6_becomes 24 = .ok (.iload_n 2, 1) := by decide +kernel
theorem dX6_becomes_25 : decode cX6_becomes 25 = .ok (.iastore, 1) := by decide +kernel
theorem dX6_becomes_26 : decode cX6_becomes 26 = .ok (.iload_n 3, 1) := by decide +kernel
theorem dX6_becomes_27 : decode cX6_becomes 27 = .ok (.ireturn, 1) := by decide +kernel
theorem dX6_bits_0 : decode cX6_bits 0 = .ok (.iconst 0, 1) := by decide +kernel
theorem dX6_bits_1 : decode cX6_bits 1 = .ok (.istore_n 1, 1) := by decide +kernel
theorem dX6_bits_2 : decode cX6_bits 2 = .ok (.iconst 0, 1) := by decide +kernel
theorem dX6_bits_3 : decode cX6_bits 3 = .ok (.istore_n 2, 1) := by decide +kernel
theorem dX6_bits_4 : decode cX6_bits 4 = .ok (.iload_n 2, 1) := by decide +kernel
theorem dX6_bits_5 : decode cX6_bits 5 = .ok (.iconst 4, 1) := by decide +kernel
theorem dX6_bits_6 : decode cX6_bits 6 = .ok (.if_icmp .ge 17, 3) := by decide +kernel
theorem dX6_bits_9 : decode cX6_bits 9 = .ok (.iload_n 1, 1) := by decide +kernel
theorem dX6_bits_10 : decode cX6_bits 10 = .ok (.iload_n 0, 1) := by decide +kernel
theorem dX6_bits_11 : decode cX6_bits 11 = .ok (.iload_n 2, 1) := by decide +kernel
theorem dX6_bits_12 : decode cX6_bits 12 = .ok (.ishr, 1) := by decide +kernel
theorem dX6_bits_13 : decode cX6_bits 13 = .ok (.iconst 1, 1) := by decide +kernel
theorem dX6_bits_14 : decode cX6_bits 14 = .ok (.iand, 1) := by decide +kernel
theorem dX6_bits_15 : decode cX6_bits 15 = .ok (.iadd, 1) := by decide +kernel
theorem dX6_bits_16 : decode cX6_bits 16 = .ok (.istore_n 1, 1) := by decide +kernel
theorem dX6_bits_17 : decode cX6_bits 17 = .ok (.iinc 2 1, 3) := by decide +kernel
theorem dX6_bits_20 : decode cX6_bits 20 = .ok (.goto (-16), 3) := by decide +kernel
theorem dX6_bits_23 : decode cX6_bits 23 = .ok (.iload_n 1, 1) := by decide +kernel
theorem dX6_bits_24 : decode cX6_bits 24 = .ok (.ireturn, 1) := by decide +kernel
set_option maxRecDepth 20000 in
theorem ggX6_isCore_X6_isIn : GoodIn wsX6_isCore wsX6_isIn := goodIn_r _ [5] (by decide +kernel) (by decide +kernel)
set_option maxRecDepth 20000 in
theorem gX6_isCore_X6_isIn : GoodIn wsX6_isCore (va_wsS RX6 95 yX6_isIn wsX6_isIn) := goodIn_app (goodIn_of _ (by decide +kernel)) ggX6_isCore_X6_isIn
theorem dX6_isCore_0 : decode cX6_isCore 0 = .ok (.iload_n 1, 1) := by decide +kernel
theorem dX6_isCore_1 : decode cX6_isCore 1 = .ok (.iconst 0, 1) := by decide +kernel
theorem dX6_isCore_2 : decode cX6_isCore 2 = .ok (.aload_n 0, 1) := by decide +kernel
theorem dX6_isCore_3 : decode cX6_isCore 3 = .ok (.getfield 73, 3) := by decide +kernel
theorem dX6_isCore_6 : decode cX6_isCore 6 = .ok (.iconst 1, 1) := by decide +kernel
theorem dX6_isCore_7 : decode cX6_isCore 7 = .ok (.isub, 1) := by decide +kernel
theorem dX6_isCore_8 : decode cX6_isCore 8 = .ok (.invokestatic 95, 3) := by decide +kernel
theorem dX6_isCore_11 : decode cX6_isCore 11 = .ok (.ireturn, 1) := by decide +kernel
set_option maxRecDepth 20000 in
theorem ggX6_isCavity_X6_isIn : GoodIn wsX6_isCavity wsX6_isIn := goodIn_r _ [5] (by decide +kernel) (by decide +kernel)
set_option maxRecDepth 20000 in
theorem gX6_isCavity_X6_isIn : GoodIn wsX6_isCavity (va_wsS RX6 95 yX6_isIn wsX6_isIn) := goodIn_app (goodIn_of _ (by decide +kernel)) ggX6_isCavity_X6_isIn
theorem dX6_isCavity_0 : decode cX6_isCavity 0 = .ok (.iload_n 1, 1) := by decide +kernel
theorem dX6_isCavity_1 : decode cX6_isCavity 1 = .ok (.iconst 0, 1) := by decide +kernel
theorem dX6_isCavity_2 : decode cX6_isCavity 2 = .ok (.aload_n 0, 1) := by decide +kernel
theorem dX6_isCavity_3 : decode cX6_isCavity 3 = .ok (.getfield 70, 3) := by decide +kernel
theorem dX6_isCavity_6 : decode cX6_isCavity 6 = .ok (.iconst 1, 1) := by decide +kernel
theorem dX6_isCavity_7 : decode cX6_isCavity 7 = .ok (.isub, 1) := by decide +kernel
theorem dX6_isCavity_8 : decode cX6_isCavity 8 = .ok (.invokestatic 95, 3) := by decide +kernel
theorem dX6_isCavity_11 : decode cX6_isCavity 11 = .ok (.ireturn, 1) := by decide +kernel
set_option maxRecDepth 20000 in
theorem ggX6_isShot_X6_isIn : GoodIn wsX6_isShot wsX6_isIn := goodIn_r _ [5] (by decide +kernel) (by decide +kernel)
set_option maxRecDepth 20000 in
theorem gX6_isShot_X6_isIn : GoodIn wsX6_isShot (va_wsS RX6 95 yX6_isIn wsX6_isIn) := goodIn_app (goodIn_of _ (by decide +kernel)) ggX6_isShot_X6_isIn
theorem dX6_isShot_0 : decode cX6_isShot 0 = .ok (.iload_n 1, 1) := by decide +kernel
theorem dX6_isShot_1 : decode cX6_isShot 1 = .ok (.iconst 0, 1) := by decide +kernel
theorem dX6_isShot_2 : decode cX6_isShot 2 = .ok (.aload_n 0, 1) := by decide +kernel
theorem dX6_isShot_3 : decode cX6_isShot 3 = .ok (.getfield 25, 3) := by decide +kernel
theorem dX6_isShot_6 : decode cX6_isShot 6 = .ok (.sipush 1008, 3) := by decide +kernel
theorem dX6_isShot_9 : decode cX6_isShot 9 = .ok (.iaload, 1) := by decide +kernel
theorem dX6_isShot_10 : decode cX6_isShot 10 = .ok (.iconst 1, 1) := by decide +kernel
theorem dX6_isShot_11 : decode cX6_isShot 11 = .ok (.isub, 1) := by decide +kernel
theorem dX6_isShot_12 : decode cX6_isShot 12 = .ok (.invokestatic 95, 3) := by decide +kernel
theorem dX6_isShot_15 : decode cX6_isShot 15 = .ok (.ireturn, 1) := by decide +kernel
set_option maxRecDepth 20000 in
theorem ggX6_mould_X6_isIn : GoodIn wsX6_mould wsX6_isIn := goodIn_r _ [5] (by decide +kernel) (by decide +kernel)
set_option maxRecDepth 20000 in
theorem gX6_mould_X6_isIn : GoodIn wsX6_mould (va_wsS RX6 95 yX6_isIn wsX6_isIn) := goodIn_app (goodIn_of _ (by decide +kernel)) ggX6_mould_X6_isIn
set_option maxRecDepth 20000 in
theorem ggX6_mould_X6_keeps : GoodIn wsX6_mould wsX6_keeps := goodIn_r _ [9, 10, 11, 1, 12, 13, 14, 15, 16, 17, 18, 19, 20, 21, 22, 23, 24, 25, 26, 27, 28, 29, 30, 31, 32, 33, 34] (by decide +kernel) (by decide +kernel)
set_option maxRecDepth 20000 in
theorem gX6_mould_X6_keeps : GoodIn wsX6_mould (wsV RX6 159 RX6 yX6_keeps wsX6_keeps) := goodIn_app (goodIn_of _ (by decide +kernel)) ggX6_mould_X6_keeps
theorem dX6_mould_0 : decode cX6_mould 0 = .ok (.iload_n 1, 1) := by decide +kernel
theorem dX6_mould_1 : decode cX6_mould 1 = .ok (.iconst 0, 1) := by decide +kernel
theorem dX6_mould_2 : decode cX6_mould 2 = .ok (.iconst 1, 1) := by decide +kernel
theorem dX6_mould_3 : decode cX6_mould 3 = .ok (.invokestatic 95, 3) := by decide +kernel
theorem dX6_mould_6 : decode cX6_mould 6 = .ok (.ifCond .ne 5, 3) := by decide +kernel
theorem dX6_mould_9 : decode cX6_mould 9 = .ok (.iconst (-1), 1) := by decide +kernel
theorem dX6_mould_10 : decode cX6_mould 10 = .ok (.ireturn, 1) := by decide +kernel
theorem dX6_mould_11 : decode cX6_mould 11 = .ok (.aload_n 0, 1) := by decide +kernel
theorem dX6_mould_12 : decode cX6_mould 12 = .ok (.getfield 25, 3) := by decide +kernel
theorem dX6_mould_15 : decode cX6_mould 15 = .ok (.sipush 1010, 3) := by decide +kernel
theorem dX6_mould_18 : decode cX6_mould 18 = .ok (.iaload, 1) := by decide +kernel
theorem dX6_mould_19 : decode cX6_mould 19 = .ok (.iload_n 1, 1) := by decide +kernel
theorem dX6_mould_20 : decode cX6_mould 20 = .ok (.if_icmp .eq 30, 3) := by decide +kernel
theorem dX6_mould_23 : decode cX6_mould 23 = .ok (.iload_n 1, 1) := by decide +kernel
theorem dX6_mould_24 : decode cX6_mould 24 = .ok (.ifCond .ne 29, 3) := by decide +kernel
theorem dX6_mould_27 : decode cX6_mould 27 = .ok (.aload_n 0, 1) := by decide +kernel
theorem dX6_mould_28 : decode cX6_mould 28 = .ok (.getfield 25, 3) := by decide +kernel
theorem dX6_mould_31 : decode cX6_mould 31 = .ok (.sipush 1011, 3) := by decide +kernel
theorem dX6_mould_34 : decode cX6_mould 34 = .ok (.iaload, 1) := by decide +kernel
theorem dX6_mould_35 : decode cX6_mould 35 = .ok (.ifCond .ne 15, 3) := by decide +kernel
theorem dX6_mould_38 : decode cX6_mould 38 = .ok (.aload_n 0, 1) := by decide +kernel
theorem dX6_mould_39 : decode cX6_mould 39 = .ok (.getfield 25, 3) := by decide +kernel
theorem dX6_mould_42 : decode cX6_mould 42 = .ok (.sipush 1013, 3) := by decide +kernel
theorem dX6_mould_45 : decode cX6_mould 45 = .ok (.iaload, 1) := by decide +kernel
theorem dX6_mould_46 : decode cX6_mould 46 = .ok (.iconst 1, 1) := by decide +kernel
theorem dX6_mould_47 : decode cX6_mould 47 = .ok (.if_icmp .ne 6, 3) := by decide +kernel
theorem dX6_mould_50 : decode cX6_mould 50 = .ok (.bipush (-2), 2) := by decide +kernel
theorem dX6_mould_52 : decode cX6_mould 52 = .ok (.ireturn, 1) := by decide +kernel
theorem dX6_mould_53 : decode cX6_mould 53 = .ok (.aload_n 0, 1) := by decide +kernel
theorem dX6_mould_54 : decode cX6_mould 54 = .ok (.invokevirtual 159, 3) := by decide +kernel
theorem dX6_mould_57 : decode cX6_mould 57 = .ok (.aload_n 0, 1) := by decide +kernel
theorem dX6_mould_58 : decode cX6_mould 58 = .ok (.getfield 25, 3) := by decide +kernel
theorem dX6_mould_61 : decode cX6_mould 61 = .ok (.sipush 1010, 3) := by decide +kernel
theorem dX6_mould_64 : decode cX6_mould 64 = .ok (.iload_n 1, 1) := by decide +kernel
theorem dX6_mould_65 : decode cX6_mould 65 = .ok (.iastore, 1) := by decide +kernel
theorem dX6_mould_66 : decode cX6_mould 66 = .ok (.iload_n 1, 1) := by decide +kernel
theorem dX6_mould_67 : decode cX6_mould 67 = .ok (.ifCond .ne 14, 3) := by decide +kernel
theorem dX6_mould_70 : decode cX6_mould 70 = .ok (.aload_n 0, 1) := by decide +kernel
theorem dX6_mould_71 : decode cX6_mould 71 = .ok (.getfield 25, 3) := by decide +kernel
theorem dX6_mould_74 : decode cX6_mould 74 = .ok (.sipush 1012, 3) := by decide +kernel
theorem dX6_mould_77 : decode cX6_mould 77 = .ok (.iaload, 1) := by decide +kernel
theorem dX6_mould_78 : decode cX6_mould 78 = .ok (.goto 4, 3) := by decide +kernel
theorem dX6_mould_81 : decode cX6_mould 81 = .ok (.iconst 0, 1) := by decide +kernel
theorem dX6_mould_82 : decode cX6_mould 82 = .ok (.istore_n 2, 1) := by decide +kernel
theorem dX6_mould_83 : decode cX6_mould 83 = .ok (.aload_n 0, 1) := by decide +kernel
theorem dX6_mould_84 : decode cX6_mould 84 = .ok (.getfield 25, 3) := by decide +kernel
theorem dX6_mould_87 : decode cX6_mould 87 = .ok (.sipush 1012, 3) := by decide +kernel
theorem dX6_mould_90 : decode cX6_mould 90 = .ok (.iload_n 1, 1) := by decide +kernel
theorem dX6_mould_91 : decode cX6_mould 91 = .ok (.ifCond .ne 7, 3) := by decide +kernel
theorem dX6_mould_94 : decode cX6_mould 94 = .ok (.iconst 0, 1) := by decide +kernel
theorem dX6_mould_95 : decode cX6_mould 95 = .ok (.goto 11, 3) := by decide +kernel
theorem dX6_mould_98 : decode cX6_mould 98 = .ok (.aload_n 0, 1) := by decide +kernel
theorem dX6_mould_99 : decode cX6_mould 99 = .ok (.getfield 25, 3) := by decide +kernel
theorem dX6_mould_102 : decode cX6_mould 102 = .ok (.sipush 1012, 3) := by decide +kernel
theorem dX6_mould_105 : decode cX6_mould 105 = .ok (.iaload, 1) := by decide +kernel
theorem dX6_mould_106 : decode cX6_mould 106 = .ok (.iastore, 1) := by decide +kernel
theorem dX6_mould_107 : decode cX6_mould 107 = .ok (.iload_n 2, 1) := by decide +kernel
theorem dX6_mould_108 : decode cX6_mould 108 = .ok (.ireturn, 1) := by decide +kernel
theorem dX6_against1_0 : decode cX6_against1 0 = .ok (.aload_n 0, 1) := by decide +kernel
theorem dX6_against1_1 : decode cX6_against1 1 = .ok (.getfield 25, 3) := by decide +kernel
theorem dX6_against1_4 : decode cX6_against1 4 = .ok (.sipush 1011, 3) := by decide +kernel
theorem dX6_against1_7 : decode cX6_against1 7 = .ok (.iaload, 1) := by decide +kernel
theorem dX6_against1_8 : decode cX6_against1 8 = .ok (.iload_n 1, 1) := by decide +kernel
theorem dX6_against1_9 : decode cX6_against1 9 = .ok (.ishr, 1) := by decide +kernel
theorem dX6_against1_10 : decode cX6_against1 10 = .ok (.iconst 1, 1) := by decide +kernel
theorem dX6_against1_11 : decode cX6_against1 11 = .ok (.iand, 1) := by decide +kernel
theorem dX6_against1_12 : decode cX6_against1 12 = .ok (.iload_n 2, 1) := by decide +kernel
theorem dX6_against1_13 : decode cX6_against1 13 = .ok (.if_icmp .ne 5, 3) := by decide +kernel
theorem dX6_against1_16 : decode cX6_against1 16 = .ok (.iconst 1, 1) := by decide +kernel
theorem dX6_against1_17 : decode cX6_against1 17 = .ok (.ireturn, 1) := by decide +kernel
theorem dX6_against1_18 : decode cX6_against1 18 = .ok (.aload_n 0, 1) := by decide +kernel
theorem dX6_against1_19 : decode cX6_against1 19 = .ok (.getfield 25, 3) := by decide +kernel
theorem dX6_against1_22 : decode cX6_against1 22 = .ok (.sipush 1010, 3) := by decide +kernel
theorem dX6_against1_25 : decode cX6_against1 25 = .ok (.iaload, 1) := by decide +kernel
theorem dX6_against1_26 : decode cX6_against1 26 = .ok (.ifCond .ne 5, 3) := by decide +kernel
theorem dX6_against1_29 : decode cX6_against1 29 = .ok (.iconst 2, 1) := by decide +kernel
theorem dX6_against1_30 : decode cX6_against1 30 = .ok (.ireturn, 1) := by decide +kernel
theorem dX6_against1_31 : decode cX6_against1 31 = .ok (.iload_n 2, 1) := by decide +kernel
theorem dX6_against1_32 : decode cX6_against1 32 = .ok (.iconst 1, 1) := by decide +kernel
theorem dX6_against1_33 : decode cX6_against1 33 = .ok (.if_icmp .ne 18, 3) := by decide +kernel
theorem dX6_against1_36 : decode cX6_against1 36 = .ok (.aload_n 0, 1) := by decide +kernel
theorem dX6_against1_37 : decode cX6_against1 37 = .ok (.getfield 25, 3) := by decide +kernel
theorem dX6_against1_40 : decode cX6_against1 40 = .ok (.sipush 1012, 3) := by decide +kernel
theorem dX6_against1_43 : decode cX6_against1 43 = .ok (.iaload, 1) := by decide +kernel
theorem dX6_against1_44 : decode cX6_against1 44 = .ok (.iconst 1, 1) := by decide +kernel
theorem dX6_against1_45 : decode cX6_against1 45 = .ok (.if_icmp .ne 20, 3) := by decide +kernel
theorem dX6_against1_48 : decode cX6_against1 48 = .ok (.goto 15, 3) := by decide +kernel
theorem dX6_against1_51 : decode cX6_against1 51 = .ok (.aload_n 0, 1) := by decide +kernel
theorem dX6_against1_52 : decode cX6_against1 52 = .ok (.getfield 25, 3) := by decide +kernel
theorem dX6_against1_55 : decode cX6_against1 55 = .ok (.sipush 1013, 3) := by decide +kernel
theorem dX6_against1_58 : decode cX6_against1 58 = .ok (.iaload, 1) := by decide +kernel
theorem dX6_against1_59 : decode cX6_against1 59 = .ok (.iconst 1, 1) := by decide +kernel
theorem dX6_against1_60 : decode cX6_against1 60 = .ok (.if_icmp .ne 5, 3) := by decide +kernel
theorem dX6_against1_63 : decode cX6_against1 63 = .ok (.iconst 3, 1) := by decide +kernel
theorem dX6_against1_64 : decode cX6_against1 64 = .ok (.ireturn, 1) := by decide +kernel
theorem dX6_against1_65 : decode cX6_against1 65 = .ok (.iload_n 2, 1) := by decide +kernel
theorem dX6_against1_66 : decode cX6_against1 66 = .ok (.iconst 1, 1) := by decide +kernel
theorem dX6_against1_67 : decode cX6_against1 67 = .ok (.if_icmp .ne 47, 3) := by decide +kernel
theorem dX6_against1_70 : decode cX6_against1 70 = .ok (.aload_n 0, 1) := by decide +kernel
theorem dX6_against1_71 : decode cX6_against1 71 = .ok (.getfield 19, 3) := by decide +kernel
theorem dX6_against1_74 : decode cX6_against1 74 = .ok (.iload_n 1, 1) := by decide +kernel
theorem dX6_against1_75 : decode cX6_against1 75 = .ok (.iaload, 1) := by decide +kernel
theorem dX6_against1_76 : decode cX6_against1 76 = .ok (.bipush (-4), 2) := by decide +kernel
theorem dX6_against1_78 : decode cX6_against1 78 = .ok (.if_icmp .eq 34, 3) := by decide +kernel
theorem dX6_against1_81 : decode cX6_against1 81 = .ok (.aload_n 0, 1) := by decide +kernel
theorem dX6_against1_82 : decode cX6_against1 82 = .ok (.getfield 25, 3) := by decide +kernel
theorem dX6_against1_85 : decode cX6_against1 85 = .ok (.sipush 1011, 3) := by decide +kernel
theorem dX6_against1_88 : decode cX6_against1 88 = .ok (.iaload, 1) := by decide +kernel
theorem dX6_against1_89 : decode cX6_against1 89 = .ok (.aload_n 0, 1) := by decide +kernel
theorem dX6_against1_90 : decode cX6_against1 90 = .ok (.getfield 19, 3) := by decide +kernel
theorem dX6_against1_93 : decode cX6_against1 93 = .ok (.iload_n 1, 1) := by decide +kernel
theorem dX6_against1_94 : decode cX6_against1 94 = .ok (.iaload, 1) := by decide +kernel
theorem dX6_against1_95 : decode cX6_against1 95 = .ok (.ishr, 1) := by decide +kernel
theorem dX6_against1_96 : decode cX6_against1 96 = .ok (.iconst 1, 1) := by decide +kernel
theorem dX6_against1_97 : decode cX6_against1 97 = .ok (.iand, 1) := by decide +kernel
theorem dX6_against1_98 : decode cX6_against1 98 = .ok (.ifCond .ne 14, 3) := by decide +kernel
theorem dX6_against1_101 : decode cX6_against1 101 = .ok (.iconst 4, 1) := by decide +kernel
theorem dX6_against1_102 : decode cX6_against1 102 = .ok (.aload_n 0, 1) := by decide +kernel
theorem dX6_against1_103 : decode cX6_against1 103 = .ok (.getfield 19, 3) := by decide +kernel
theorem dX6_against1_106 : decode cX6_against1 106 = .ok (.iload_n 1, 1) := by decide +kernel
theorem dX6_against1_107 : decode cX6_against1 107 = .ok (.iaload, 1) := by decide +kernel
theorem dX6_against1_108 : decode cX6_against1 108 = .ok (.iadd, 1) := by decide +kernel
theorem dX6_against1_109 : decode cX6_against1 109 = .ok (.goto 4, 3) := by decide +kernel
theorem dX6_against1_112 : decode cX6_against1 112 = .ok (.iconst 0, 1) := by decide +kernel
theorem dX6_against1_113 : decode cX6_against1 113 = .ok (.ireturn, 1) := by decide +kernel
theorem dX6_against1_114 : decode cX6_against1 114 = .ok (.iconst 0, 1) := by decide +kernel
theorem dX6_against1_115 : decode cX6_against1 115 = .ok (.istore_n 3, 1) := by decide +kernel
theorem dX6_against1_116 : decode cX6_against1 116 = .ok (.iload_n 3, 1) := by decide +kernel
theorem dX6_against1_117 : decode cX6_against1 117 = .ok (.aload_n 0, 1) := by decide +kernel
theorem dX6_against1_118 : decode cX6_against1 118 = .ok (.getfield 73, 3) := by decide +kernel
theorem dX6_against1_121 : decode cX6_against1 121 = .ok (.if_icmp .ge 39, 3) := by decide +kernel
theorem dX6_against1_124 : decode cX6_against1 124 = .ok (.aload_n 0, 1) := by decide +kernel
theorem dX6_against1_125 : decode cX6_against1 125 = .ok (.getfield 19, 3) := by decide +kernel
theorem dX6_against1_128 : decode cX6_against1 128 = .ok (.iload_n 3, 1) := by decide +kernel
theorem dX6_against1_129 : decode cX6_against1 129 = .ok (.iaload, 1) := by decide +kernel
theorem dX6_against1_130 : decode cX6_against1 130 = .ok (.iload_n 1, 1) := by decide +kernel
theorem dX6_against1_131 : decode cX6_against1 131 = .ok (.if_icmp .ne 23, 3) := by decide +kernel
theorem dX6_against1_134 : decode cX6_against1 134 = .ok (.aload_n 0, 1) := by decide +kernel
theorem dX6_against1_135 : decode cX6_against1 135 = .ok (.getfield 25, 3) := by decide +kernel
theorem dX6_against1_138 : decode cX6_against1 138 = .ok (.sipush 1011, 3) := by decide +kernel
theorem dX6_against1_141 : decode cX6_against1 141 = .ok (.iaload, 1) := by decide +kernel
theorem dX6_against1_142 : decode cX6_against1 142 = .ok (.iload_n 3, 1) := by decide +kernel
theorem dX6_against1_143 : decode cX6_against1 143 = .ok (.ishr, 1) := by decide +kernel
theorem dX6_against1_144 : decode cX6_against1 144 = .ok (.iconst 1, 1) := by decide +kernel
theorem dX6_against1_145 : decode cX6_against1 145 = .ok (.iand, 1) := by decide +kernel
theorem dX6_against1_146 : decode cX6_against1 146 = .ok (.iconst 1, 1) := by decide +kernel
theorem dX6_against1_147 : decode cX6_against1 147 = .ok (.if_icmp .ne 7, 3) := by decide +kernel
theorem dX6_against1_150 : decode cX6_against1 150 = .ok (.iconst 4, 1) := by decide +kernel
theorem dX6_against1_151 : decode cX6_against1 151 = .ok (.iload_n 3, 1) := by decide +kernel
theorem dX6_against1_152 : decode cX6_against1 152 = .ok (.iadd, 1) := by decide +kernel
theorem dX6_against1_153 : decode cX6_against1 153 = .ok (.ireturn, 1) := by decide +kernel
theorem dX6_against1_154 : decode cX6_against1 154 = .ok (.iinc 3 1, 3) := by decide +kernel
theorem dX6_against1_157 : decode cX6_against1 157 = .ok (.goto (-41), 3) := by decide +kernel
theorem dX6_against1_160 : decode cX6_against1 160 = .ok (.iconst 0, 1) := by decide +kernel
theorem dX6_against1_161 : decode cX6_against1 161 = .ok (.ireturn, 1) := by decide +kernel
set_option maxRecDepth 20000 in
theorem ggX6_against_X6_isCore : GoodIn wsX6_against wsX6_isCore := goodIn_r _ [5, 6, 7, 8, 4, 9, 16, 17, 18, 19, 20, 21, 22, 23, 24, 25, 26, 27, 28, 29, 30, 31, 32, 33, 34, 35, 36, 37, 38] (by decide +kernel) (by decide +kernel)
set_option maxRecDepth 20000 in
theorem gX6_against_X6_isCore : GoodIn wsX6_against (wsV RX6 162 RX6 yX6_isCore wsX6_isCore) := goodIn_app (goodIn_of _ (by decide +kernel)) ggX6_against_X6_isCore
set_option maxRecDepth 20000 in
theorem ggX6_against_X6_isIn : GoodIn wsX6_against wsX6_isIn := goodIn_r _ [9] (by decide +kernel) (by decide +kernel)
set_option maxRecDepth 20000 in
theorem gX6_against_X6_isIn : GoodIn wsX6_against (va_wsS RX6 95 yX6_isIn wsX6_isIn) := goodIn_app (goodIn_of _ (by decide +kernel)) ggX6_against_X6_isIn
set_option maxRecDepth 20000 in
theorem ggX6_against_X6_against1 : GoodIn wsX6_against wsX6_against1 := goodIn_r _ [13, 14, 15, 6, 16, 17, 18, 19, 20, 21, 22, 23, 24, 25, 26, 27, 28, 29, 30, 31, 32, 33, 34, 35, 36, 37, 38] (by decide +kernel) (by decide +kernel)
set_option maxRecDepth 20000 in
theorem gX6_against_X6_against1 : GoodIn wsX6_against (wsV RX6 165 RX6 yX6_against1 wsX6_against1) := goodIn_app (goodIn_of _ (by decide +kernel)) ggX6_against_X6_against1
theorem dX6_against_0 : decode cX6_against 0 = .ok (.aload_n 0, 1) := by decide +kernel
theorem dX6_against_1 : decode cX6_against 1 = .ok (.iload_n 1, 1) := by decide +kernel
theorem dX6_against_2 : decode cX6_against 2 = .ok (.invokevirtual 162, 3) := by decide +kernel
theorem dX6_against_5 : decode cX6_against 5 = .ok (.ifCond .eq 21, 3) := by decide +kernel
theorem dX6_against_8 : decode cX6_against 8 = .ok (.iload_n 2, 1) := by decide +kernel
theorem dX6_against_9 : decode cX6_against 9 = .ok (.iconst 0, 1) := by decide +kernel
theorem dX6_against_10 : decode cX6_against 10 = .ok (.iconst 1, 1) := by decide +kernel
theorem dX6_against_11 : decode cX6_against 11 = .ok (.invokestatic 95, 3) := by decide +kernel
theorem dX6_against_14 : decode cX6_against 14 = .ok (.ifCond .eq 12, 3) := by decide +kernel
theorem dX6_against_17 : decode cX6_against 17 = .ok (.aload_n 0, 1) := by decide +kernel
theorem dX6_against_18 : decode cX6_against 18 = .ok (.iload_n 1, 1) := by decide +kernel
theorem dX6_against_19 : decode cX6_against 19 = .ok (.iload_n 2, 1) := by decide +kernel
theorem dX6_against_20 : decode cX6_against 20 = .ok (.invokevirtual 165, 3) := by decide +kernel
theorem dX6_against_23 : decode cX6_against 23 = .ok (.goto 4, 3) := by decide +kernel
theorem dX6_against_26 : decode cX6_against 26 = .ok (.iconst (-1), 1) := by decide +kernel
theorem dX6_against_27 : decode cX6_against 27 = .ok (.ireturn, 1) := by decide +kernel
set_option maxRecDepth 20000 in
theorem ggX6_core_X6_isCore : GoodIn wsX6_core wsX6_isCore := goodIn_r _ [6, 7, 8, 9, 5, 10, 25, 26, 27, 28, 29, 30, 31, 32, 33, 34, 35, 36, 37, 38, 39, 40, 41, 42, 43, 44, 45, 46, 47] (by decide +kernel) (by decide +kernel)
set_option maxRecDepth 20000 in
theorem gX6_core_X6_isCore : GoodIn wsX6_core (wsV RX6 162 RX6 yX6_isCore wsX6_isCore) := goodIn_app (goodIn_of _ (by decide +kernel)) ggX6_core_X6_isCore
set_option maxRecDepth 20000 in
theorem ggX6_core_X6_isIn : GoodIn wsX6_core wsX6_isIn := goodIn_r _ [10] (by decide +kernel) (by decide +kernel)
set_option maxRecDepth 20000 in
theorem gX6_core_X6_isIn : GoodIn wsX6_core (va_wsS RX6 95 yX6_isIn wsX6_isIn) := goodIn_app (goodIn_of _ (by decide +kernel)) ggX6_core_X6_isIn
set_option maxRecDepth 20000 in
theorem ggX6_core_X6_against1 : GoodIn wsX6_core wsX6_against1 := goodIn_r _ [14, 1, 15, 7, 25, 26, 27, 28, 29, 30, 31, 32, 33, 34, 35, 36, 37, 38, 39, 40, 41, 42, 43, 44, 45, 46, 47] (by decide +kernel) (by decide +kernel)
set_option maxRecDepth 20000 in
theorem gX6_core_X6_against1 : GoodIn wsX6_core (wsV RX6 165 RX6 yX6_against1 wsX6_against1) := goodIn_app (goodIn_of _ (by decide +kernel)) ggX6_core_X6_against1
set_option maxRecDepth 20000 in
theorem ggX6_core_X6_keeps : GoodIn wsX6_core wsX6_keeps := goodIn_r _ [19, 20, 21, 1, 25, 26, 27, 28, 29, 30, 31, 32, 33, 34, 35, 36, 37, 38, 39, 40, 41, 42, 43, 44, 45, 46, 47] (by decide +kernel) (by decide +kernel)
set_option maxRecDepth 20000 in
theorem gX6_core_X6_keeps : GoodIn wsX6_core (wsV RX6 159 RX6 yX6_keeps wsX6_keeps) := goodIn_app (goodIn_of _ (by decide +kernel)) ggX6_core_X6_keeps
set_option maxRecDepth 20000 in
theorem ggX6_core_X6_bits : GoodIn wsX6_core wsX6_bits := goodIn_r _ [24] (by decide +kernel) (by decide +kernel)
set_option maxRecDepth 20000 in
theorem gX6_core_X6_bits : GoodIn wsX6_core (va_wsS RX6 168 yX6_bits wsX6_bits) := goodIn_app (goodIn_of _ (by decide +kernel)) ggX6_core_X6_bits
theorem dX6_core_0 : decode cX6_core 0 = .ok (.aload_n 0, 1) := by decide +kernel
theorem dX6_core_1 : decode cX6_core 1 = .ok (.iload_n 1, 1) := by decide +kernel
theorem dX6_core_2 : decode cX6_core 2 = .ok (.invokevirtual 162, 3) := by decide +kernel
theorem dX6_core_5 : decode cX6_core 5 = .ok (.ifCond .eq 12, 3) := by decide +kernel
theorem dX6_core_8 : decode cX6_core 8 = .ok (.iload_n 2, 1) := by decide +kernel
theorem dX6_core_9 : decode cX6_core 9 = .ok (.iconst 0, 1) := by decide +kernel
theorem dX6_core_10 : decode cX6_core 10 = .ok (.iconst 1, 1) := by decide +kernel
theorem dX6_core_11 : decode cX6_core 11 = .ok (.invokestatic 95, 3) := by decide +kernel
theorem dX6_core_14 : decode cX6_core 14 = .ok (.ifCond .ne 5, 3) := by decide +kernel
theorem dX6_core_17 : decode cX6_core 17 = .ok (.iconst (-1), 1) := by decide +kernel
theorem dX6_core_18 : decode cX6_core 18 = .ok (.ireturn, 1) := by decide +kernel
theorem dX6_core_19 : decode cX6_core 19 = .ok (.aload_n 0, 1) := by decide +kernel
theorem dX6_core_20 : decode cX6_core 20 = .ok (.iload_n 1, 1) := by decide +kernel
theorem dX6_core_21 : decode cX6_core 21 = .ok (.iload_n 2, 1) := by decide +kernel
theorem dX6_core_22 : decode cX6_core 22 = .ok (.invokevirtual 165, 3) := by decide +kernel
theorem dX6_core_25 : decode cX6_core 25 = .ok (.ifCond .eq 6, 3) := by decide +kernel
theorem dX6_core_28 : decode cX6_core 28 = .ok (.bipush (-2), 2) := by decide +kernel
theorem dX6_core_30 : decode cX6_core 30 = .ok (.ireturn, 1) := by decide +kernel
theorem dX6_core_31 : decode cX6_core 31 = .ok (.aload_n 0, 1) := by decide +kernel
theorem dX6_core_32 : decode cX6_core 32 = .ok (.invokevirtual 159, 3) := by decide +kernel
theorem dX6_core_35 : decode cX6_core 35 = .ok (.aload_n 0, 1) := by decide +kernel
theorem dX6_core_36 : decode cX6_core 36 = .ok (.getfield 25, 3) := by decide +kernel
theorem dX6_core_39 : decode cX6_core 39 = .ok (.sipush 1011, 3) := by decide +kernel
theorem dX6_core_42 : decode cX6_core 42 = .ok (.dup2, 1) := by decide +kernel
theorem dX6_core_43 : decode cX6_core 43 = .ok (.iaload, 1) := by decide +kernel
theorem dX6_core_44 : decode cX6_core 44 = .ok (.iconst 1, 1) := by decide +kernel
theorem dX6_core_45 : decode cX6_core 45 = .ok (.iload_n 1, 1) := by decide +kernel
theorem dX6_core_46 : decode cX6_core 46 = .ok (.ishl, 1) := by decide +kernel
theorem dX6_core_47 : decode cX6_core 47 = .ok (.ixor, 1) := by decide +kernel
theorem dX6_core_48 : decode cX6_core 48 = .ok (.iastore, 1) := by decide +kernel
theorem dX6_core_49 : decode cX6_core 49 = .ok (.aload_n 0, 1) := by decide +kernel
theorem dX6_core_50 : decode cX6_core 50 = .ok (.getfield 25, 3) := by decide +kernel
theorem dX6_core_53 : decode cX6_core 53 = .ok (.sipush 1011, 3) := by decide +kernel
theorem dX6_core_56 : decode cX6_core 56 = .ok (.iaload, 1) := by decide +kernel
theorem dX6_core_57 : decode cX6_core 57 = .ok (.invokestatic 168, 3) := by decide +kernel
theorem dX6_core_60 : decode cX6_core 60 = .ok (.ireturn, 1) := by decide +kernel
set_option maxRecDepth 20000 in
theorem ggX6_drag_X6_isCavity : GoodIn wsX6_drag wsX6_isCavity := goodIn_r _ [5, 6, 7, 8, 4, 9, 21, 22, 23, 24, 25, 26, 27, 28, 29, 30, 31, 32, 33, 34, 35, 36, 37, 38, 39, 40, 41, 42, 43] (by decide +kernel) (by decide +kernel)
set_option maxRecDepth 20000 in
theorem gX6_drag_X6_isCavity : GoodIn wsX6_drag (wsV RX6 171 RX6 yX6_isCavity wsX6_isCavity) := goodIn_app (goodIn_of _ (by decide +kernel)) ggX6_drag_X6_isCavity
set_option maxRecDepth 20000 in
theorem ggX6_drag_X6_isIn : GoodIn wsX6_drag wsX6_isIn := goodIn_r _ [9] (by decide +kernel) (by decide +kernel)
set_option maxRecDepth 20000 in
theorem gX6_drag_X6_isIn : GoodIn wsX6_drag (va_wsS RX6 95 yX6_isIn wsX6_isIn) := goodIn_app (goodIn_of _ (by decide +kernel)) ggX6_drag_X6_isIn
set_option maxRecDepth 20000 in
theorem ggX6_drag_X6_becomes : GoodIn wsX6_drag wsX6_becomes := goodIn_r _ [13, 14, 15, 16, 17, 4, 18, 19, 20, 21, 22, 23, 24, 25, 26, 27, 28, 29, 30, 31, 32, 33, 34, 35, 36, 37, 38, 39, 40, 41, 42, 43] (by decide +kernel) (by decide +kernel)
set_option maxRecDepth 20000 in
theorem gX6_drag_X6_becomes : GoodIn wsX6_drag (wsV RX6 174 RX6 yX6_becomes wsX6_becomes) := goodIn_app (goodIn_of _ (by decide +kernel)) ggX6_drag_X6_becomes
theorem dX6_drag_0 : decode cX6_drag 0 = .ok (.aload_n 0, 1) := by decide +kernel
theorem dX6_drag_1 : decode cX6_drag 1 = .ok (.iload_n 1, 1) := by decide +kernel
theorem dX6_drag_2 : decode cX6_drag 2 = .ok (.invokevirtual 171, 3) := by decide +kernel
theorem dX6_drag_5 : decode cX6_drag 5 = .ok (.ifCond .eq 26, 3) := by decide +kernel
theorem dX6_drag_8 : decode cX6_drag 8 = .ok (.iload_n 2, 1) := by decide +kernel
theorem dX6_drag_9 : decode cX6_drag 9 = .ok (.iconst 1, 1) := by decide +kernel
theorem dX6_drag_10 : decode cX6_drag 10 = .ok (.bipush 9, 2) := by decide +kernel
theorem dX6_drag_12 : decode cX6_drag 12 = .ok (.invokestatic 95, 3) := by decide +kernel
theorem dX6_drag_15 : decode cX6_drag 15 = .ok (.ifCond .eq 16, 3) := by decide +kernel
theorem dX6_drag_18 : decode cX6_drag 18 = .ok (.aload_n 0, 1) := by decide +kernel
theorem dX6_drag_19 : decode cX6_drag 19 = .ok (.sipush 1139, 3) := by decide +kernel
theorem dX6_drag_22 : decode cX6_drag 22 = .ok (.iload_n 1, 1) := by decide +kernel
theorem dX6_drag_23 : decode cX6_drag 23 = .ok (.iadd, 1) := by decide +kernel
theorem dX6_drag_24 : decode cX6_drag 24 = .ok (.iload_n 2, 1) := by decide +kernel
theorem dX6_drag_25 : decode cX6_drag 25 = .ok (.invokevirtual 174, 3) := by decide +kernel
theorem dX6_drag_28 : decode cX6_drag 28 = .ok (.goto 4, 3) := by decide +kernel
theorem dX6_drag_31 : decode cX6_drag 31 = .ok (.iconst (-1), 1) := by decide +kernel
theorem dX6_drag_32 : decode cX6_drag 32 = .ok (.ireturn, 1) := by decide +kernel
set_option maxRecDepth 20000 in
theorem ggX6_speed_X6_isIn : GoodIn wsX6_speed wsX6_isIn := goodIn_r _ [5] (by decide +kernel) (by decide +kernel)
set_option maxRecDepth 20000 in
theorem gX6_speed_X6_isIn : GoodIn wsX6_speed (va_wsS RX6 95 yX6_isIn wsX6_isIn) := goodIn_app (goodIn_of _ (by decide +kernel)) ggX6_speed_X6_isIn
set_option maxRecDepth 20000 in
theorem ggX6_speed_X6_becomes : GoodIn wsX6_speed wsX6_becomes := goodIn_r _ [9, 10, 11, 12, 13, 4, 14, 15, 16, 17, 18, 19, 20, 21, 22, 23, 24, 25, 26, 27, 28, 29, 30, 31, 32, 33, 34, 35, 36, 37, 38, 39] (by decide +kernel) (by decide +kernel)
set_option maxRecDepth 20000 in
theorem gX6_speed_X6_becomes : GoodIn wsX6_speed (wsV RX6 174 RX6 yX6_becomes wsX6_becomes) := goodIn_app (goodIn_of _ (by decide +kernel)) ggX6_speed_X6_becomes
theorem dX6_speed_0 : decode cX6_speed 0 = .ok (.iload_n 1, 1) := by decide +kernel
theorem dX6_speed_1 : decode cX6_speed 1 = .ok (.iconst 0, 1) := by decide +kernel
theorem dX6_speed_2 : decode cX6_speed 2 = .ok (.aload_n 0, 1) := by decide +kernel
theorem dX6_speed_3 : decode cX6_speed 3 = .ok (.getfield 76, 3) := by decide +kernel
theorem dX6_speed_6 : decode cX6_speed 6 = .ok (.iconst 1, 1) := by decide +kernel
theorem dX6_speed_7 : decode cX6_speed 7 = .ok (.isub, 1) := by decide +kernel
theorem dX6_speed_8 : decode cX6_speed 8 = .ok (.invokestatic 95, 3) := by decide +kernel
theorem dX6_speed_11 : decode cX6_speed 11 = .ok (.ifCond .eq 26, 3) := by decide +kernel
theorem dX6_speed_14 : decode cX6_speed 14 = .ok (.iload_n 2, 1) := by decide +kernel
theorem dX6_speed_15 : decode cX6_speed 15 = .ok (.iconst 1, 1) := by decide +kernel
theorem dX6_speed_16 : decode cX6_speed 16 = .ok (.bipush 9, 2) := by decide +kernel
theorem dX6_speed_18 : decode cX6_speed 18 = .ok (.invokestatic 95, 3) := by decide +kernel
theorem dX6_speed_21 : decode cX6_speed 21 = .ok (.ifCond .eq 16, 3) := by decide +kernel
theorem dX6_speed_24 : decode cX6_speed 24 = .ok (.aload_n 0, 1) := by decide +kernel
theorem dX6_speed_25 : decode cX6_speed 25 = .ok (.sipush 1145, 3) := by decide +kernel
theorem dX6_speed_28 : decode cX6_speed 28 = .ok (.iload_n 1, 1) := by decide +kernel
theorem dX6_speed_29 : decode cX6_speed 29 = .ok (.iadd, 1) := by decide +kernel
theorem dX6_speed_30 : decode cX6_speed 30 = .ok (.iload_n 2, 1) := by decide +kernel
theorem dX6_speed_31 : decode cX6_speed 31 = .ok (.invokevirtual 174, 3) := by decide +kernel
theorem dX6_speed_34 : decode cX6_speed 34 = .ok (.goto 4, 3) := by decide +kernel
theorem dX6_speed_37 : decode cX6_speed 37 = .ok (.iconst (-1), 1) := by decide +kernel
theorem dX6_speed_38 : decode cX6_speed 38 = .ok (.ireturn, 1) := by decide +kernel
set_option maxRecDepth 20000 in
theorem ggX6_tell_X6_isIn : GoodIn wsX6_tell wsX6_isIn := goodIn_r _ [4] (by decide +kernel) (by decide +kernel)
set_option maxRecDepth 20000 in
theorem gX6_tell_X6_isIn : GoodIn wsX6_tell (va_wsS RX6 95 yX6_isIn wsX6_isIn) := goodIn_app (goodIn_of _ (by decide +kernel)) ggX6_tell_X6_isIn
set_option maxRecDepth 20000 in
theorem ggX6_tell_X6_lowOf : GoodIn wsX6_tell wsX6_lowOf := goodIn_r _ [7] (by decide +kernel) (by decide +kernel)
set_option maxRecDepth 20000 in
theorem gX6_tell_X6_lowOf : GoodIn wsX6_tell (va_wsS RX6 106 yX6_lowOf wsX6_lowOf) := goodIn_app (goodIn_of _ (by decide +kernel)) ggX6_tell_X6_lowOf
set_option maxRecDepth 20000 in
theorem ggX6_tell_X6_highOf : GoodIn wsX6_tell wsX6_highOf := goodIn_r _ [10] (by decide +kernel) (by decide +kernel)
set_option maxRecDepth 20000 in
theorem gX6_tell_X6_highOf : GoodIn wsX6_tell (va_wsS RX6 109 yX6_highOf wsX6_highOf) := goodIn_app (goodIn_of _ (by decide +kernel)) ggX6_tell_X6_highOf
set_option maxRecDepth 20000 in
theorem ggX6_tell_X6_becomes : GoodIn wsX6_tell wsX6_becomes := goodIn_r _ [14, 15, 16, 17, 18, 3, 19, 20, 21, 22, 23, 24, 25, 26, 27, 28, 29, 30, 31, 32, 33, 34, 35, 36, 37, 38, 39, 40, 41, 42, 43, 44] (by decide +kernel) (by decide +kernel)
set_option maxRecDepth 20000 in
theorem gX6_tell_X6_becomes : GoodIn wsX6_tell (wsV RX6 174 RX6 yX6_becomes wsX6_becomes) := goodIn_app (goodIn_of _ (by decide +kernel)) ggX6_tell_X6_becomes
theorem dX6_tell_0 : decode cX6_tell 0 = .ok (.iload_n 1, 1) := by decide +kernel
theorem dX6_tell_1 : decode cX6_tell 1 = .ok (.iconst 0, 1) := by decide +kernel
theorem dX6_tell_2 : decode cX6_tell 2 = .ok (.iconst 5, 1) := by decide +kernel
theorem dX6_tell_3 : decode cX6_tell 3 = .ok (.invokestatic 95, 3) := by decide +kernel
theorem dX6_tell_6 : decode cX6_tell 6 = .ok (.ifCond .eq 31, 3) := by decide +kernel
theorem dX6_tell_9 : decode cX6_tell 9 = .ok (.iload_n 2, 1) := by decide +kernel
theorem dX6_tell_10 : decode cX6_tell 10 = .ok (.iload_n 1, 1) := by decide +kernel
theorem dX6_tell_11 : decode cX6_tell 11 = .ok (.invokestatic 106, 3) := by decide +kernel
theorem dX6_tell_14 : decode cX6_tell 14 = .ok (.iload_n 1, 1) := by decide +kernel
theorem dX6_tell_15 : decode cX6_tell 15 = .ok (.invokestatic 109, 3) := by decide +kernel
theorem dX6_tell_18 : decode cX6_tell 18 = .ok (.invokestatic 95, 3) := by decide +kernel
theorem dX6_tell_21 : decode cX6_tell 21 = .ok (.ifCond .eq 16, 3) := by decide +kernel
theorem dX6_tell_24 : decode cX6_tell 24 = .ok (.aload_n 0, 1) := by decide +kernel
theorem dX6_tell_25 : decode cX6_tell 25 = .ok (.sipush 1149, 3) := by decide +kernel
theorem dX6_tell_28 : decode cX6_tell 28 = .ok (.iload_n 1, 1) := by decide +kernel
theorem dX6_tell_29 : decode cX6_tell 29 = .ok (.iadd, 1) := by decide +kernel
theorem dX6_tell_30 : decode cX6_tell 30 = .ok (.iload_n 2, 1) := by decide +kernel
theorem dX6_tell_31 : decode cX6_tell 31 = .ok (.invokevirtual 174, 3) := by decide +kernel
theorem dX6_tell_34 : decode cX6_tell 34 = .ok (.goto 4, 3) := by decide +kernel
theorem dX6_tell_37 : decode cX6_tell 37 = .ok (.iconst (-1), 1) := by decide +kernel
theorem dX6_tell_38 : decode cX6_tell 38 = .ok (.ireturn, 1) := by decide +kernel
theorem dX6_isReady_0 : decode cX6_isReady 0 = .ok (.aload_n 0, 1) := by decide +kernel
theorem dX6_isReady_1 : decode cX6_isReady 1 = .ok (.getfield 25, 3) := by decide +kernel
theorem dX6_isReady_4 : decode cX6_isReady 4 = .ok (.sipush 1010, 3) := by decide +kernel
theorem dX6_isReady_7 : decode cX6_isReady 7 = .ok (.iaload, 1) := by decide +kernel
theorem dX6_isReady_8 : decode cX6_isReady 8 = .ok (.iconst 1, 1) := by decide +kernel
theorem dX6_isReady_9 : decode cX6_isReady 9 = .ok (.if_icmp .ne 26, 3) := by decide +kernel
theorem dX6_isReady_12 : decode cX6_isReady 12 = .ok (.aload_n 0, 1) := by decide +kernel
theorem dX6_isReady_13 : decode cX6_isReady 13 = .ok (.getfield 25, 3) := by decide +kernel
theorem dX6_isReady_16 : decode cX6_isReady 16 = .ok (.sipush 1011, 3) := by decide +kernel
theorem dX6_isReady_19 : decode cX6_isReady 19 = .ok (.iaload, 1) := by decide +kernel
theorem dX6_isReady_20 : decode cX6_isReady 20 = .ok (.iconst 1, 1) := by decide +kernel
theorem dX6_isReady_21 : decode cX6_isReady 21 = .ok (.aload_n 0, 1) := by decide +kernel
theorem dX6_isReady_22 : decode cX6_isReady 22 = .ok (.getfield 73, 3) := by decide +kernel
theorem dX6_isReady_25 : decode cX6_isReady 25 = .ok (.ishl, 1) := by decide +kernel
theorem dX6_isReady_26 : decode cX6_isReady 26 = .ok (.iconst 1, 1) := by decide +kernel
theorem dX6_isReady_27 : decode cX6_isReady 27 = .ok (.isub, 1) := by decide +kernel
theorem dX6_isReady_28 : decode cX6_isReady 28 = .ok (.if_icmp .ne 7, 3) := by decide +kernel
theorem dX6_isReady_31 : decode cX6_isReady 31 = .ok (.iconst 1, 1) := by decide +kernel
theorem dX6_isReady_32 : decode cX6_isReady 32 = .ok (.goto 4, 3) := by decide +kernel
theorem dX6_isReady_35 : decode cX6_isReady 35 = .ok (.iconst 0, 1) := by decide +kernel
theorem dX6_isReady_36 : decode cX6_isReady 36 = .ok (.ireturn, 1) := by decide +kernel
set_option maxRecDepth 20000 in
theorem ggX6_shoot_X6_isReady : GoodIn wsX6_shoot wsX6_isReady := goodIn_r _ [7, 1, 8, 49, 50, 51, 52, 53, 54, 55, 56, 57, 58, 59, 60, 61, 62, 63, 64, 65, 66, 67, 68, 69, 70, 71] (by decide +kernel) (by decide +kernel)
set_option maxRecDepth 20000 in
theorem gX6_shoot_X6_isReady : GoodIn wsX6_shoot (wsV RX6 177 RX6 yX6_isReady wsX6_isReady) := goodIn_app (goodIn_of _ (by decide +kernel)) ggX6_shoot_X6_isReady
set_option maxRecDepth 20000 in
theorem ggX6_shoot_X6_keeps : GoodIn wsX6_shoot wsX6_keeps := goodIn_r _ [12, 13, 14, 1, 49, 50, 51, 52, 53, 54, 55, 56, 57, 58, 59, 60, 61, 62, 63, 64, 65, 66, 67, 68, 69, 70, 71] (by decide +kernel) (by decide +kernel)
set_option maxRecDepth 20000 in
theorem gX6_shoot_X6_keeps : GoodIn wsX6_shoot (wsV RX6 159 RX6 yX6_keeps wsX6_keeps) := goodIn_app (goodIn_of _ (by decide +kernel)) ggX6_shoot_X6_keeps
set_option maxRecDepth 20000 in
theorem ggX6_shoot_X6_tries : GoodIn wsX6_shoot wsX6_tries := goodIn_r _ [18, 2, 19, 1, 20, 21, 22, 23, 6, 24, 25, 26, 27, 28, 29, 30, 31, 32, 33, 34, 35, 36, 37, 38, 39, 40, 41, 42, 43, 44, 45, 46, 47, 48, 49, 50, 51, 52, 53, 54, 55, 56, 57, 58, 59, 60, 61, 62, 63, 64, 65, 66, 67, 68, 69, 70, 71] (by decide +kernel) (by decide +kernel)
set_option maxRecDepth 20000 in
theorem gX6_shoot_X6_tries : GoodIn wsX6_shoot (wsV RX6 180 RX6 yX6_tries wsX6_tries) := goodIn_app (goodIn_of _ (by decide +kernel)) ggX6_shoot_X6_tries
theorem dX6_shoot_0 : decode cX6_shoot 0 = .ok (.aload_n 0, 1) := by decide +kernel
theorem dX6_shoot_1 : decode cX6_shoot 1 = .ok (.invokevirtual 177, 3) := by decide +kernel
theorem dX6_shoot_4 : decode cX6_shoot 4 = .ok (.ifCond .eq 15, 3) := by decide +kernel
theorem dX6_shoot_7 : decode cX6_shoot 7 = .ok (.aload_n 0, 1) := by decide +kernel
theorem dX6_shoot_8 : decode cX6_shoot 8 = .ok (.getfield 25, 3) := by decide +kernel
theorem dX6_shoot_11 : decode cX6_shoot 11 = .ok (.sipush 1012, 3) := by decide +kernel
theorem dX6_shoot_14 : decode cX6_shoot 14 = .ok (.iaload, 1) := by decide +kernel
theorem dX6_shoot_15 : decode cX6_shoot 15 = .ok (.iconst 1, 1) := by decide +kernel
theorem dX6_shoot_16 : decode cX6_shoot 16 = .ok (.if_icmp .ne 6, 3) := by decide +kernel
theorem dX6_shoot_19 : decode cX6_shoot 19 = .ok (.bipush (-2), 2) := by decide +kernel
theorem dX6_shoot_21 : decode cX6_shoot 21 = .ok (.ireturn, 1) := by decide +kernel
theorem dX6_shoot_22 : decode cX6_shoot 22 = .ok (.aload_n 0, 1) := by decide +kernel
theorem dX6_shoot_23 : decode cX6_shoot 23 = .ok (.invokevirtual 159, 3) := by decide +kernel
theorem dX6_shoot_26 : decode cX6_shoot 26 = .ok (.aload_n 0, 1) := by decide +kernel
theorem dX6_shoot_27 : decode cX6_shoot 27 = .ok (.iconst 0, 1) := by decide +kernel
theorem dX6_shoot_28 : decode cX6_shoot 28 = .ok (.invokevirtual 180, 3) := by decide +kernel
theorem dX6_shoot_31 : decode cX6_shoot 31 = .ok (.aload_n 0, 1) := by decide +kernel
theorem dX6_shoot_32 : decode cX6_shoot 32 = .ok (.getfield 25, 3) := by decide +kernel
theorem dX6_shoot_35 : decode cX6_shoot 35 = .ok (.sipush 1008, 3) := by decide +kernel
theorem dX6_shoot_38 : decode cX6_shoot 38 = .ok (.iaload, 1) := by decide +kernel
theorem dX6_shoot_39 : decode cX6_shoot 39 = .ok (.bipush 12, 2) := by decide +kernel
theorem dX6_shoot_41 : decode cX6_shoot 41 = .ok (.if_icmp .ne 45, 3) := by decide +kernel
theorem dX6_shoot_44 : decode cX6_shoot 44 = .ok (.iconst 0, 1) := by decide +kernel
theorem dX6_shoot_45 : decode cX6_shoot 45 = .ok (.istore_n 1, 1) := by decide +kernel
theorem dX6_shoot_46 : decode cX6_shoot 46 = .ok (.iload_n 1, 1) := by decide +kernel
theorem dX6_shoot_47 : decode cX6_shoot 47 = .ok (.sipush 924, 3) := by decide +kernel
theorem dX6_shoot_50 : decode cX6_shoot 50 = .ok (.if_icmp .ge 24, 3) := by decide +kernel
theorem dX6_shoot_53 : decode cX6_shoot 53 = .ok (.aload_n 0, 1) := by decide +kernel
theorem dX6_shoot_54 : decode cX6_shoot 54 = .ok (.getfield 25, 3) := by decide +kernel
theorem dX6_shoot_57 : decode cX6_shoot 57 = .ok (.iload_n 1, 1) := by decide +kernel
theorem dX6_shoot_58 : decode cX6_shoot 58 = .ok (.aload_n 0, 1) := by decide +kernel
theorem dX6_shoot_59 : decode cX6_shoot 59 = .ok (.getfield 25, 3) := by decide +kernel
theorem dX6_shoot_62 : decode cX6_shoot 62 = .ok (.iload_n 1, 1) := by decide +kernel
theorem dX6_shoot_63 : decode cX6_shoot 63 = .ok (.bipush 84, 2) := by decide +kernel
theorem dX6_shoot_65 : decode cX6_shoot 65 = .ok (.iadd, 1) := by decide +kernel
theorem dX6_shoot_66 : decode cX6_shoot 66 = .ok (.iaload, 1) := by decide +kernel
theorem dX6_shoot_67 : decode cX6_shoot 67 = .ok (.iastore, 1) := by decide +kernel
theorem dX6_shoot_68 : decode cX6_shoot 68 = .ok (.iinc 1 1, 3) := by decide +kernel
theorem dX6_shoot_71 : decode cX6_shoot 71 = .ok (.goto (-25), 3) := by decide +kernel
theorem dX6_shoot_74 : decode cX6_shoot 74 = .ok (.aload_n 0, 1) := by decide +kernel
theorem dX6_shoot_75 : decode cX6_shoot 75 = .ok (.getfield 25, 3) := by decide +kernel
theorem dX6_shoot_78 : decode cX6_shoot 78 = .ok (.sipush 1008, 3) := by decide +kernel
theorem dX6_shoot_81 : decode cX6_shoot 81 = .ok (.dup2, 1) := by decide +kernel
theorem dX6_shoot_82 : decode cX6_shoot 82 = .ok (.iaload, 1) := by decide +kernel
theorem dX6_shoot_83 : decode cX6_shoot 83 = .ok (.iconst 1, 1) := by decide +kernel
theorem dX6_shoot_84 : decode cX6_shoot 84 = .ok (.isub, 1) := by decide +kernel
theorem dX6_shoot_85 : decode cX6_shoot 85 = .ok (.iastore, 1) := by decide +kernel
theorem dX6_shoot_86 : decode cX6_shoot 86 = .ok (.iconst 0, 1) := by decide +kernel
theorem dX6_shoot_87 : decode cX6_shoot 87 = .ok (.istore_n 1, 1) := by decide +kernel
theorem dX6_shoot_88 : decode cX6_shoot 88 = .ok (.iload_n 1, 1) := by decide +kernel
theorem dX6_shoot_89 : decode cX6_shoot 89 = .ok (.bipush 84, 2) := by decide +kernel
theorem dX6_shoot_91 : decode cX6_shoot 91 = .ok (.if_icmp .ge 33, 3) := by decide +kernel
theorem dX6_shoot_94 : decode cX6_shoot 94 = .ok (.aload_n 0, 1) := by decide +kernel
theorem dX6_shoot_95 : decode cX6_shoot 95 = .ok (.getfield 25, 3) := by decide +kernel
theorem dX6_shoot_98 : decode cX6_shoot 98 = .ok (.bipush 84, 2) := by decide +kernel
theorem dX6_shoot_100 : decode cX6_shoot 100 = .ok (.aload_n 0, 1) := by decide +kernel
theorem dX6_shoot_101 : decode cX6_shoot 101 = .ok (.getfield 25, 3) := by decide +kernel
theorem dX6_shoot_104 : decode cX6_shoot 104 = .ok (.sipush 1008, 3) := by decide +kernel
theorem dX6_shoot_107 : decode cX6_shoot 107 = .ok (.iaload, 1) := by decide +kernel
theorem dX6_shoot_108 : decode cX6_shoot 108 = .ok (.imul, 1) := by decide +kernel
theorem dX6_shoot_109 : decode cX6_shoot 109 = .ok (.iload_n 1, 1) := by decide +kernel
theorem dX6_shoot_110 : decode cX6_shoot 110 = .ok (.iadd, 1) := by decide +kernel
theorem dX6_shoot_111 : decode cX6_shoot 111 = .ok (.aload_n 0, 1) := by decide +kernel
theorem dX6_shoot_112 : decode cX6_shoot 112 = .ok (.getfield 31, 3) := by decide +kernel
theorem dX6_shoot_115 : decode cX6_shoot 115 = .ok (.iload_n 1, 1) := by decide +kernel
theorem dX6_shoot_116 : decode cX6_shoot 116 = .ok (.iaload, 1) := by decide +kernel
theorem dX6_shoot_117 : decode cX6_shoot 117 = .ok (.iastore, 1) := by decide +kernel
theorem dX6_shoot_118 : decode cX6_shoot 118 = .ok (.iinc 1 1, 3) := by decide +kernel
theorem dX6_shoot_121 : decode cX6_shoot 121 = .ok (.goto (-33), 3) := by decide +kernel
theorem dX6_shoot_124 : decode cX6_shoot 124 = .ok (.aload_n 0, 1) := by decide +kernel
theorem dX6_shoot_125 : decode cX6_shoot 125 = .ok (.getfield 25, 3) := by decide +kernel
theorem dX6_shoot_128 : decode cX6_shoot 128 = .ok (.sipush 1008, 3) := by decide +kernel
theorem dX6_shoot_131 : decode cX6_shoot 131 = .ok (.dup2, 1) := by decide +kernel
theorem dX6_shoot_132 : decode cX6_shoot 132 = .ok (.iaload, 1) := by decide +kernel
theorem dX6_shoot_133 : decode cX6_shoot 133 = .ok (.iconst 1, 1) := by decide +kernel
theorem dX6_shoot_134 : decode cX6_shoot 134 = .ok (.iadd, 1) := by decide +kernel
theorem dX6_shoot_135 : decode cX6_shoot 135 = .ok (.iastore, 1) := by decide +kernel
theorem dX6_shoot_136 : decode cX6_shoot 136 = .ok (.aload_n 0, 1) := by decide +kernel
theorem dX6_shoot_137 : decode cX6_shoot 137 = .ok (.getfield 25, 3) := by decide +kernel
theorem dX6_shoot_140 : decode cX6_shoot 140 = .ok (.sipush 1009, 3) := by decide +kernel
theorem dX6_shoot_143 : decode cX6_shoot 143 = .ok (.dup2, 1) := by decide +kernel
theorem dX6_shoot_144 : decode cX6_shoot 144 = .ok (.iaload, 1) := by decide +kernel
theorem dX6_shoot_145 : decode cX6_shoot 145 = .ok (.iconst 1, 1) := by decide +kernel
theorem dX6_shoot_146 : decode cX6_shoot 146 = .ok (.iadd, 1) := by decide +kernel
theorem dX6_shoot_147 : decode cX6_shoot 147 = .ok (.iastore, 1) := by decide +kernel
theorem dX6_shoot_148 : decode cX6_shoot 148 = .ok (.aload_n 0, 1) := by decide +kernel
theorem dX6_shoot_149 : decode cX6_shoot 149 = .ok (.getfield 25, 3) := by decide +kernel
theorem dX6_shoot_152 : decode cX6_shoot 152 = .ok (.sipush 1012, 3) := by decide +kernel
theorem dX6_shoot_155 : decode cX6_shoot 155 = .ok (.iconst 1, 1) := by decide +kernel
theorem dX6_shoot_156 : decode cX6_shoot 156 = .ok (.iastore, 1) := by decide +kernel
theorem dX6_shoot_157 : decode cX6_shoot 157 = .ok (.aload_n 0, 1) := by decide +kernel
theorem dX6_shoot_158 : decode cX6_shoot 158 = .ok (.getfield 25, 3) := by decide +kernel
theorem dX6_shoot_161 : decode cX6_shoot 161 = .ok (.sipush 1013, 3) := by decide +kernel
theorem dX6_shoot_164 : decode cX6_shoot 164 = .ok (.iconst 1, 1) := by decide +kernel
theorem dX6_shoot_165 : decode cX6_shoot 165 = .ok (.iastore, 1) := by decide +kernel
theorem dX6_shoot_166 : decode cX6_shoot 166 = .ok (.aload_n 0, 1) := by decide +kernel
theorem dX6_shoot_167 : decode cX6_shoot 167 = .ok (.getfield 25, 3) := by decide +kernel
theorem dX6_shoot_170 : decode cX6_shoot 170 = .ok (.sipush 1014, 3) := by decide +kernel
theorem dX6_shoot_173 : decode cX6_shoot 173 = .ok (.aload_n 0, 1) := by decide +kernel
theorem dX6_shoot_174 : decode cX6_shoot 174 = .ok (.getfield 25, 3) := by decide +kernel
theorem dX6_shoot_177 : decode cX6_shoot 177 = .ok (.sipush 1154, 3) := by decide +kernel
theorem dX6_shoot_180 : decode cX6_shoot 180 = .ok (.iaload, 1) := by decide +kernel
theorem dX6_shoot_181 : decode cX6_shoot 181 = .ok (.iastore, 1) := by decide +kernel
theorem dX6_shoot_182 : decode cX6_shoot 182 = .ok (.aload_n 0, 1) := by decide +kernel
theorem dX6_shoot_183 : decode cX6_shoot 183 = .ok (.getfield 31, 3) := by decide +kernel
theorem dX6_shoot_186 : decode cX6_shoot 186 = .ok (.iconst 5, 1) := by decide +kernel
theorem dX6_shoot_187 : decode cX6_shoot 187 = .ok (.iaload, 1) := by decide +kernel
theorem dX6_shoot_188 : decode cX6_shoot 188 = .ok (.ireturn, 1) := by decide +kernel
set_option maxRecDepth 20000 in
theorem ggX6_waitCool_X6_keeps : GoodIn wsX6_waitCool wsX6_keeps := goodIn_r _ [6, 7, 8, 1, 9, 10, 11, 12, 13, 14, 15, 16, 17, 18, 19, 20, 21, 22, 23, 24, 25, 26, 27, 28, 29, 30, 31] (by decide +kernel) (by decide +kernel)
set_option maxRecDepth 20000 in
theorem gX6_waitCool_X6_keeps : GoodIn wsX6_waitCool (wsV RX6 159 RX6 yX6_keeps wsX6_keeps) := goodIn_app (goodIn_of _ (by decide +kernel)) ggX6_waitCool_X6_keeps
theorem dX6_waitCool_0 : decode cX6_waitCool 0 = .ok (.aload_n 0, 1) := by decide +kernel
theorem dX6_waitCool_1 : decode cX6_waitCool 1 = .ok (.getfield 25, 3) := by decide +kernel
theorem dX6_waitCool_4 : decode cX6_waitCool 4 = .ok (.sipush 1013, 3) := by decide +kernel
theorem dX6_waitCool_7 : decode cX6_waitCool 7 = .ok (.iaload, 1) := by decide +kernel
theorem dX6_waitCool_8 : decode cX6_waitCool 8 = .ok (.ifCond .ne 6, 3) := by decide +kernel
theorem dX6_waitCool_11 : decode cX6_waitCool 11 = .ok (.bipush (-2), 2) := by decide +kernel
theorem dX6_waitCool_13 : decode cX6_waitCool 13 = .ok (.ireturn, 1) := by decide +kernel
theorem dX6_waitCool_14 : decode cX6_waitCool 14 = .ok (.aload_n 0, 1) := by decide +kernel
theorem dX6_waitCool_15 : decode cX6_waitCool 15 = .ok (.invokevirtual 159, 3) := by decide +kernel
theorem dX6_waitCool_18 : decode cX6_waitCool 18 = .ok (.aload_n 0, 1) := by decide +kernel
theorem dX6_waitCool_19 : decode cX6_waitCool 19 = .ok (.getfield 25, 3) := by decide +kernel
theorem dX6_waitCool_22 : decode cX6_waitCool 22 = .ok (.sipush 1013, 3) := by decide +kernel
theorem dX6_waitCool_25 : decode cX6_waitCool 25 = .ok (.iconst 0, 1) := by decide +kernel
theorem dX6_waitCool_26 : decode cX6_waitCool 26 = .ok (.iastore, 1) := by decide +kernel
theorem dX6_waitCool_27 : decode cX6_waitCool 27 = .ok (.aload_n 0, 1) := by decide +kernel
theorem dX6_waitCool_28 : decode cX6_waitCool 28 = .ok (.getfield 25, 3) := by decide +kernel
theorem dX6_waitCool_31 : decode cX6_waitCool 31 = .ok (.sipush 1014, 3) := by decide +kernel
theorem dX6_waitCool_34 : decode cX6_waitCool 34 = .ok (.iaload, 1) := by decide +kernel
theorem dX6_waitCool_35 : decode cX6_waitCool 35 = .ok (.ireturn, 1) := by decide +kernel
theorem dX6_shortBy_0 : decode cX6_shortBy 0 = .ok (.aload_n 0, 1) := by decide +kernel
theorem dX6_shortBy_1 : decode cX6_shortBy 1 = .ok (.getfield 13, 3) := by decide +kernel
theorem dX6_shortBy_4 : decode cX6_shortBy 4 = .ok (.iload_n 2, 1) := by decide +kernel
theorem dX6_shortBy_5 : decode cX6_shortBy 5 = .ok (.iaload, 1) := by decide +kernel
theorem dX6_shortBy_6 : decode cX6_shortBy 6 = .ok (.aload_n 0, 1) := by decide +kernel
theorem dX6_shortBy_7 : decode cX6_shortBy 7 = .ok (.getfield 25, 3) := by decide +kernel
theorem dX6_shortBy_10 : decode cX6_shortBy 10 = .ok (.bipush 84, 2) := by decide +kernel
theorem dX6_shortBy_12 : decode cX6_shortBy 12 = .ok (.iload_n 1, 1) := by decide +kernel
theorem dX6_shortBy_13 : decode cX6_shortBy 13 = .ok (.imul, 1) := by decide +kernel
theorem dX6_shortBy_14 : decode cX6_shortBy 14 = .ok (.bipush 66, 2) := by decide +kernel
theorem dX6_shortBy_16 : decode cX6_shortBy 16 = .ok (.iadd, 1) := by decide +kernel
theorem dX6_shortBy_17 : decode cX6_shortBy 17 = .ok (.iload_n 2, 1) := by decide +kernel
theorem dX6_shortBy_18 : decode cX6_shortBy 18 = .ok (.iadd, 1) := by decide +kernel
theorem dX6_shortBy_19 : decode cX6_shortBy 19 = .ok (.iaload, 1) := by decide +kernel
theorem dX6_shortBy_20 : decode cX6_shortBy 20 = .ok (.isub, 1) := by decide +kernel
theorem dX6_shortBy_21 : decode cX6_shortBy 21 = .ok (.istore_n 3, 1) := by decide +kernel
theorem dX6_shortBy_22 : decode cX6_shortBy 22 = .ok (.iload_n 3, 1) := by decide +kernel
theorem dX6_shortBy_23 : decode cX6_shortBy 23 = .ok (.ifCond .le 7, 3) := by decide +kernel
theorem dX6_shortBy_26 : decode cX6_shortBy 26 = .ok (.iload_n 3, 1) := by decide +kernel
theorem dX6_shortBy_27 : decode cX6_shortBy 27 = .ok (.goto 4, 3) := by decide +kernel
theorem dX6_shortBy_30 : decode cX6_shortBy 30 = .ok (.iconst 0, 1) := by decide +kernel
theorem dX6_shortBy_31 : decode cX6_shortBy 31 = .ok (.ireturn, 1) := by decide +kernel
theorem dX6_overBy_0 : decode cX6_overBy 0 = .ok (.aload_n 0, 1) := by decide +kernel
theorem dX6_overBy_1 : decode cX6_overBy 1 = .ok (.getfield 25, 3) := by decide +kernel
theorem dX6_overBy_4 : decode cX6_overBy 4 = .ok (.bipush 84, 2) := by decide +kernel
theorem dX6_overBy_6 : decode cX6_overBy 6 = .ok (.iload_n 1, 1) := by decide +kernel
theorem dX6_overBy_7 : decode cX6_overBy 7 = .ok (.imul, 1) := by decide +kernel
theorem dX6_overBy_8 : decode cX6_overBy 8 = .ok (.bipush 66, 2) := by decide +kernel
theorem dX6_overBy_10 : decode cX6_overBy 10 = .ok (.iadd, 1) := by decide +kernel
theorem dX6_overBy_11 : decode cX6_overBy 11 = .ok (.iload_n 2, 1) := by decide +kernel
theorem dX6_overBy_12 : decode cX6_overBy 12 = .ok (.iadd, 1) := by decide +kernel
theorem dX6_overBy_13 : decode cX6_overBy 13 = .ok (.iaload, 1) := by decide +kernel
theorem dX6_overBy_14 : decode cX6_overBy 14 = .ok (.aload_n 0, 1) := by decide +kernel
theorem dX6_overBy_15 : decode cX6_overBy 15 = .ok (.getfield 13, 3) := by decide +kernel
theorem dX6_overBy_18 : decode cX6_overBy 18 = .ok (.iload_n 2, 1) := by decide +kernel
theorem dX6_overBy_19 : decode cX6_overBy 19 = .ok (.iaload, 1) := by decide +kernel
theorem dX6_overBy_20 : decode cX6_overBy 20 = .ok (.isub, 1) := by decide +kernel
theorem dX6_overBy_21 : decode cX6_overBy 21 = .ok (.istore_n 3, 1) := by decide +kernel
theorem dX6_overBy_22 : decode cX6_overBy 22 = .ok (.iload_n 3, 1) := by decide +kernel
theorem dX6_overBy_23 : decode cX6_overBy 23 = .ok (.ifCond .le 7, 3) := by decide +kernel
theorem dX6_overBy_26 : decode cX6_overBy 26 = .ok (.iload_n 3, 1) := by decide +kernel
theorem dX6_overBy_27 : decode cX6_overBy 27 = .ok (.goto 4, 3) := by decide +kernel
theorem dX6_overBy_30 : decode cX6_overBy 30 = .ok (.iconst 0, 1) := by decide +kernel
theorem dX6_overBy_31 : decode cX6_overBy 31 = .ok (.ireturn, 1) := by decide +kernel
set_option maxRecDepth 20000 in
theorem ggX6_isShort_X6_shortBy : GoodIn wsX6_isShort wsX6_shortBy := goodIn_r _ [6, 7, 8, 9, 10, 11, 12, 13, 14, 15, 16, 17, 18, 19, 20, 21, 22, 23, 24, 25, 26, 27, 28, 29, 30, 31] (by decide +kernel) (by decide +kernel)
set_option maxRecDepth 20000 in
theorem gX6_isShort_X6_shortBy : GoodIn wsX6_isShort (wsV RX6 183 RX6 yX6_shortBy wsX6_shortBy) := goodIn_app (goodIn_of _ (by decide +kernel)) ggX6_isShort_X6_shortBy
theorem dX6_isShort_0 : decode cX6_isShort 0 = .ok (.iconst 0, 1) := by decide +kernel
theorem dX6_isShort_1 : decode cX6_isShort 1 = .ok (.istore_n 2, 1) := by decide +kernel
theorem dX6_isShort_2 : decode cX6_isShort 2 = .ok (.iconst 0, 1) := by decide +kernel
theorem dX6_isShort_3 : decode cX6_isShort 3 = .ok (.istore_n 3, 1) := by decide +kernel
theorem dX6_isShort_4 : decode cX6_isShort 4 = .ok (.iload_n 3, 1) := by decide +kernel
theorem dX6_isShort_5 : decode cX6_isShort 5 = .ok (.aload_n 0, 1) := by decide +kernel
theorem dX6_isShort_6 : decode cX6_isShort 6 = .ok (.getfield 70, 3) := by decide +kernel
theorem dX6_isShort_9 : decode cX6_isShort 9 = .ok (.if_icmp .ge 28, 3) := by decide +kernel
theorem dX6_isShort_12 : decode cX6_isShort 12 = .ok (.iload_n 2, 1) := by decide +kernel
theorem dX6_isShort_13 : decode cX6_isShort 13 = .ok (.ifCond .ne 12, 3) := by decide +kernel
theorem dX6_isShort_16 : decode cX6_isShort 16 = .ok (.aload_n 0, 1) := by decide +kernel
theorem dX6_isShort_17 : decode cX6_isShort 17 = .ok (.iload_n 1, 1) := by decide +kernel
theorem dX6_isShort_18 : decode cX6_isShort 18 = .ok (.iload_n 3, 1) := by decide +kernel
theorem dX6_isShort_19 : decode cX6_isShort 19 = .ok (.invokevirtual 183, 3) := by decide +kernel
theorem dX6_isShort_22 : decode cX6_isShort 22 = .ok (.ifCond .le 7, 3) := by decide +kernel
theorem dX6_isShort_25 : decode cX6_isShort 25 = .ok (.iconst 1, 1) := by decide +kernel
theorem dX6_isShort_26 : decode cX6_isShort 26 = .ok (.goto 4, 3) := by decide +kernel
theorem dX6_isShort_29 : decode cX6_isShort 29 = .ok (.iconst 0, 1) := by decide +kernel
theorem dX6_isShort_30 : decode cX6_isShort 30 = .ok (.istore_n 2, 1) := by decide +kernel
theorem dX6_isShort_31 : decode cX6_isShort 31 = .ok (.iinc 3 1, 3) := by decide +kernel
theorem dX6_isShort_34 : decode cX6_isShort 34 = .ok (.goto (-30), 3) := by decide +kernel
theorem dX6_isShort_37 : decode cX6_isShort 37 = .ok (.iload_n 2, 1) := by decide +kernel
theorem dX6_isShort_38 : decode cX6_isShort 38 = .ok (.ireturn, 1) := by decide +kernel
set_option maxRecDepth 20000 in
theorem ggX6_teach_X6_isShot : GoodIn wsX6_teach wsX6_isShot := goodIn_r _ [6, 1, 7, 8, 5, 9, 26, 27, 28, 29, 30, 31, 32, 33, 34, 35, 36, 37, 38, 39, 40, 41, 42, 43, 44, 45, 46, 47, 48] (by decide +kernel) (by decide +kernel)
set_option maxRecDepth 20000 in
theorem gX6_teach_X6_isShot : GoodIn wsX6_teach (wsV RX6 186 RX6 yX6_isShot wsX6_isShot) := goodIn_app (goodIn_of _ (by decide +kernel)) ggX6_teach_X6_isShot
set_option maxRecDepth 20000 in
theorem ggX6_teach_X6_isShort : GoodIn wsX6_teach wsX6_isShort := goodIn_r _ [13, 14, 15, 16, 17, 5, 18, 19, 1, 26, 27, 28, 29, 30, 31, 32, 33, 34, 35, 36, 37, 38, 39, 40, 41, 42, 43, 44, 45, 46, 47, 48] (by decide +kernel) (by decide +kernel)
set_option maxRecDepth 20000 in
theorem gX6_teach_X6_isShort : GoodIn wsX6_teach (wsV RX6 189 RX6 yX6_isShort wsX6_isShort) := goodIn_app (goodIn_of _ (by decide +kernel)) ggX6_teach_X6_isShort
set_option maxRecDepth 20000 in
theorem ggX6_teach_X6_keeps : GoodIn wsX6_teach wsX6_keeps := goodIn_r _ [23, 24, 25, 1, 26, 27, 28, 29, 30, 31, 32, 33, 34, 35, 36, 37, 38, 39, 40, 41, 42, 43, 44, 45, 46, 47, 48] (by decide +kernel) (by decide +kernel)
set_option maxRecDepth 20000 in
theorem gX6_teach_X6_keeps : GoodIn wsX6_teach (wsV RX6 159 RX6 yX6_keeps wsX6_keeps) := goodIn_app (goodIn_of _ (by decide +kernel)) ggX6_teach_X6_keeps
theorem dX6_teach_0 : decode cX6_teach 0 = .ok (.aload_n 0, 1) := by decide +kernel
theorem dX6_teach_1 : decode cX6_teach 1 = .ok (.iload_n 1, 1) := by decide +kernel
theorem dX6_teach_2 : decode cX6_teach 2 = .ok (.invokevirtual 186, 3) := by decide +kernel
theorem dX6_teach_5 : decode cX6_teach 5 = .ok (.ifCond .ne 5, 3) := by decide +kernel
theorem dX6_teach_8 : decode cX6_teach 8 = .ok (.iconst (-1), 1) := by decide +kernel
theorem dX6_teach_9 : decode cX6_teach 9 = .ok (.ireturn, 1) := by decide +kernel
theorem dX6_teach_10 : decode cX6_teach 10 = .ok (.aload_n 0, 1) := by decide +kernel
theorem dX6_teach_11 : decode cX6_teach 11 = .ok (.iload_n 1, 1) := by decide +kernel
theorem dX6_teach_12 : decode cX6_teach 12 = .ok (.invokevirtual 189, 3) := by decide +kernel
theorem dX6_teach_15 : decode cX6_teach 15 = .ok (.ifCond .eq 6, 3) := by decide +kernel
theorem dX6_teach_18 : decode cX6_teach 18 = .ok (.bipush (-2), 2) := by decide +kernel
theorem dX6_teach_20 : decode cX6_teach 20 = .ok (.ireturn, 1) := by decide +kernel
theorem dX6_teach_21 : decode cX6_teach 21 = .ok (.aload_n 0, 1) := by decide +kernel
theorem dX6_teach_22 : decode cX6_teach 22 = .ok (.invokevirtual 159, 3) := by decide +kernel
theorem dX6_teach_25 : decode cX6_teach 25 = .ok (.aload_n 0, 1) := by decide +kernel
theorem dX6_teach_26 : decode cX6_teach 26 = .ok (.getfield 25, 3) := by decide +kernel
theorem dX6_teach_29 : decode cX6_teach 29 = .ok (.sipush 1015, 3) := by decide +kernel
theorem dX6_teach_32 : decode cX6_teach 32 = .ok (.iaload, 1) := by decide +kernel
theorem dX6_teach_33 : decode cX6_teach 33 = .ok (.ifCond .ne 7, 3) := by decide +kernel
theorem dX6_teach_36 : decode cX6_teach 36 = .ok (.iconst 1, 1) := by decide +kernel
theorem dX6_teach_37 : decode cX6_teach 37 = .ok (.goto 4, 3) := by decide +kernel
theorem dX6_teach_40 : decode cX6_teach 40 = .ok (.iconst 0, 1) := by decide +kernel
theorem dX6_teach_41 : decode cX6_teach 41 = .ok (.istore_n 2, 1) := by decide +kernel
theorem dX6_teach_42 : decode cX6_teach 42 = .ok (.iconst 0, 1) := by decide +kernel
theorem dX6_teach_43 : decode cX6_teach 43 = .ok (.istore_n 3, 1) := by decide +kernel
theorem dX6_teach_44 : decode cX6_teach 44 = .ok (.iload_n 3, 1) := by decide +kernel
theorem dX6_teach_45 : decode cX6_teach 45 = .ok (.bipush 60, 2) := by decide +kernel
theorem dX6_teach_47 : decode cX6_teach 47 = .ok (.if_icmp .ge 113, 3) := by decide +kernel
theorem dX6_teach_50 : decode cX6_teach 50 = .ok (.aload_n 0, 1) := by decide +kernel
theorem dX6_teach_51 : decode cX6_teach 51 = .ok (.getfield 25, 3) := by decide +kernel
theorem dX6_teach_54 : decode cX6_teach 54 = .ok (.bipush 84, 2) := by decide +kernel
theorem dX6_teach_56 : decode cX6_teach 56 = .ok (.iload_n 1, 1) := by decide +kernel
theorem dX6_teach_57 : decode cX6_teach 57 = .ok (.imul, 1) := by decide +kernel
theorem dX6_teach_58 : decode cX6_teach 58 = .ok (.bipush 6, 2) := by decide +kernel
theorem dX6_teach_60 : decode cX6_teach 60 = .ok (.iadd, 1) := by decide +kernel
theorem dX6_teach_61 : decode cX6_teach 61 = .ok (.iload_n 3, 1) := by decide +kernel
theorem dX6_teach_62 : decode cX6_teach 62 = .ok (.iadd, 1) := by decide +kernel
theorem dX6_teach_63 : decode cX6_teach 63 = .ok (.iaload, 1) := by decide +kernel
theorem dX6_teach_64 : decode cX6_teach 64 = .ok (.istore 4, 2) := by decide +kernel
theorem dX6_teach_66 : decode cX6_teach 66 = .ok (.aload_n 0, 1) := by decide +kernel
theorem dX6_teach_67 : decode cX6_teach 67 = .ok (.getfield 25, 3) := by decide +kernel
theorem dX6_teach_70 : decode cX6_teach 70 = .ok (.sipush 1019, 3) := by decide +kernel
theorem dX6_teach_73 : decode cX6_teach 73 = .ok (.iload_n 3, 1) := by decide +kernel
theorem dX6_teach_74 : decode cX6_teach 74 = .ok (.iadd, 1) := by decide +kernel
theorem dX6_teach_75 : decode cX6_teach 75 = .ok (.iload_n 2, 1) := by decide +kernel
theorem dX6_teach_76 : decode cX6_teach 76 = .ok (.ifCond .ne 18, 3) := by decide +kernel
theorem dX6_teach_79 : decode cX6_teach 79 = .ok (.iload 4, 2) := by decide +kernel
theorem dX6_teach_81 : decode cX6_teach 81 = .ok (.aload_n 0, 1) := by decide +kernel
theorem dX6_teach_82 : decode cX6_teach 82 = .ok (.getfield 25, 3) := by decide +kernel
theorem dX6_teach_85 : decode cX6_teach 85 = .ok (.sipush 1019, 3) := by decide +kernel
theorem dX6_teach_88 : decode cX6_teach 88 = .ok (.iload_n 3, 1) := by decide +kernel
theorem dX6_teach_89 : decode cX6_teach 89 = .ok (.iadd, 1) := by decide +kernel
theorem dX6_teach_90 : decode cX6_teach 90 = .ok (.iaload, 1) := by decide +kernel
theorem dX6_teach_91 : decode cX6_teach 91 = .ok (.if_icmp .ge 8, 3) := by decide +kernel
theorem dX6_teach_94 : decode cX6_teach 94 = .ok (.iload 4, 2) := by decide +kernel
theorem dX6_teach_96 : decode cX6_teach 96 = .ok (.goto 13, 3) := by decide +kernel
theorem dX6_teach_99 : decode cX6_teach 99 = .ok (.aload_n 0, 1) := by decide +kernel
theorem dX6_teach_100 : decode cX6_teach 100 = .ok (.getfield 25, 3) := by decide +kernel
theorem dX6_teach_103 : decode cX6_teach 103 = .ok (.sipush 1019, 3) := by decide +kernel
theorem dX6_teach_106 : decode cX6_teach 106 = .ok (.iload_n 3, 1) := by decide +kernel
theorem dX6_teach_107 : decode cX6_teach 107 = .ok (.iadd, 1) := by decide +kernel
theorem dX6_teach_108 : decode cX6_teach 108 = .ok (.iaload, 1) := by decide +kernel
theorem dX6_teach_109 : decode cX6_teach 109 = .ok (.iastore, 1) := by decide +kernel
theorem dX6_teach_110 : decode cX6_teach 110 = .ok (.aload_n 0, 1) := by decide +kernel
theorem dX6_teach_111 : decode cX6_teach 111 = .ok (.getfield 25, 3) := by decide +kernel
theorem dX6_teach_114 : decode cX6_teach 114 = .ok (.sipush 1079, 3) := by decide +kernel
theorem dX6_teach_117 : decode cX6_teach 117 = .ok (.iload_n 3, 1) := by decide +kernel
theorem dX6_teach_118 : decode cX6_teach 118 = .ok (.iadd, 1) := by decide +kernel
theorem dX6_teach_119 : decode cX6_teach 119 = .ok (.iload_n 2, 1) := by decide +kernel
theorem dX6_teach_120 : decode cX6_teach 120 = .ok (.ifCond .ne 18, 3) := by decide +kernel
theorem dX6_teach_123 : decode cX6_teach 123 = .ok (.iload 4, 2) := by decide +kernel
theorem dX6_teach_125 : decode cX6_teach 125 = .ok (.aload_n 0, 1) := by decide +kernel
theorem dX6_teach_126 : decode cX6_teach 126 = .ok (.getfield 25, 3) := by decide +kernel
theorem dX6_teach_129 : decode cX6_teach 129 = .ok (.sipush 1079, 3) := by decide +kernel
theorem dX6_teach_132 : decode cX6_teach 132 = .ok (.iload_n 3, 1) := by decide +kernel
theorem dX6_teach_133 : decode cX6_teach 133 = .ok (.iadd, 1) := by decide +kernel
theorem dX6_teach_134 : decode cX6_teach 134 = .ok (.iaload, 1) := by decide +kernel
theorem dX6_teach_135 : decode cX6_teach 135 = .ok (.if_icmp .le 8, 3) := by decide +kernel
theorem dX6_teach_138 : decode cX6_teach 138 = .ok (.iload 4, 2) := by decide +kernel
theorem dX6_teach_140 : decode cX6_teach 140 = .ok (.goto 13, 3) := by decide +kernel
theorem dX6_teach_143 : decode cX6_teach 143 = .ok (.aload_n 0, 1) := by decide +kernel
theorem dX6_teach_144 : decode cX6_teach 144 = .ok (.getfield 25, 3) := by decide +kernel
theorem dX6_teach_147 : decode cX6_teach 147 = .ok (.sipush 1079, 3) := by decide +kernel
theorem dX6_teach_150 : decode cX6_teach 150 = .ok (.iload_n 3, 1) := by decide +kernel
theorem dX6_teach_151 : decode cX6_teach 151 = .ok (.iadd, 1) := by decide +kernel
theorem dX6_teach_152 : decode cX6_teach 152 = .ok (.iaload, 1) := by decide +kernel
theorem dX6_teach_153 : decode cX6_teach 153 = .ok (.iastore, 1) := by decide +kernel
theorem dX6_teach_154 : decode cX6_teach 154 = .ok (.iinc 3 1, 3) := by decide +kernel
theorem dX6_teach_157 : decode cX6_teach 157 = .ok (.goto (-113), 3) := by decide +kernel
theorem dX6_teach_160 : decode cX6_teach 160 = .ok (.aload_n 0, 1) := by decide +kernel
theorem dX6_teach_161 : decode cX6_teach 161 = .ok (.getfield 25, 3) := by decide +kernel
theorem dX6_teach_164 : decode cX6_teach 164 = .ok (.bipush 84, 2) := by decide +kernel
theorem dX6_teach_166 : decode cX6_teach 166 = .ok (.iload_n 1, 1) := by decide +kernel
theorem dX6_teach_167 : decode cX6_teach 167 = .ok (.imul, 1) := by decide +kernel
theorem dX6_teach_168 : decode cX6_teach 168 = .ok (.iconst 1, 1) := by decide +kernel
theorem dX6_teach_169 : decode cX6_teach 169 = .ok (.iadd, 1) := by decide +kernel
theorem dX6_teach_170 : decode cX6_teach 170 = .ok (.iaload, 1) := by decide +kernel
theorem dX6_teach_171 : decode cX6_teach 171 = .ok (.istore_n 3, 1) := by decide +kernel
theorem dX6_teach_172 : decode cX6_teach 172 = .ok (.aload_n 0, 1) := by decide +kernel
theorem dX6_teach_173 : decode cX6_teach 173 = .ok (.getfield 25, 3) := by decide +kernel
theorem dX6_teach_176 : decode cX6_teach 176 = .ok (.sipush 1016, 3) := by decide +kernel
theorem dX6_teach_179 : decode cX6_teach 179 = .ok (.iload_n 2, 1) := by decide +kernel
theorem dX6_teach_180 : decode cX6_teach 180 = .ok (.ifCond .ne 15, 3) := by decide +kernel
theorem dX6_teach_183 : decode cX6_teach 183 = .ok (.iload_n 3, 1) := by decide +kernel
theorem dX6_teach_184 : decode cX6_teach 184 = .ok (.aload_n 0, 1) := by decide +kernel
theorem dX6_teach_185 : decode cX6_teach 185 = .ok (.getfield 25, 3) := by decide +kernel
theorem dX6_teach_188 : decode cX6_teach 188 = .ok (.sipush 1016, 3) := by decide +kernel
theorem dX6_teach_191 : decode cX6_teach 191 = .ok (.iaload, 1) := by decide +kernel
theorem dX6_teach_192 : decode cX6_teach 192 = .ok (.if_icmp .ge 7, 3) := by decide +kernel
theorem dX6_teach_195 : decode cX6_teach 195 = .ok (.iload_n 3, 1) := by decide +kernel
theorem dX6_teach_196 : decode cX6_teach 196 = .ok (.goto 11, 3) := by decide +kernel
theorem dX6_teach_199 : decode cX6_teach 199 = .ok (.aload_n 0, 1) := by decide +kernel
theorem dX6_teach_200 : decode cX6_teach 200 = .ok (.getfield 25, 3) := by decide +kernel
theorem dX6_teach_203 : decode cX6_teach 203 = .ok (.sipush 1016, 3) := by decide +kernel
theorem dX6_teach_206 : decode cX6_teach 206 = .ok (.iaload, 1) := by decide +kernel
theorem dX6_teach_207 : decode cX6_teach 207 = .ok (.iastore, 1) := by decide +kernel
theorem dX6_teach_208 : decode cX6_teach 208 = .ok (.aload_n 0, 1) := by decide +kernel
theorem dX6_teach_209 : decode cX6_teach 209 = .ok (.getfield 25, 3) := by decide +kernel
theorem dX6_teach_212 : decode cX6_teach 212 = .ok (.sipush 1017, 3) := by decide +kernel
theorem dX6_teach_215 : decode cX6_teach 215 = .ok (.iload_n 2, 1) := by decide +kernel
theorem dX6_teach_216 : decode cX6_teach 216 = .ok (.ifCond .ne 15, 3) := by decide +kernel
theorem dX6_teach_219 : decode cX6_teach 219 = .ok (.iload_n 3, 1) := by decide +kernel
theorem dX6_teach_220 : decode cX6_teach 220 = .ok (.aload_n 0, 1) := by decide +kernel
theorem dX6_teach_221 : decode cX6_teach 221 = .ok (.getfield 25, 3) := by decide +kernel
theorem dX6_teach_224 : decode cX6_teach 224 = .ok (.sipush 1017, 3) := by decide +kernel
theorem dX6_teach_227 : decode cX6_teach 227 = .ok (.iaload, 1) := by decide +kernel
theorem dX6_teach_228 : decode cX6_teach 228 = .ok (.if_icmp .le 7, 3) := by decide +kernel
theorem dX6_teach_231 : decode cX6_teach 231 = .ok (.iload_n 3, 1) := by decide +kernel
theorem dX6_teach_232 : decode cX6_teach 232 = .ok (.goto 11, 3) := by decide +kernel
theorem dX6_teach_235 : decode cX6_teach 235 = .ok (.aload_n 0, 1) := by decide +kernel
theorem dX6_teach_236 : decode cX6_teach 236 = .ok (.getfield 25, 3) := by decide +kernel
theorem dX6_teach_239 : decode cX6_teach 239 = .ok (.sipush 1017, 3) := by decide +kernel
theorem dX6_teach_242 : decode cX6_teach 242 = .ok (.iaload, 1) := by decide +kernel
theorem dX6_teach_243 : decode cX6_teach 243 = .ok (.iastore, 1) := by decide +kernel
theorem dX6_teach_244 : decode cX6_teach 244 = .ok (.aload_n 0, 1) := by decide +kernel
theorem dX6_teach_245 : decode cX6_teach 245 = .ok (.getfield 25, 3) := by decide +kernel
theorem dX6_teach_248 : decode cX6_teach 248 = .ok (.sipush 1015, 3) := by decide +kernel
theorem dX6_teach_251 : decode cX6_teach 251 = .ok (.dup2, 1) := by decide +kernel
theorem dX6_teach_252 : decode cX6_teach 252 = .ok (.iaload, 1) := by decide +kernel
theorem dX6_teach_253 : decode cX6_teach 253 = .ok (.iconst 1, 1) := by decide +kernel
theorem dX6_teach_254 : decode cX6_teach 254 = .ok (.iadd, 1) := by decide +kernel
theorem dX6_teach_255 : decode cX6_teach 255 = .ok (.iastore, 1) := by decide +kernel
theorem dX6_teach_256 : decode cX6_teach 256 = .ok (.aload_n 0, 1) := by decide +kernel
theorem dX6_teach_257 : decode cX6_teach 257 = .ok (.getfield 25, 3) := by decide +kernel
theorem dX6_teach_260 : decode cX6_teach 260 = .ok (.sipush 1015, 3) := by decide +kernel
theorem dX6_teach_263 : decode cX6_teach 263 = .ok (.iaload, 1) := by decide +kernel
theorem dX6_teach_264 : decode cX6_teach 264 = .ok (.ireturn, 1) := by decide +kernel
set_option maxRecDepth 20000 in
theorem ggX6_forget_X6_keeps : GoodIn wsX6_forget wsX6_keeps := goodIn_r _ [6, 7, 8, 1, 9, 10, 11, 12, 13, 14, 15, 16, 17, 18, 19, 20, 21, 22, 23, 24, 25, 26, 27, 28, 29, 30, 31] (by decide +kernel) (by decide +kernel)
set_option maxRecDepth 20000 in
theorem gX6_forget_X6_keeps : GoodIn wsX6_forget (wsV RX6 159 RX6 yX6_keeps wsX6_keeps) := goodIn_app (goodIn_of _ (by decide +kernel)) ggX6_forget_X6_keeps
theorem dX6_forget_0 : decode cX6_forget 0 = .ok (.aload_n 0, 1) := by decide +kernel
theorem dX6_forget_1 : decode cX6_forget 1 = .ok (.getfield 25, 3) := by decide +kernel
theorem dX6_forget_4 : decode cX6_forget 4 = .ok (.sipush 1015, 3) := by decide +kernel
theorem dX6_forget_7 : decode cX6_forget 7 = .ok (.iaload, 1) := by decide +kernel
theorem dX6_forget_8 : decode cX6_forget 8 = .ok (.istore_n 1, 1) := by decide +kernel
theorem dX6_forget_9 : decode cX6_forget 9 = .ok (.iload_n 1, 1) := by decide +kernel
theorem dX6_forget_10 : decode cX6_forget 10 = .ok (.ifCond .ne 6, 3) := by decide +kernel
theorem dX6_forget_13 : decode cX6_forget 13 = .ok (.bipush (-2), 2) := by decide +kernel
theorem dX6_forget_15 : decode cX6_forget 15 = .ok (.ireturn, 1) := by decide +kernel
theorem dX6_forget_16 : decode cX6_forget 16 = .ok (.aload_n 0, 1) := by decide +kernel
theorem dX6_forget_17 : decode cX6_forget 17 = .ok (.invokevirtual 159, 3) := by decide +kernel
theorem dX6_forget_20 : decode cX6_forget 20 = .ok (.aload_n 0, 1) := by decide +kernel
theorem dX6_forget_21 : decode cX6_forget 21 = .ok (.getfield 25, 3) := by decide +kernel
theorem dX6_forget_24 : decode cX6_forget 24 = .ok (.sipush 1015, 3) := by decide +kernel
theorem dX6_forget_27 : decode cX6_forget 27 = .ok (.iconst 0, 1) := by decide +kernel
theorem dX6_forget_28 : decode cX6_forget 28 = .ok (.iastore, 1) := by decide +kernel
theorem dX6_forget_29 : decode cX6_forget 29 = .ok (.iload_n 1, 1) := by decide +kernel
theorem dX6_forget_30 : decode cX6_forget 30 = .ok (.ireturn, 1) := by decide +kernel
set_option maxRecDepth 20000 in
theorem ggX6_wide_X6_isIn : GoodIn wsX6_wide wsX6_isIn := goodIn_r _ [4] (by decide +kernel) (by decide +kernel)
set_option maxRecDepth 20000 in
theorem gX6_wide_X6_isIn : GoodIn wsX6_wide (va_wsS RX6 95 yX6_isIn wsX6_isIn) := goodIn_app (goodIn_of _ (by decide +kernel)) ggX6_wide_X6_isIn
set_option maxRecDepth 20000 in
theorem ggX6_wide_X6_becomes : GoodIn wsX6_wide wsX6_becomes := goodIn_r _ [8, 9, 10, 11, 12, 3, 13, 14, 15, 16, 17, 18, 19, 20, 21, 22, 23, 24, 25, 26, 27, 28, 29, 30, 31, 32, 33, 34, 35, 36, 37, 38] (by decide +kernel) (by decide +kernel)
set_option maxRecDepth 20000 in
theorem gX6_wide_X6_becomes : GoodIn wsX6_wide (wsV RX6 174 RX6 yX6_becomes wsX6_becomes) := goodIn_app (goodIn_of _ (by decide +kernel)) ggX6_wide_X6_becomes
theorem dX6_wide_0 : decode cX6_wide 0 = .ok (.iload_n 1, 1) := by decide +kernel
theorem dX6_wide_1 : decode cX6_wide 1 = .ok (.iconst 0, 1) := by decide +kernel
theorem dX6_wide_2 : decode cX6_wide 2 = .ok (.bipush 20, 2) := by decide +kernel
theorem dX6_wide_4 : decode cX6_wide 4 = .ok (.invokestatic 95, 3) := by decide +kernel
theorem dX6_wide_7 : decode cX6_wide 7 = .ok (.ifCond .eq 14, 3) := by decide +kernel
theorem dX6_wide_10 : decode cX6_wide 10 = .ok (.aload_n 0, 1) := by decide +kernel
theorem dX6_wide_11 : decode cX6_wide 11 = .ok (.sipush 1018, 3) := by decide +kernel
theorem dX6_wide_14 : decode cX6_wide 14 = .ok (.iload_n 1, 1) := by decide +kernel
theorem dX6_wide_15 : decode cX6_wide 15 = .ok (.invokevirtual 174, 3) := by decide +kernel
theorem dX6_wide_18 : decode cX6_wide 18 = .ok (.goto 4, 3) := by decide +kernel
theorem dX6_wide_21 : decode cX6_wide 21 = .ok (.iconst (-1), 1) := by decide +kernel
theorem dX6_wide_22 : decode cX6_wide 22 = .ok (.ireturn, 1) := by decide +kernel
set_option maxRecDepth 20000 in
theorem ggX6_band_X6_isIn : GoodIn wsX6_band wsX6_isIn := goodIn_r _ [5] (by decide +kernel) (by decide +kernel)
set_option maxRecDepth 20000 in
theorem gX6_band_X6_isIn : GoodIn wsX6_band (va_wsS RX6 95 yX6_isIn wsX6_isIn) := goodIn_app (goodIn_of _ (by decide +kernel)) ggX6_band_X6_isIn
theorem dX6_band_0 : decode cX6_band 0 = .ok (.iload_n 1, 1) := by decide +kernel
theorem dX6_band_1 : decode cX6_band 1 = .ok (.iconst 1, 1) := by decide +kernel
theorem dX6_band_2 : decode cX6_band 2 = .ok (.bipush 60, 2) := by decide +kernel
theorem dX6_band_4 : decode cX6_band 4 = .ok (.invokestatic 95, 3) := by decide +kernel
theorem dX6_band_7 : decode cX6_band 7 = .ok (.ifCond .eq 12, 3) := by decide +kernel
theorem dX6_band_10 : decode cX6_band 10 = .ok (.iload_n 2, 1) := by decide +kernel
theorem dX6_band_11 : decode cX6_band 11 = .ok (.iconst 0, 1) := by decide +kernel
theorem dX6_band_12 : decode cX6_band 12 = .ok (.iconst 1, 1) := by decide +kernel
theorem dX6_band_13 : decode cX6_band 13 = .ok (.invokestatic 95, 3) := by decide +kernel
theorem dX6_band_16 : decode cX6_band 16 = .ok (.ifCond .ne 5, 3) := by decide +kernel
theorem dX6_band_19 : decode cX6_band 19 = .ok (.iconst (-1), 1) := by decide +kernel
theorem dX6_band_20 : decode cX6_band 20 = .ok (.ireturn, 1) := by decide +kernel
theorem dX6_band_21 : decode cX6_band 21 = .ok (.aload_n 0, 1) := by decide +kernel
theorem dX6_band_22 : decode cX6_band 22 = .ok (.getfield 25, 3) := by decide +kernel
theorem dX6_band_25 : decode cX6_band 25 = .ok (.sipush 1015, 3) := by decide +kernel
theorem dX6_band_28 : decode cX6_band 28 = .ok (.iaload, 1) := by decide +kernel
theorem dX6_band_29 : decode cX6_band 29 = .ok (.ifCond .eq 15, 3) := by decide +kernel
theorem dX6_band_32 : decode cX6_band 32 = .ok (.iload_n 1, 1) := by decide +kernel
theorem dX6_band_33 : decode cX6_band 33 = .ok (.aload_n 0, 1) := by decide +kernel
theorem dX6_band_34 : decode cX6_band 34 = .ok (.getfield 25, 3) := by decide +kernel
theorem dX6_band_37 : decode cX6_band 37 = .ok (.sipush 1017, 3) := by decide +kernel
theorem dX6_band_40 : decode cX6_band 40 = .ok (.iaload, 1) := by decide +kernel
theorem dX6_band_41 : decode cX6_band 41 = .ok (.if_icmp .le 6, 3) := by decide +kernel
theorem dX6_band_44 : decode cX6_band 44 = .ok (.bipush (-4), 2) := by decide +kernel
theorem dX6_band_46 : decode cX6_band 46 = .ok (.ireturn, 1) := by decide +kernel
theorem dX6_band_47 : decode cX6_band 47 = .ok (.aload_n 0, 1) := by decide +kernel
theorem dX6_band_48 : decode cX6_band 48 = .ok (.getfield 25, 3) := by decide +kernel
theorem dX6_band_51 : decode cX6_band 51 = .ok (.iload_n 2, 1) := by decide +kernel
theorem dX6_band_52 : decode cX6_band 52 = .ok (.ifCond .ne 9, 3) := by decide +kernel
theorem dX6_band_55 : decode cX6_band 55 = .ok (.sipush 1019, 3) := by decide +kernel
theorem dX6_band_58 : decode cX6_band 58 = .ok (.goto 6, 3) := by decide +kernel
theorem dX6_band_61 : decode cX6_band 61 = .ok (.sipush 1079, 3) := by decide +kernel
theorem dX6_band_64 : decode cX6_band 64 = .ok (.iload_n 1, 1) := by decide +kernel
theorem dX6_band_65 : decode cX6_band 65 = .ok (.iadd, 1) := by decide +kernel
theorem dX6_band_66 : decode cX6_band 66 = .ok (.iconst 1, 1) := by decide +kernel
theorem dX6_band_67 : decode cX6_band 67 = .ok (.isub, 1) := by decide +kernel
theorem dX6_band_68 : decode cX6_band 68 = .ok (.iaload, 1) := by decide +kernel
theorem dX6_band_69 : decode cX6_band 69 = .ok (.ireturn, 1) := by decide +kernel
theorem dX6_amiss_0 : decode cX6_amiss 0 = .ok (.iconst 0, 1) := by decide +kernel
theorem dX6_amiss_1 : decode cX6_amiss 1 = .ok (.istore_n 2, 1) := by decide +kernel
theorem dX6_amiss_2 : decode cX6_amiss 2 = .ok (.iconst 0, 1) := by decide +kernel
theorem dX6_amiss_3 : decode cX6_amiss 3 = .ok (.istore_n 3, 1) := by decide +kernel
theorem dX6_amiss_4 : decode cX6_amiss 4 = .ok (.iload_n 3, 1) := by decide +kernel
theorem dX6_amiss_5 : decode cX6_amiss 5 = .ok (.bipush 60, 2) := by decide +kernel
theorem dX6_amiss_7 : decode cX6_amiss 7 = .ok (.if_icmp .ge 81, 3) := by decide +kernel
theorem dX6_amiss_10 : decode cX6_amiss 10 = .ok (.aload_n 0, 1) := by decide +kernel
theorem dX6_amiss_11 : decode cX6_amiss 11 = .ok (.getfield 25, 3) := by decide +kernel
theorem dX6_amiss_14 : decode cX6_amiss 14 = .ok (.bipush 84, 2) := by decide +kernel
theorem dX6_amiss_16 : decode cX6_amiss 16 = .ok (.iload_n 1, 1) := by decide +kernel
theorem dX6_amiss_17 : decode cX6_amiss 17 = .ok (.imul, 1) := by decide +kernel
theorem dX6_amiss_18 : decode cX6_amiss 18 = .ok (.bipush 6, 2) := by decide +kernel
theorem dX6_amiss_20 : decode cX6_amiss 20 = .ok (.iadd, 1) := by decide +kernel
theorem dX6_amiss_21 : decode cX6_amiss 21 = .ok (.iload_n 3, 1) := by decide +kernel
theorem dX6_amiss_22 : decode cX6_amiss 22 = .ok (.iadd, 1) := by decide +kernel
theorem dX6_amiss_23 : decode cX6_amiss 23 = .ok (.iaload, 1) := by decide +kernel
theorem dX6_amiss_24 : decode cX6_amiss 24 = .ok (.istore 4, 2) := by decide +kernel
theorem dX6_amiss_26 : decode cX6_amiss 26 = .ok (.iload_n 2, 1) := by decide +kernel
theorem dX6_amiss_27 : decode cX6_amiss 27 = .ok (.iload 4, 2) := by decide +kernel
theorem dX6_amiss_29 : decode cX6_amiss 29 = .ok (.aload_n 0, 1) := by decide +kernel
theorem dX6_amiss_30 : decode cX6_amiss 30 = .ok (.getfield 25, 3) := by decide +kernel
theorem dX6_amiss_33 : decode cX6_amiss 33 = .ok (.sipush 1019, 3) := by decide +kernel
theorem dX6_amiss_36 : decode cX6_amiss 36 = .ok (.iload_n 3, 1) := by decide +kernel
theorem dX6_amiss_37 : decode cX6_amiss 37 = .ok (.iadd, 1) := by decide +kernel
theorem dX6_amiss_38 : decode cX6_amiss 38 = .ok (.iaload, 1) := by decide +kernel
theorem dX6_amiss_39 : decode cX6_amiss 39 = .ok (.aload_n 0, 1) := by decide +kernel
theorem dX6_amiss_40 : decode cX6_amiss 40 = .ok (.getfield 25, 3) := by decide +kernel
theorem dX6_amiss_43 : decode cX6_amiss 43 = .ok (.sipush 1018, 3) := by decide +kernel
theorem dX6_amiss_46 : decode cX6_amiss 46 = .ok (.iaload, 1) := by decide +kernel
theorem dX6_amiss_47 : decode cX6_amiss 47 = .ok (.isub, 1) := by decide +kernel
theorem dX6_amiss_48 : decode cX6_amiss 48 = .ok (.if_icmp .lt 27, 3) := by decide +kernel
theorem dX6_amiss_51 : decode cX6_amiss 51 = .ok (.iload 4, 2) := by decide +kernel
theorem dX6_amiss_53 : decode cX6_amiss 53 = .ok (.aload_n 0, 1) := by decide +kernel
theorem dX6_amiss_54 : decode cX6_amiss 54 = .ok (.getfield 25, 3) := by decide +kernel
theorem dX6_amiss_57 : decode cX6_amiss 57 = .ok (.sipush 1079, 3) := by decide +kernel
theorem dX6_amiss_60 : decode cX6_amiss 60 = .ok (.iload_n 3, 1) := by decide +kernel
theorem dX6_amiss_61 : decode cX6_amiss 61 = .ok (.iadd, 1) := by decide +kernel
theorem dX6_amiss_62 : decode cX6_amiss 62 = .ok (.iaload, 1) := by decide +kernel
theorem dX6_amiss_63 : decode cX6_amiss 63 = .ok (.aload_n 0, 1) := by decide +kernel
theorem dX6_amiss_64 : decode cX6_amiss 64 = .ok (.getfield 25, 3) := by decide +kernel
theorem dX6_amiss_67 : decode cX6_amiss 67 = .ok (.sipush 1018, 3) := by decide +kernel
theorem dX6_amiss_70 : decode cX6_amiss 70 = .ok (.iaload, 1) := by decide +kernel
theorem dX6_amiss_71 : decode cX6_amiss 71 = .ok (.iadd, 1) := by decide +kernel
theorem dX6_amiss_72 : decode cX6_amiss 72 = .ok (.if_icmp .le 7, 3) := by decide +kernel
theorem dX6_amiss_75 : decode cX6_amiss 75 = .ok (.iconst 1, 1) := by decide +kernel
theorem dX6_amiss_76 : decode cX6_amiss 76 = .ok (.goto 4, 3) := by decide +kernel
theorem dX6_amiss_79 : decode cX6_amiss 79 = .ok (.iconst 0, 1) := by decide +kernel
theorem dX6_amiss_80 : decode cX6_amiss 80 = .ok (.iadd, 1) := by decide +kernel
theorem dX6_amiss_81 : decode cX6_amiss 81 = .ok (.istore_n 2, 1) := by decide +kernel
theorem dX6_amiss_82 : decode cX6_amiss 82 = .ok (.iinc 3 1, 3) := by decide +kernel
theorem dX6_amiss_85 : decode cX6_amiss 85 = .ok (.goto (-81), 3) := by decide +kernel
theorem dX6_amiss_88 : decode cX6_amiss 88 = .ok (.iload_n 2, 1) := by decide +kernel
theorem dX6_amiss_89 : decode cX6_amiss 89 = .ok (.ireturn, 1) := by decide +kernel
set_option maxRecDepth 20000 in
theorem ggX6_isBad_X6_overBy : GoodIn wsX6_isBad wsX6_overBy := goodIn_r _ [7, 2, 8, 17, 18, 19, 20, 21, 22, 23, 24, 25, 26, 27, 28, 29, 30, 31, 32, 33, 34, 35, 36, 37, 38, 39] (by decide +kernel) (by decide +kernel)
set_option maxRecDepth 20000 in
theorem gX6_isBad_X6_overBy : GoodIn wsX6_isBad (wsV RX6 192 RX6 yX6_overBy wsX6_overBy) := goodIn_app (goodIn_of _ (by decide +kernel)) ggX6_isBad_X6_overBy
set_option maxRecDepth 20000 in
theorem ggX6_isBad_X6_shortBy : GoodIn wsX6_isBad wsX6_shortBy := goodIn_r _ [12, 8, 2, 17, 18, 19, 20, 21, 22, 23, 24, 25, 26, 27, 28, 29, 30, 31, 32, 33, 34, 35, 36, 37, 38, 39] (by decide +kernel) (by decide +kernel)
set_option maxRecDepth 20000 in
theorem gX6_isBad_X6_shortBy : GoodIn wsX6_isBad (wsV RX6 183 RX6 yX6_shortBy wsX6_shortBy) := goodIn_app (goodIn_of _ (by decide +kernel)) ggX6_isBad_X6_shortBy
set_option maxRecDepth 20000 in
theorem ggX6_isBad_X6_amiss : GoodIn wsX6_isBad wsX6_amiss := goodIn_r _ [16, 2, 17, 18, 19, 20, 21, 22, 23, 24, 25, 26, 27, 28, 29, 30, 31, 32, 33, 34, 35, 36, 37, 38, 39] (by decide +kernel) (by decide +kernel)
set_option maxRecDepth 20000 in
theorem gX6_isBad_X6_amiss : GoodIn wsX6_isBad (wsV RX6 195 RX6 yX6_amiss wsX6_amiss) := goodIn_app (goodIn_of _ (by decide +kernel)) ggX6_isBad_X6_amiss
theorem dX6_isBad_0 : decode cX6_isBad 0 = .ok (.iconst 0, 1) := by decide +kernel
theorem dX6_isBad_1 : decode cX6_isBad 1 = .ok (.istore_n 2, 1) := by decide +kernel
theorem dX6_isBad_2 : decode cX6_isBad 2 = .ok (.iconst 0, 1) := by decide +kernel
theorem dX6_isBad_3 : decode cX6_isBad 3 = .ok (.istore_n 3, 1) := by decide +kernel
theorem dX6_isBad_4 : decode cX6_isBad 4 = .ok (.iload_n 3, 1) := by decide +kernel
theorem dX6_isBad_5 : decode cX6_isBad 5 = .ok (.aload_n 0, 1) := by decide +kernel
theorem dX6_isBad_6 : decode cX6_isBad 6 = .ok (.getfield 70, 3) := by decide +kernel
theorem dX6_isBad_9 : decode cX6_isBad 9 = .ok (.if_icmp .ge 39, 3) := by decide +kernel
theorem dX6_isBad_12 : decode cX6_isBad 12 = .ok (.iload_n 2, 1) := by decide +kernel
theorem dX6_isBad_13 : decode cX6_isBad 13 = .ok (.ifCond .ne 23, 3) := by decide +kernel
theorem dX6_isBad_16 : decode cX6_isBad 16 = .ok (.aload_n 0, 1) := by decide +kernel
theorem dX6_isBad_17 : decode cX6_isBad 17 = .ok (.iload_n 1, 1) := by decide +kernel
theorem dX6_isBad_18 : decode cX6_isBad 18 = .ok (.iload_n 3, 1) := by decide +kernel
theorem dX6_isBad_19 : decode cX6_isBad 19 = .ok (.invokevirtual 192, 3) := by decide +kernel
theorem dX6_isBad_22 : decode cX6_isBad 22 = .ok (.iconst 1, 1) := by decide +kernel
theorem dX6_isBad_23 : decode cX6_isBad 23 = .ok (.if_icmp .gt 13, 3) := by decide +kernel
theorem dX6_isBad_26 : decode cX6_isBad 26 = .ok (.aload_n 0, 1) := by decide +kernel
theorem dX6_isBad_27 : decode cX6_isBad 27 = .ok (.iload_n 1, 1) := by decide +kernel
theorem dX6_isBad_28 : decode cX6_isBad 28 = .ok (.iload_n 3, 1) := by decide +kernel
theorem dX6_isBad_29 : decode cX6_isBad 29 = .ok (.invokevirtual 183, 3) := by decide +kernel
theorem dX6_isBad_32 : decode cX6_isBad 32 = .ok (.iconst 1, 1) := by decide +kernel
theorem dX6_isBad_33 : decode cX6_isBad 33 = .ok (.if_icmp .le 7, 3) := by decide +kernel
theorem dX6_isBad_36 : decode cX6_isBad 36 = .ok (.iconst 1, 1) := by decide +kernel
theorem dX6_isBad_37 : decode cX6_isBad 37 = .ok (.goto 4, 3) := by decide +kernel
theorem dX6_isBad_40 : decode cX6_isBad 40 = .ok (.iconst 0, 1) := by decide +kernel
theorem dX6_isBad_41 : decode cX6_isBad 41 = .ok (.istore_n 2, 1) := by decide +kernel
theorem dX6_isBad_42 : decode cX6_isBad 42 = .ok (.iinc 3 1, 3) := by decide +kernel
theorem dX6_isBad_45 : decode cX6_isBad 45 = .ok (.goto (-41), 3) := by decide +kernel
theorem dX6_isBad_48 : decode cX6_isBad 48 = .ok (.aload_n 0, 1) := by decide +kernel
theorem dX6_isBad_49 : decode cX6_isBad 49 = .ok (.getfield 25, 3) := by decide +kernel
theorem dX6_isBad_52 : decode cX6_isBad 52 = .ok (.bipush 84, 2) := by decide +kernel
theorem dX6_isBad_54 : decode cX6_isBad 54 = .ok (.iload_n 1, 1) := by decide +kernel
theorem dX6_isBad_55 : decode cX6_isBad 55 = .ok (.imul, 1) := by decide +kernel
theorem dX6_isBad_56 : decode cX6_isBad 56 = .ok (.iconst 1, 1) := by decide +kernel
theorem dX6_isBad_57 : decode cX6_isBad 57 = .ok (.iadd, 1) := by decide +kernel
theorem dX6_isBad_58 : decode cX6_isBad 58 = .ok (.iaload, 1) := by decide +kernel
theorem dX6_isBad_59 : decode cX6_isBad 59 = .ok (.istore_n 3, 1) := by decide +kernel
theorem dX6_isBad_60 : decode cX6_isBad 60 = .ok (.iload_n 2, 1) := by decide +kernel
theorem dX6_isBad_61 : decode cX6_isBad 61 = .ok (.ifCond .ne 51, 3) := by decide +kernel
theorem dX6_isBad_64 : decode cX6_isBad 64 = .ok (.aload_n 0, 1) := by decide +kernel
theorem dX6_isBad_65 : decode cX6_isBad 65 = .ok (.getfield 25, 3) := by decide +kernel
theorem dX6_isBad_68 : decode cX6_isBad 68 = .ok (.sipush 1015, 3) := by decide +kernel
theorem dX6_isBad_71 : decode cX6_isBad 71 = .ok (.iaload, 1) := by decide +kernel
theorem dX6_isBad_72 : decode cX6_isBad 72 = .ok (.ifCond .le 44, 3) := by decide +kernel
theorem dX6_isBad_75 : decode cX6_isBad 75 = .ok (.aload_n 0, 1) := by decide +kernel
theorem dX6_isBad_76 : decode cX6_isBad 76 = .ok (.iload_n 1, 1) := by decide +kernel
theorem dX6_isBad_77 : decode cX6_isBad 77 = .ok (.invokevirtual 195, 3) := by decide +kernel
theorem dX6_isBad_80 : decode cX6_isBad 80 = .ok (.iconst 1, 1) := by decide +kernel
theorem dX6_isBad_81 : decode cX6_isBad 81 = .ok (.if_icmp .gt 31, 3) := by decide +kernel
theorem dX6_isBad_84 : decode cX6_isBad 84 = .ok (.iload_n 3, 1) := by decide +kernel
theorem dX6_isBad_85 : decode cX6_isBad 85 = .ok (.aload_n 0, 1) := by decide +kernel
theorem dX6_isBad_86 : decode cX6_isBad 86 = .ok (.getfield 25, 3) := by decide +kernel
theorem dX6_isBad_89 : decode cX6_isBad 89 = .ok (.sipush 1016, 3) := by decide +kernel
theorem dX6_isBad_92 : decode cX6_isBad 92 = .ok (.iaload, 1) := by decide +kernel
theorem dX6_isBad_93 : decode cX6_isBad 93 = .ok (.iconst 1, 1) := by decide +kernel
theorem dX6_isBad_94 : decode cX6_isBad 94 = .ok (.isub, 1) := by decide +kernel
theorem dX6_isBad_95 : decode cX6_isBad 95 = .ok (.if_icmp .lt 17, 3) := by decide +kernel
theorem dX6_isBad_98 : decode cX6_isBad 98 = .ok (.iload_n 3, 1) := by decide +kernel
theorem dX6_isBad_99 : decode cX6_isBad 99 = .ok (.aload_n 0, 1) := by decide +kernel
theorem dX6_isBad_100 : decode cX6_isBad 100 = .ok (.getfield 25, 3) := by decide +kernel
theorem dX6_isBad_103 : decode cX6_isBad 103 = .ok (.sipush 1017, 3) := by decide +kernel
theorem dX6_isBad_106 : decode cX6_isBad 106 = .ok (.iaload, 1) := by decide +kernel
theorem dX6_isBad_107 : decode cX6_isBad 107 = .ok (.iconst 1, 1) := by decide +kernel
theorem dX6_isBad_108 : decode cX6_isBad 108 = .ok (.iadd, 1) := by decide +kernel
theorem dX6_isBad_109 : decode cX6_isBad 109 = .ok (.if_icmp .le 7, 3) := by decide +kernel
theorem dX6_isBad_112 : decode cX6_isBad 112 = .ok (.iconst 1, 1) := by decide +kernel
theorem dX6_isBad_113 : decode cX6_isBad 113 = .ok (.goto 4, 3) := by decide +kernel
theorem dX6_isBad_116 : decode cX6_isBad 116 = .ok (.iconst 0, 1) := by decide +kernel
theorem dX6_isBad_117 : decode cX6_isBad 117 = .ok (.ireturn, 1) := by decide +kernel
set_option maxRecDepth 20000 in
theorem ggX6_shot_X6_isShot : GoodIn wsX6_shot wsX6_isShot := goodIn_r _ [6, 1, 7, 8, 5, 9, 31, 32, 33, 34, 35, 36, 37, 38, 39, 40, 41, 42, 43, 44, 45, 46, 47, 48, 49, 50, 51, 52, 53] (by decide +kernel) (by decide +kernel)
set_option maxRecDepth 20000 in
theorem gX6_shot_X6_isShot : GoodIn wsX6_shot (wsV RX6 186 RX6 yX6_isShot wsX6_isShot) := goodIn_app (goodIn_of _ (by decide +kernel)) ggX6_shot_X6_isShot
set_option maxRecDepth 20000 in
theorem ggX6_shot_X6_isIn : GoodIn wsX6_shot wsX6_isIn := goodIn_r _ [9] (by decide +kernel) (by decide +kernel)
set_option maxRecDepth 20000 in
theorem gX6_shot_X6_isIn : GoodIn wsX6_shot (va_wsS RX6 95 yX6_isIn wsX6_isIn) := goodIn_app (goodIn_of _ (by decide +kernel)) ggX6_shot_X6_isIn
set_option maxRecDepth 20000 in
theorem ggX6_shot_X6_told : GoodIn wsX6_shot wsX6_told := goodIn_r _ [12] (by decide +kernel) (by decide +kernel)
set_option maxRecDepth 20000 in
theorem gX6_shot_X6_told : GoodIn wsX6_shot (va_wsS RX6 198 yX6_told wsX6_told) := goodIn_app (goodIn_of _ (by decide +kernel)) ggX6_shot_X6_told
set_option maxRecDepth 20000 in
theorem ggX6_shot_X6_isBad : GoodIn wsX6_shot wsX6_isBad := goodIn_r _ [16, 17, 1, 18, 19, 20, 5, 21, 22, 23, 24, 25, 26, 27, 28, 29, 30, 31, 32, 33, 34, 35, 36, 37, 38, 39, 40, 41, 42, 43, 44, 45, 46, 47, 48, 49, 50, 51, 52, 53] (by decide +kernel) (by decide +kernel)
set_option maxRecDepth 20000 in
theorem gX6_shot_X6_isBad : GoodIn wsX6_shot (wsV RX6 202 RX6 yX6_isBad wsX6_isBad) := goodIn_app (goodIn_of _ (by decide +kernel)) ggX6_shot_X6_isBad
set_option maxRecDepth 20000 in
theorem ggX6_shot_X6_amiss : GoodIn wsX6_shot wsX6_amiss := goodIn_r _ [30, 1, 31, 32, 33, 34, 35, 36, 37, 38, 39, 40, 41, 42, 43, 44, 45, 46, 47, 48, 49, 50, 51, 52, 53] (by decide +kernel) (by decide +kernel)
set_option maxRecDepth 20000 in
theorem gX6_shot_X6_amiss : GoodIn wsX6_shot (wsV RX6 195 RX6 yX6_amiss wsX6_amiss) := goodIn_app (goodIn_of _ (by decide +kernel)) ggX6_shot_X6_amiss
theorem dX6_shot_0 : decode cX6_shot 0 = .ok (.aload_n 0, 1) := by decide +kernel
theorem dX6_shot_1 : decode cX6_shot 1 = .ok (.iload_n 1, 1) := by decide +kernel
theorem dX6_shot_2 : decode cX6_shot 2 = .ok (.invokevirtual 186, 3) := by decide +kernel
theorem dX6_shot_5 : decode cX6_shot 5 = .ok (.ifCond .eq 13, 3) := by decide +kernel
theorem dX6_shot_8 : decode cX6_shot 8 = .ok (.iload_n 2, 1) := by decide +kernel
theorem dX6_shot_9 : decode cX6_shot 9 = .ok (.iconst 0, 1) := by decide +kernel
theorem dX6_shot_10 : decode cX6_shot 10 = .ok (.bipush 8, 2) := by decide +kernel
theorem dX6_shot_12 : decode cX6_shot 12 = .ok (.invokestatic 95, 3) := by decide +kernel
theorem dX6_shot_15 : decode cX6_shot 15 = .ok (.ifCond .ne 5, 3) := by decide +kernel
theorem dX6_shot_18 : decode cX6_shot 18 = .ok (.iconst (-1), 1) := by decide +kernel
theorem dX6_shot_19 : decode cX6_shot 19 = .ok (.ireturn, 1) := by decide +kernel
theorem dX6_shot_20 : decode cX6_shot 20 = .ok (.iload_n 2, 1) := by decide +kernel
theorem dX6_shot_21 : decode cX6_shot 21 = .ok (.bipush 7, 2) := by decide +kernel
theorem dX6_shot_23 : decode cX6_shot 23 = .ok (.if_icmp .ge 16, 3) := by decide +kernel
theorem dX6_shot_26 : decode cX6_shot 26 = .ok (.aload_n 0, 1) := by decide +kernel
theorem dX6_shot_27 : decode cX6_shot 27 = .ok (.getfield 25, 3) := by decide +kernel
theorem dX6_shot_30 : decode cX6_shot 30 = .ok (.bipush 84, 2) := by decide +kernel
theorem dX6_shot_32 : decode cX6_shot 32 = .ok (.iload_n 1, 1) := by decide +kernel
theorem dX6_shot_33 : decode cX6_shot 33 = .ok (.imul, 1) := by decide +kernel
theorem dX6_shot_34 : decode cX6_shot 34 = .ok (.iload_n 2, 1) := by decide +kernel
theorem dX6_shot_35 : decode cX6_shot 35 = .ok (.invokestatic 198, 3) := by decide +kernel
theorem dX6_shot_38 : decode cX6_shot 38 = .ok (.ireturn, 1) := by decide +kernel
theorem dX6_shot_39 : decode cX6_shot 39 = .ok (.iload_n 2, 1) := by decide +kernel
theorem dX6_shot_40 : decode cX6_shot 40 = .ok (.bipush 8, 2) := by decide +kernel
theorem dX6_shot_42 : decode cX6_shot 42 = .ok (.if_icmp .ne 19, 3) := by decide +kernel
theorem dX6_shot_45 : decode cX6_shot 45 = .ok (.aload_n 0, 1) := by decide +kernel
theorem dX6_shot_46 : decode cX6_shot 46 = .ok (.iload_n 1, 1) := by decide +kernel
theorem dX6_shot_47 : decode cX6_shot 47 = .ok (.invokevirtual 202, 3) := by decide +kernel
theorem dX6_shot_50 : decode cX6_shot 50 = .ok (.ifCond .eq 7, 3) := by decide +kernel
theorem dX6_shot_53 : decode cX6_shot 53 = .ok (.iconst 1, 1) := by decide +kernel
theorem dX6_shot_54 : decode cX6_shot 54 = .ok (.goto 28, 3) := by decide +kernel
theorem dX6_shot_57 : decode cX6_shot 57 = .ok (.iconst 0, 1) := by decide +kernel
theorem dX6_shot_58 : decode cX6_shot 58 = .ok (.goto 24, 3) := by decide +kernel
theorem dX6_shot_61 : decode cX6_shot 61 = .ok (.aload_n 0, 1) := by decide +kernel
theorem dX6_shot_62 : decode cX6_shot 62 = .ok (.getfield 25, 3) := by decide +kernel
theorem dX6_shot_65 : decode cX6_shot 65 = .ok (.sipush 1015, 3) := by decide +kernel
theorem dX6_shot_68 : decode cX6_shot 68 = .ok (.iaload, 1) := by decide +kernel
theorem dX6_shot_69 : decode cX6_shot 69 = .ok (.ifCond .ne 8, 3) := by decide +kernel
theorem dX6_shot_72 : decode cX6_shot 72 = .ok (.bipush (-4), 2) := by decide +kernel
theorem dX6_shot_74 : decode cX6_shot 74 = .ok (.goto 8, 3) := by decide +kernel
theorem dX6_shot_77 : decode cX6_shot 77 = .ok (.aload_n 0, 1) := by decide +kernel
theorem dX6_shot_78 : decode cX6_shot 78 = .ok (.iload_n 1, 1) := by decide +kernel
theorem dX6_shot_79 : decode cX6_shot 79 = .ok (.invokevirtual 195, 3) := by decide +kernel
theorem dX6_shot_82 : decode cX6_shot 82 = .ok (.ireturn, 1) := by decide +kernel
set_option maxRecDepth 20000 in
theorem ggX6_curve_X6_isShot : GoodIn wsX6_curve wsX6_isShot := goodIn_r _ [6, 1, 7, 8, 5, 9, 10, 11, 12, 13, 14, 15, 16, 17, 18, 19, 20, 21, 22, 23, 24, 25, 26, 27, 28, 29, 30, 31, 32] (by decide +kernel) (by decide +kernel)
set_option maxRecDepth 20000 in
theorem gX6_curve_X6_isShot : GoodIn wsX6_curve (wsV RX6 186 RX6 yX6_isShot wsX6_isShot) := goodIn_app (goodIn_of _ (by decide +kernel)) ggX6_curve_X6_isShot
set_option maxRecDepth 20000 in
theorem ggX6_curve_X6_isIn : GoodIn wsX6_curve wsX6_isIn := goodIn_r _ [9] (by decide +kernel) (by decide +kernel)
set_option maxRecDepth 20000 in
theorem gX6_curve_X6_isIn : GoodIn wsX6_curve (va_wsS RX6 95 yX6_isIn wsX6_isIn) := goodIn_app (goodIn_of _ (by decide +kernel)) ggX6_curve_X6_isIn
theorem dX6_curve_0 : decode cX6_curve 0 = .ok (.aload_n 0, 1) := by decide +kernel
theorem dX6_curve_1 : decode cX6_curve 1 = .ok (.iload_n 1, 1) := by decide +kernel
theorem dX6_curve_2 : decode cX6_curve 2 = .ok (.invokevirtual 186, 3) := by decide +kernel
theorem dX6_curve_5 : decode cX6_curve 5 = .ok (.ifCond .eq 13, 3) := by decide +kernel
theorem dX6_curve_8 : decode cX6_curve 8 = .ok (.iload_n 2, 1) := by decide +kernel
theorem dX6_curve_9 : decode cX6_curve 9 = .ok (.iconst 1, 1) := by decide +kernel
theorem dX6_curve_10 : decode cX6_curve 10 = .ok (.bipush 60, 2) := by decide +kernel
theorem dX6_curve_12 : decode cX6_curve 12 = .ok (.invokestatic 95, 3) := by decide +kernel
theorem dX6_curve_15 : decode cX6_curve 15 = .ok (.ifCond .ne 5, 3) := by decide +kernel
theorem dX6_curve_18 : decode cX6_curve 18 = .ok (.iconst (-1), 1) := by decide +kernel
theorem dX6_curve_19 : decode cX6_curve 19 = .ok (.ireturn, 1) := by decide +kernel
theorem dX6_curve_20 : decode cX6_curve 20 = .ok (.iload_n 2, 1) := by decide +kernel
theorem dX6_curve_21 : decode cX6_curve 21 = .ok (.aload_n 0, 1) := by decide +kernel
theorem dX6_curve_22 : decode cX6_curve 22 = .ok (.getfield 25, 3) := by decide +kernel
theorem dX6_curve_25 : decode cX6_curve 25 = .ok (.bipush 84, 2) := by decide +kernel
theorem dX6_curve_27 : decode cX6_curve 27 = .ok (.iload_n 1, 1) := by decide +kernel
theorem dX6_curve_28 : decode cX6_curve 28 = .ok (.imul, 1) := by decide +kernel
theorem dX6_curve_29 : decode cX6_curve 29 = .ok (.iconst 1, 1) := by decide +kernel
theorem dX6_curve_30 : decode cX6_curve 30 = .ok (.iadd, 1) := by decide +kernel
theorem dX6_curve_31 : decode cX6_curve 31 = .ok (.iaload, 1) := by decide +kernel
theorem dX6_curve_32 : decode cX6_curve 32 = .ok (.if_icmp .gt 22, 3) := by decide +kernel
theorem dX6_curve_35 : decode cX6_curve 35 = .ok (.aload_n 0, 1) := by decide +kernel
theorem dX6_curve_36 : decode cX6_curve 36 = .ok (.getfield 25, 3) := by decide +kernel
theorem dX6_curve_39 : decode cX6_curve 39 = .ok (.bipush 84, 2) := by decide +kernel
theorem dX6_curve_41 : decode cX6_curve 41 = .ok (.iload_n 1, 1) := by decide +kernel
theorem dX6_curve_42 : decode cX6_curve 42 = .ok (.imul, 1) := by decide +kernel
theorem dX6_curve_43 : decode cX6_curve 43 = .ok (.bipush 6, 2) := by decide +kernel
theorem dX6_curve_45 : decode cX6_curve 45 = .ok (.iadd, 1) := by decide +kernel
theorem dX6_curve_46 : decode cX6_curve 46 = .ok (.iload_n 2, 1) := by decide +kernel
theorem dX6_curve_47 : decode cX6_curve 47 = .ok (.iadd, 1) := by decide +kernel
theorem dX6_curve_48 : decode cX6_curve 48 = .ok (.iconst 1, 1) := by decide +kernel
theorem dX6_curve_49 : decode cX6_curve 49 = .ok (.isub, 1) := by decide +kernel
theorem dX6_curve_50 : decode cX6_curve 50 = .ok (.iaload, 1) := by decide +kernel
theorem dX6_curve_51 : decode cX6_curve 51 = .ok (.goto 5, 3) := by decide +kernel
theorem dX6_curve_54 : decode cX6_curve 54 = .ok (.bipush (-4), 2) := by decide +kernel
theorem dX6_curve_56 : decode cX6_curve 56 = .ok (.ireturn, 1) := by decide +kernel
set_option maxRecDepth 20000 in
theorem ggX6_cavity_X6_isCavity : GoodIn wsX6_cavity wsX6_isCavity := goodIn_r _ [8, 9, 10, 11, 7, 12, 13, 14, 15, 16, 17, 18, 19, 20, 21, 22, 23, 24, 25, 26, 27, 28, 29, 30, 31, 32, 33, 34, 35] (by decide +kernel) (by decide +kernel)
set_option maxRecDepth 20000 in
theorem gX6_cavity_X6_isCavity : GoodIn wsX6_cavity (wsV RX6 171 RX6 yX6_isCavity wsX6_isCavity) := goodIn_app (goodIn_of _ (by decide +kernel)) ggX6_cavity_X6_isCavity
set_option maxRecDepth 20000 in
theorem ggX6_cavity_X6_isIn : GoodIn wsX6_cavity wsX6_isIn := goodIn_r _ [12] (by decide +kernel) (by decide +kernel)
set_option maxRecDepth 20000 in
theorem gX6_cavity_X6_isIn : GoodIn wsX6_cavity (va_wsS RX6 95 yX6_isIn wsX6_isIn) := goodIn_app (goodIn_of _ (by decide +kernel)) ggX6_cavity_X6_isIn
theorem dX6_cavity_0 : decode cX6_cavity 0 = .ok (.aload_n 0, 1) := by decide +kernel
theorem dX6_cavity_1 : decode cX6_cavity 1 = .ok (.iload_n 1, 1) := by decide +kernel
theorem dX6_cavity_2 : decode cX6_cavity 2 = .ok (.invokevirtual 171, 3) := by decide +kernel
theorem dX6_cavity_5 : decode cX6_cavity 5 = .ok (.ifCond .eq 12, 3) := by decide +kernel
theorem dX6_cavity_8 : decode cX6_cavity 8 = .ok (.iload_n 2, 1) := by decide +kernel
theorem dX6_cavity_9 : decode cX6_cavity 9 = .ok (.iconst 0, 1) := by decide +kernel
theorem dX6_cavity_10 : decode cX6_cavity 10 = .ok (.iconst 2, 1) := by decide +kernel
theorem dX6_cavity_11 : decode cX6_cavity 11 = .ok (.invokestatic 95, 3) := by decide +kernel
theorem dX6_cavity_14 : decode cX6_cavity 14 = .ok (.ifCond .ne 5, 3) := by decide +kernel
theorem dX6_cavity_17 : decode cX6_cavity 17 = .ok (.iconst (-1), 1) := by decide +kernel
theorem dX6_cavity_18 : decode cX6_cavity 18 = .ok (.ireturn, 1) := by decide +kernel
theorem dX6_cavity_19 : decode cX6_cavity 19 = .ok (.iload_n 2, 1) := by decide +kernel
theorem dX6_cavity_20 : decode cX6_cavity 20 = .ok (.ifCond .ne 12, 3) := by decide +kernel
theorem dX6_cavity_23 : decode cX6_cavity 23 = .ok (.aload_n 0, 1) := by decide +kernel
theorem dX6_cavity_24 : decode cX6_cavity 24 = .ok (.getfield 13, 3) := by decide +kernel
theorem dX6_cavity_27 : decode cX6_cavity 27 = .ok (.iload_n 1, 1) := by decide +kernel
theorem dX6_cavity_28 : decode cX6_cavity 28 = .ok (.iaload, 1) := by decide +kernel
theorem dX6_cavity_29 : decode cX6_cavity 29 = .ok (.goto 27, 3) := by decide +kernel
theorem dX6_cavity_32 : decode cX6_cavity 32 = .ok (.iload_n 2, 1) := by decide +kernel
theorem dX6_cavity_33 : decode cX6_cavity 33 = .ok (.iconst 1, 1) := by decide +kernel
theorem dX6_cavity_34 : decode cX6_cavity 34 = .ok (.if_icmp .ne 16, 3) := by decide +kernel
theorem dX6_cavity_37 : decode cX6_cavity 37 = .ok (.aload_n 0, 1) := by decide +kernel
theorem dX6_cavity_38 : decode cX6_cavity 38 = .ok (.getfield 25, 3) := by decide +kernel
theorem dX6_cavity_41 : decode cX6_cavity 41 = .ok (.sipush 1139, 3) := by decide +kernel
theorem dX6_cavity_44 : decode cX6_cavity 44 = .ok (.iload_n 1, 1) := by decide +kernel
theorem dX6_cavity_45 : decode cX6_cavity 45 = .ok (.iadd, 1) := by decide +kernel
theorem dX6_cavity_46 : decode cX6_cavity 46 = .ok (.iaload, 1) := by decide +kernel
theorem dX6_cavity_47 : decode cX6_cavity 47 = .ok (.goto 9, 3) := by decide +kernel
theorem dX6_cavity_50 : decode cX6_cavity 50 = .ok (.aload_n 0, 1) := by decide +kernel
theorem dX6_cavity_51 : decode cX6_cavity 51 = .ok (.getfield 16, 3) := by decide +kernel
theorem dX6_cavity_54 : decode cX6_cavity 54 = .ok (.iload_n 1, 1) := by decide +kernel
theorem dX6_cavity_55 : decode cX6_cavity 55 = .ok (.iaload, 1) := by decide +kernel
theorem dX6_cavity_56 : decode cX6_cavity 56 = .ok (.ireturn, 1) := by decide +kernel
set_option maxRecDepth 20000 in
theorem ggX6_filled_X6_isShot : GoodIn wsX6_filled wsX6_isShot := goodIn_r _ [6, 1, 7, 8, 5, 9, 24, 25, 26, 27, 28, 29, 30, 31, 32, 33, 34, 35, 36, 37, 38, 39, 40, 41, 42, 43, 44, 45, 46] (by decide +kernel) (by decide +kernel)
set_option maxRecDepth 20000 in
theorem gX6_filled_X6_isShot : GoodIn wsX6_filled (wsV RX6 186 RX6 yX6_isShot wsX6_isShot) := goodIn_app (goodIn_of _ (by decide +kernel)) ggX6_filled_X6_isShot
set_option maxRecDepth 20000 in
theorem ggX6_filled_X6_isCavity : GoodIn wsX6_filled wsX6_isCavity := goodIn_r _ [13, 14, 7, 8, 5, 9, 24, 25, 26, 27, 28, 29, 30, 31, 32, 33, 34, 35, 36, 37, 38, 39, 40, 41, 42, 43, 44, 45, 46] (by decide +kernel) (by decide +kernel)
set_option maxRecDepth 20000 in
theorem gX6_filled_X6_isCavity : GoodIn wsX6_filled (wsV RX6 171 RX6 yX6_isCavity wsX6_isCavity) := goodIn_app (goodIn_of _ (by decide +kernel)) ggX6_filled_X6_isCavity
set_option maxRecDepth 20000 in
theorem ggX6_filled_X6_isIn : GoodIn wsX6_filled wsX6_isIn := goodIn_r _ [9] (by decide +kernel) (by decide +kernel)
set_option maxRecDepth 20000 in
theorem gX6_filled_X6_isIn : GoodIn wsX6_filled (va_wsS RX6 95 yX6_isIn wsX6_isIn) := goodIn_app (goodIn_of _ (by decide +kernel)) ggX6_filled_X6_isIn
set_option maxRecDepth 20000 in
theorem ggX6_filled_X6_shortBy : GoodIn wsX6_filled wsX6_shortBy := goodIn_r _ [18, 19, 1, 24, 25, 26, 27, 28, 29, 30, 31, 32, 33, 34, 35, 36, 37, 38, 39, 40, 41, 42, 43, 44, 45, 46] (by decide +kernel) (by decide +kernel)
set_option maxRecDepth 20000 in
theorem gX6_filled_X6_shortBy : GoodIn wsX6_filled (wsV RX6 183 RX6 yX6_shortBy wsX6_shortBy) := goodIn_app (goodIn_of _ (by decide +kernel)) ggX6_filled_X6_shortBy
set_option maxRecDepth 20000 in
theorem ggX6_filled_X6_overBy : GoodIn wsX6_filled wsX6_overBy := goodIn_r _ [23, 1, 19, 24, 25, 26, 27, 28, 29, 30, 31, 32, 33, 34, 35, 36, 37, 38, 39, 40, 41, 42, 43, 44, 45, 46] (by decide +kernel) (by decide +kernel)
set_option maxRecDepth 20000 in
theorem gX6_filled_X6_overBy : GoodIn wsX6_filled (wsV RX6 192 RX6 yX6_overBy wsX6_overBy) := goodIn_app (goodIn_of _ (by decide +kernel)) ggX6_filled_X6_overBy
theorem dX6_filled_0 : decode cX6_filled 0 = .ok (.aload_n 0, 1) := by decide +kernel
theorem dX6_filled_1 : decode cX6_filled 1 = .ok (.iload_n 1, 1) := by decide +kernel
theorem dX6_filled_2 : decode cX6_filled 2 = .ok (.invokevirtual 186, 3) := by decide +kernel
theorem dX6_filled_5 : decode cX6_filled 5 = .ok (.ifCond .eq 20, 3) := by decide +kernel
theorem dX6_filled_8 : decode cX6_filled 8 = .ok (.aload_n 0, 1) := by decide +kernel
theorem dX6_filled_9 : decode cX6_filled 9 = .ok (.iload_n 2, 1) := by decide +kernel
theorem dX6_filled_10 : decode cX6_filled 10 = .ok (.invokevirtual 171, 3) := by decide +kernel
theorem dX6_filled_13 : decode cX6_filled 13 = .ok (.ifCond .eq 12, 3) := by decide +kernel
theorem dX6_filled_16 : decode cX6_filled 16 = .ok (.iload_n 3, 1) := by decide +kernel
theorem dX6_filled_17 : decode cX6_filled 17 = .ok (.iconst 0, 1) := by decide +kernel
theorem dX6_filled_18 : decode cX6_filled 18 = .ok (.iconst 4, 1) := by decide +kernel
theorem dX6_filled_19 : decode cX6_filled 19 = .ok (.invokestatic 95, 3) := by decide +kernel
theorem dX6_filled_22 : decode cX6_filled 22 = .ok (.ifCond .ne 5, 3) := by decide +kernel
theorem dX6_filled_25 : decode cX6_filled 25 = .ok (.iconst (-1), 1) := by decide +kernel
theorem dX6_filled_26 : decode cX6_filled 26 = .ok (.ireturn, 1) := by decide +kernel
theorem dX6_filled_27 : decode cX6_filled 27 = .ok (.iload_n 3, 1) := by decide +kernel
theorem dX6_filled_28 : decode cX6_filled 28 = .ok (.tableswitch 76 0 3 #[32, 47, 54, 61], 32) := by decide +kernel
theorem dX6_filled_60 : decode cX6_filled 60 = .ok (.aload_n 0, 1) := by decide +kernel
theorem dX6_filled_61 : decode cX6_filled 61 = .ok (.getfield 25, 3) := by decide +kernel
theorem dX6_filled_64 : decode cX6_filled 64 = .ok (.bipush 84, 2) := by decide +kernel
theorem dX6_filled_66 : decode cX6_filled 66 = .ok (.iload_n 1, 1) := by decide +kernel
theorem dX6_filled_67 : decode cX6_filled 67 = .ok (.imul, 1) := by decide +kernel
theorem dX6_filled_68 : decode cX6_filled 68 = .ok (.bipush 66, 2) := by decide +kernel
theorem dX6_filled_70 : decode cX6_filled 70 = .ok (.iadd, 1) := by decide +kernel
theorem dX6_filled_71 : decode cX6_filled 71 = .ok (.iload_n 2, 1) := by decide +kernel
theorem dX6_filled_72 : decode cX6_filled 72 = .ok (.iadd, 1) := by decide +kernel
theorem dX6_filled_73 : decode cX6_filled 73 = .ok (.iaload, 1) := by decide +kernel
theorem dX6_filled_74 : decode cX6_filled 74 = .ok (.ireturn, 1) := by decide +kernel
theorem dX6_filled_75 : decode cX6_filled 75 = .ok (.aload_n 0, 1) := by decide +kernel
theorem dX6_filled_76 : decode cX6_filled 76 = .ok (.iload_n 1, 1) := by decide +kernel
theorem dX6_filled_77 : decode cX6_filled 77 = .ok (.iload_n 2, 1) := by decide +kernel
theorem dX6_filled_78 : decode cX6_filled 78 = .ok (.invokevirtual 183, 3) := by decide +kernel
theorem dX6_filled_81 : decode cX6_filled 81 = .ok (.ireturn, 1) := by decide +kernel
theorem dX6_filled_82 : decode cX6_filled 82 = .ok (.aload_n 0, 1) := by decide +kernel
theorem dX6_filled_83 : decode cX6_filled 83 = .ok (.iload_n 1, 1) := by decide +kernel
theorem dX6_filled_84 : decode cX6_filled 84 = .ok (.iload_n 2, 1) := by decide +kernel
theorem dX6_filled_85 : decode cX6_filled 85 = .ok (.invokevirtual 192, 3) := by decide +kernel
theorem dX6_filled_88 : decode cX6_filled 88 = .ok (.ireturn, 1) := by decide +kernel
theorem dX6_filled_89 : decode cX6_filled 89 = .ok (.aload_n 0, 1) := by decide +kernel
theorem dX6_filled_90 : decode cX6_filled 90 = .ok (.getfield 25, 3) := by decide +kernel
theorem dX6_filled_93 : decode cX6_filled 93 = .ok (.bipush 84, 2) := by decide +kernel
theorem dX6_filled_95 : decode cX6_filled 95 = .ok (.iload_n 1, 1) := by decide +kernel
theorem dX6_filled_96 : decode cX6_filled 96 = .ok (.imul, 1) := by decide +kernel
theorem dX6_filled_97 : decode cX6_filled 97 = .ok (.bipush 72, 2) := by decide +kernel
theorem dX6_filled_99 : decode cX6_filled 99 = .ok (.iadd, 1) := by decide +kernel
theorem dX6_filled_100 : decode cX6_filled 100 = .ok (.iload_n 2, 1) := by decide +kernel
theorem dX6_filled_101 : decode cX6_filled 101 = .ok (.iadd, 1) := by decide +kernel
theorem dX6_filled_102 : decode cX6_filled 102 = .ok (.iaload, 1) := by decide +kernel
theorem dX6_filled_103 : decode cX6_filled 103 = .ok (.ireturn, 1) := by decide +kernel
theorem dX6_filled_104 : decode cX6_filled 104 = .ok (.aload_n 0, 1) := by decide +kernel
theorem dX6_filled_105 : decode cX6_filled 105 = .ok (.getfield 25, 3) := by decide +kernel
theorem dX6_filled_108 : decode cX6_filled 108 = .ok (.bipush 84, 2) := by decide +kernel
theorem dX6_filled_110 : decode cX6_filled 110 = .ok (.iload_n 1, 1) := by decide +kernel
theorem dX6_filled_111 : decode cX6_filled 111 = .ok (.imul, 1) := by decide +kernel
theorem dX6_filled_112 : decode cX6_filled 112 = .ok (.bipush 78, 2) := by decide +kernel
theorem dX6_filled_114 : decode cX6_filled 114 = .ok (.iadd, 1) := by decide +kernel
theorem dX6_filled_115 : decode cX6_filled 115 = .ok (.iload_n 2, 1) := by decide +kernel
theorem dX6_filled_116 : decode cX6_filled 116 = .ok (.iadd, 1) := by decide +kernel
theorem dX6_filled_117 : decode cX6_filled 117 = .ok (.iaload, 1) := by decide +kernel
theorem dX6_filled_118 : decode cX6_filled 118 = .ok (.ireturn, 1) := by decide +kernel
set_option maxRecDepth 20000 in
theorem ggX6_tried_X6_isIn : GoodIn wsX6_tried wsX6_isIn := goodIn_r _ [5] (by decide +kernel) (by decide +kernel)
set_option maxRecDepth 20000 in
theorem gX6_tried_X6_isIn : GoodIn wsX6_tried (va_wsS RX6 95 yX6_isIn wsX6_isIn) := goodIn_app (goodIn_of _ (by decide +kernel)) ggX6_tried_X6_isIn
set_option maxRecDepth 20000 in
theorem ggX6_tried_X6_tries : GoodIn wsX6_tried wsX6_tries := goodIn_r _ [9, 1, 10, 11, 12, 13, 14, 15, 4, 16, 17, 18, 19, 20, 21, 22, 23, 24, 25, 26, 27, 28, 29, 30, 31, 32, 33, 34, 35, 36, 37, 38, 39, 40, 44, 45, 46, 47, 48, 49, 50, 51, 52, 53, 54, 55, 56, 57, 58, 59, 60, 61, 62, 63, 64, 65, 66] (by decide +kernel) (by decide +kernel)
set_option maxRecDepth 20000 in
theorem gX6_tried_X6_tries : GoodIn wsX6_tried (wsV RX6 180 RX6 yX6_tries wsX6_tries) := goodIn_app (goodIn_of _ (by decide +kernel)) ggX6_tried_X6_tries
set_option maxRecDepth 20000 in
theorem ggX6_tried_X6_told : GoodIn wsX6_tried wsX6_told := goodIn_r _ [43] (by decide +kernel) (by decide +kernel)
set_option maxRecDepth 20000 in
theorem gX6_tried_X6_told : GoodIn wsX6_tried (va_wsS RX6 198 yX6_told wsX6_told) := goodIn_app (goodIn_of _ (by decide +kernel)) ggX6_tried_X6_told
theorem dX6_tried_0 : decode cX6_tried 0 = .ok (.iload_n 1, 1) := by decide +kernel
theorem dX6_tried_1 : decode cX6_tried 1 = .ok (.bipush (-8), 2) := by decide +kernel
theorem dX6_tried_3 : decode cX6_tried 3 = .ok (.bipush 8, 2) := by decide +kernel
theorem dX6_tried_5 : decode cX6_tried 5 = .ok (.invokestatic 95, 3) := by decide +kernel
theorem dX6_tried_8 : decode cX6_tried 8 = .ok (.ifCond .eq 13, 3) := by decide +kernel
theorem dX6_tried_11 : decode cX6_tried 11 = .ok (.iload_n 2, 1) := by decide +kernel
theorem dX6_tried_12 : decode cX6_tried 12 = .ok (.iconst 0, 1) := by decide +kernel
theorem dX6_tried_13 : decode cX6_tried 13 = .ok (.bipush 6, 2) := by decide +kernel
theorem dX6_tried_15 : decode cX6_tried 15 = .ok (.invokestatic 95, 3) := by decide +kernel
theorem dX6_tried_18 : decode cX6_tried 18 = .ok (.ifCond .ne 5, 3) := by decide +kernel
theorem dX6_tried_21 : decode cX6_tried 21 = .ok (.iconst (-1), 1) := by decide +kernel
theorem dX6_tried_22 : decode cX6_tried 22 = .ok (.ireturn, 1) := by decide +kernel
theorem dX6_tried_23 : decode cX6_tried 23 = .ok (.aload_n 0, 1) := by decide +kernel
theorem dX6_tried_24 : decode cX6_tried 24 = .ok (.iload_n 1, 1) := by decide +kernel
theorem dX6_tried_25 : decode cX6_tried 25 = .ok (.invokevirtual 180, 3) := by decide +kernel
theorem dX6_tried_28 : decode cX6_tried 28 = .ok (.aload_n 0, 1) := by decide +kernel
theorem dX6_tried_29 : decode cX6_tried 29 = .ok (.getfield 31, 3) := by decide +kernel
theorem dX6_tried_32 : decode cX6_tried 32 = .ok (.iconst 0, 1) := by decide +kernel
theorem dX6_tried_33 : decode cX6_tried 33 = .ok (.iload_n 2, 1) := by decide +kernel
theorem dX6_tried_34 : decode cX6_tried 34 = .ok (.invokestatic 198, 3) := by decide +kernel
theorem dX6_tried_37 : decode cX6_tried 37 = .ok (.ireturn, 1) := by decide +kernel
set_option maxRecDepth 20000 in
theorem ggX6_even_X6_isIn : GoodIn wsX6_even wsX6_isIn := goodIn_r _ [5] (by decide +kernel) (by decide +kernel)
set_option maxRecDepth 20000 in
theorem gX6_even_X6_isIn : GoodIn wsX6_even (va_wsS RX6 95 yX6_isIn wsX6_isIn) := goodIn_app (goodIn_of _ (by decide +kernel)) ggX6_even_X6_isIn
set_option maxRecDepth 20000 in
theorem ggX6_even_X6_tries : GoodIn wsX6_even wsX6_tries := goodIn_r _ [9, 1, 10, 11, 12, 13, 14, 15, 4, 16, 17, 18, 19, 20, 21, 22, 23, 24, 25, 26, 27, 28, 29, 30, 31, 32, 33, 34, 35, 36, 37, 38, 39, 40, 41, 42, 43, 44, 45, 46, 47, 48, 49, 50, 51, 52, 53, 54, 55, 56, 57, 58, 59, 60, 61, 62, 63] (by decide +kernel) (by decide +kernel)
set_option maxRecDepth 20000 in
theorem gX6_even_X6_tries : GoodIn wsX6_even (wsV RX6 180 RX6 yX6_tries wsX6_tries) := goodIn_app (goodIn_of _ (by decide +kernel)) ggX6_even_X6_tries
theorem dX6_even_0 : decode cX6_even 0 = .ok (.iload_n 1, 1) := by decide +kernel
theorem dX6_even_1 : decode cX6_even 1 = .ok (.iconst 0, 1) := by decide +kernel
theorem dX6_even_2 : decode cX6_even 2 = .ok (.iconst 1, 1) := by decide +kernel
theorem dX6_even_3 : decode cX6_even 3 = .ok (.invokestatic 95, 3) := by decide +kernel
theorem dX6_even_6 : decode cX6_even 6 = .ok (.ifCond .ne 5, 3) := by decide +kernel
theorem dX6_even_9 : decode cX6_even 9 = .ok (.iconst (-1), 1) := by decide +kernel
theorem dX6_even_10 : decode cX6_even 10 = .ok (.ireturn, 1) := by decide +kernel
theorem dX6_even_11 : decode cX6_even 11 = .ok (.iconst 0, 1) := by decide +kernel
theorem dX6_even_12 : decode cX6_even 12 = .ok (.istore_n 2, 1) := by decide +kernel
theorem dX6_even_13 : decode cX6_even 13 = .ok (.iconst (-1), 1) := by decide +kernel
theorem dX6_even_14 : decode cX6_even 14 = .ok (.istore_n 3, 1) := by decide +kernel
theorem dX6_even_15 : decode cX6_even 15 = .ok (.iconst 0, 1) := by decide +kernel
theorem dX6_even_16 : decode cX6_even 16 = .ok (.istore 4, 2) := by decide +kernel
theorem dX6_even_18 : decode cX6_even 18 = .ok (.iload 4, 2) := by decide +kernel
theorem dX6_even_20 : decode cX6_even 20 = .ok (.bipush 8, 2) := by decide +kernel
theorem dX6_even_22 : decode cX6_even 22 = .ok (.if_icmp .gt 60, 3) := by decide +kernel
theorem dX6_even_25 : decode cX6_even 25 = .ok (.iconst (-1), 1) := by decide +kernel
theorem dX6_even_26 : decode cX6_even 26 = .ok (.istore 5, 2) := by decide +kernel
theorem dX6_even_28 : decode cX6_even 28 = .ok (.iload 5, 2) := by decide +kernel
theorem dX6_even_30 : decode cX6_even 30 = .ok (.iconst 2, 1) := by decide +kernel
theorem dX6_even_31 : decode cX6_even 31 = .ok (.if_icmp .ge 45, 3) := by decide +kernel
theorem dX6_even_34 : decode cX6_even 34 = .ok (.aload_n 0, 1) := by decide +kernel
theorem dX6_even_35 : decode cX6_even 35 = .ok (.iload 5, 2) := by decide +kernel
theorem dX6_even_37 : decode cX6_even 37 = .ok (.iload 4, 2) := by decide +kernel
theorem dX6_even_39 : decode cX6_even 39 = .ok (.imul, 1) := by decide +kernel
theorem dX6_even_40 : decode cX6_even 40 = .ok (.invokevirtual 180, 3) := by decide +kernel
theorem dX6_even_43 : decode cX6_even 43 = .ok (.iload_n 3, 1) := by decide +kernel
theorem dX6_even_44 : decode cX6_even 44 = .ok (.ifCond .lt 13, 3) := by decide +kernel
theorem dX6_even_47 : decode cX6_even 47 = .ok (.aload_n 0, 1) := by decide +kernel
theorem dX6_even_48 : decode cX6_even 48 = .ok (.getfield 31, 3) := by decide +kernel
theorem dX6_even_51 : decode cX6_even 51 = .ok (.iconst 4, 1) := by decide +kernel
theorem dX6_even_52 : decode cX6_even 52 = .ok (.iaload, 1) := by decide +kernel
theorem dX6_even_53 : decode cX6_even 53 = .ok (.iload_n 3, 1) := by decide +kernel
theorem dX6_even_54 : decode cX6_even 54 = .ok (.if_icmp .ge 16, 3) := by decide +kernel
theorem dX6_even_57 : decode cX6_even 57 = .ok (.aload_n 0, 1) := by decide +kernel
theorem dX6_even_58 : decode cX6_even 58 = .ok (.getfield 31, 3) := by decide +kernel
theorem dX6_even_61 : decode cX6_even 61 = .ok (.iconst 4, 1) := by decide +kernel
theorem dX6_even_62 : decode cX6_even 62 = .ok (.iaload, 1) := by decide +kernel
theorem dX6_even_63 : decode cX6_even 63 = .ok (.istore_n 3, 1) := by decide +kernel
theorem dX6_even_64 : decode cX6_even 64 = .ok (.iload 5, 2) := by decide +kernel
theorem dX6_even_66 : decode cX6_even 66 = .ok (.iload 4, 2) := by decide +kernel
theorem dX6_even_68 : decode cX6_even 68 = .ok (.imul, 1) := by decide +kernel
theorem dX6_even_69 : decode cX6_even 69 = .ok (.istore_n 2, 1) := by decide +kernel
theorem dX6_even_70 : decode cX6_even 70 = .ok (.iinc 5 2, 3) := by decide +kernel
theorem dX6_even_73 : decode cX6_even 73 = .ok (.goto (-45), 3) := by decide +kernel
theorem dX6_even_76 : decode cX6_even 76 = .ok (.iinc 4 1, 3) := by decide +kernel
theorem dX6_even_79 : decode cX6_even 79 = .ok (.goto (-61), 3) := by decide +kernel
theorem dX6_even_82 : decode cX6_even 82 = .ok (.iload_n 1, 1) := by decide +kernel
theorem dX6_even_83 : decode cX6_even 83 = .ok (.ifCond .ne 10, 3) := by decide +kernel
theorem dX6_even_86 : decode cX6_even 86 = .ok (.iload_n 2, 1) := by decide +kernel
theorem dX6_even_87 : decode cX6_even 87 = .ok (.bipush 8, 2) := by decide +kernel
theorem dX6_even_89 : decode cX6_even 89 = .ok (.iadd, 1) := by decide +kernel
theorem dX6_even_90 : decode cX6_even 90 = .ok (.goto 4, 3) := by decide +kernel
theorem dX6_even_93 : decode cX6_even 93 = .ok (.iload_n 3, 1) := by decide +kernel
theorem dX6_even_94 : decode cX6_even 94 = .ok (.ireturn, 1) := by decide +kernel
set_option maxRecDepth 20000 in
theorem ggX6_earlier_X6_isCore : GoodIn wsX6_earlier wsX6_isCore := goodIn_r _ [6, 7, 8, 9, 5, 10, 11, 12, 13, 14, 15, 16, 17, 18, 19, 20, 21, 22, 23, 24, 25, 26, 27, 28, 29, 30, 31, 32, 33] (by decide +kernel) (by decide +kernel)
set_option maxRecDepth 20000 in
theorem gX6_earlier_X6_isCore : GoodIn wsX6_earlier (wsV RX6 162 RX6 yX6_isCore wsX6_isCore) := goodIn_app (goodIn_of _ (by decide +kernel)) ggX6_earlier_X6_isCore
theorem dX6_earlier_0 : decode cX6_earlier 0 = .ok (.aload_n 0, 1) := by decide +kernel
theorem dX6_earlier_1 : decode cX6_earlier 1 = .ok (.iload_n 1, 1) := by decide +kernel
theorem dX6_earlier_2 : decode cX6_earlier 2 = .ok (.invokevirtual 162, 3) := by decide +kernel
theorem dX6_earlier_5 : decode cX6_earlier 5 = .ok (.ifCond .eq 12, 3) := by decide +kernel
theorem dX6_earlier_8 : decode cX6_earlier 8 = .ok (.aload_n 0, 1) := by decide +kernel
theorem dX6_earlier_9 : decode cX6_earlier 9 = .ok (.getfield 19, 3) := by decide +kernel
theorem dX6_earlier_12 : decode cX6_earlier 12 = .ok (.iload_n 1, 1) := by decide +kernel
theorem dX6_earlier_13 : decode cX6_earlier 13 = .ok (.iaload, 1) := by decide +kernel
theorem dX6_earlier_14 : decode cX6_earlier 14 = .ok (.goto 4, 3) := by decide +kernel
theorem dX6_earlier_17 : decode cX6_earlier 17 = .ok (.iconst (-1), 1) := by decide +kernel
theorem dX6_earlier_18 : decode cX6_earlier 18 = .ok (.ireturn, 1) := by decide +kernel
theorem dX6_order_0 : decode cX6_order 0 = .ok (.iload_n 1, 1) := by decide +kernel
theorem dX6_order_1 : decode cX6_order 1 = .ok (.ifCond .ge 5, 3) := by decide +kernel
theorem dX6_order_4 : decode cX6_order 4 = .ok (.iconst (-1), 1) := by decide +kernel
theorem dX6_order_5 : decode cX6_order 5 = .ok (.ireturn, 1) := by decide +kernel
theorem dX6_order_6 : decode cX6_order 6 = .ok (.iload_n 1, 1) := by decide +kernel
theorem dX6_order_7 : decode cX6_order 7 = .ok (.aload_n 0, 1) := by decide +kernel
theorem dX6_order_8 : decode cX6_order 8 = .ok (.getfield 73, 3) := by decide +kernel
theorem dX6_order_11 : decode cX6_order 11 = .ok (.if_icmp .lt 6, 3) := by decide +kernel
theorem dX6_order_14 : decode cX6_order 14 = .ok (.bipush (-4), 2) := by decide +kernel
theorem dX6_order_16 : decode cX6_order 16 = .ok (.ireturn, 1) := by decide +kernel
theorem dX6_order_17 : decode cX6_order 17 = .ok (.iconst 0, 1) := by decide +kernel
theorem dX6_order_18 : decode cX6_order 18 = .ok (.istore_n 2, 1) := by decide +kernel
theorem dX6_order_19 : decode cX6_order 19 = .ok (.bipush (-4), 2) := by decide +kernel
theorem dX6_order_21 : decode cX6_order 21 = .ok (.istore_n 3, 1) := by decide +kernel
theorem dX6_order_22 : decode cX6_order 22 = .ok (.iconst 0, 1) := by decide +kernel
theorem dX6_order_23 : decode cX6_order 23 = .ok (.istore 4, 2) := by decide +kernel
theorem dX6_order_25 : decode cX6_order 25 = .ok (.iload 4, 2) := by decide +kernel
theorem dX6_order_27 : decode cX6_order 27 = .ok (.iload_n 1, 1) := by decide +kernel
theorem dX6_order_28 : decode cX6_order 28 = .ok (.if_icmp .gt 64, 3) := by decide +kernel
theorem dX6_order_31 : decode cX6_order 31 = .ok (.iconst 0, 1) := by decide +kernel
theorem dX6_order_32 : decode cX6_order 32 = .ok (.istore 5, 2) := by decide +kernel
theorem dX6_order_34 : decode cX6_order 34 = .ok (.iload_n 2, 1) := by decide +kernel
theorem dX6_order_35 : decode cX6_order 35 = .ok (.iload 5, 2) := by decide +kernel
theorem dX6_order_37 : decode cX6_order 37 = .ok (.ishr, 1) := by decide +kernel
theorem dX6_order_38 : decode cX6_order 38 = .ok (.iconst 1, 1) := by decide +kernel
theorem dX6_order_39 : decode cX6_order 39 = .ok (.iand, 1) := by decide +kernel
theorem dX6_order_40 : decode cX6_order 40 = .ok (.iconst 1, 1) := by decide +kernel
theorem dX6_order_41 : decode cX6_order 41 = .ok (.if_icmp .eq 29, 3) := by decide +kernel
theorem dX6_order_44 : decode cX6_order 44 = .ok (.aload_n 0, 1) := by decide +kernel
theorem dX6_order_45 : decode cX6_order 45 = .ok (.getfield 19, 3) := by decide +kernel
theorem dX6_order_48 : decode cX6_order 48 = .ok (.iload 5, 2) := by decide +kernel
theorem dX6_order_50 : decode cX6_order 50 = .ok (.iaload, 1) := by decide +kernel
theorem dX6_order_51 : decode cX6_order 51 = .ok (.bipush (-4), 2) := by decide +kernel
theorem dX6_order_53 : decode cX6_order 53 = .ok (.if_icmp .eq 23, 3) := by decide +kernel
theorem dX6_order_56 : decode cX6_order 56 = .ok (.iload_n 2, 1) := by decide +kernel
theorem dX6_order_57 : decode cX6_order 57 = .ok (.aload_n 0, 1) := by decide +kernel
theorem dX6_order_58 : decode cX6_order 58 = .ok (.getfield 19, 3) := by decide +kernel
theorem dX6_order_61 : decode cX6_order 61 = .ok (.iload 5, 2) := by decide +kernel
theorem dX6_order_63 : decode cX6_order 63 = .ok (.iaload, 1) := by decide +kernel
theorem dX6_order_64 : decode cX6_order 64 = .ok (.ishr, 1) := by decide +kernel
theorem dX6_order_65 : decode cX6_order 65 = .ok (.iconst 1, 1) := by decide +kernel
theorem dX6_order_66 : decode cX6_order 66 = .ok (.iand, 1) := by decide +kernel
theorem dX6_order_67 : decode cX6_order 67 = .ok (.ifCond .ne 9, 3) := by decide +kernel
theorem dX6_order_70 : decode cX6_order 70 = .ok (.iinc 5 1, 3) := by decide +kernel
theorem dX6_order_73 : decode cX6_order 73 = .ok (.goto (-39), 3) := by decide +kernel
theorem dX6_order_76 : decode cX6_order 76 = .ok (.iload_n 2, 1) := by decide +kernel
theorem dX6_order_77 : decode cX6_order 77 = .ok (.iconst 1, 1) := by decide +kernel
theorem dX6_order_78 : decode cX6_order 78 = .ok (.iload 5, 2) := by decide +kernel
theorem dX6_order_80 : decode cX6_order 80 = .ok (.ishl, 1) := by decide +kernel
theorem dX6_order_81 : decode cX6_order 81 = .ok (.ior, 1) := by decide +kernel
theorem dX6_order_82 : decode cX6_order 82 = .ok (.istore_n 2, 1) := by decide +kernel
theorem dX6_order_83 : decode cX6_order 83 = .ok (.iload 5, 2) := by decide +kernel
theorem dX6_order_85 : decode cX6_order 85 = .ok (.istore_n 3, 1) := by decide +kernel
theorem dX6_order_86 : decode cX6_order 86 = .ok (.iinc 4 1, 3) := by decide +kernel
theorem dX6_order_89 : decode cX6_order 89 = .ok (.goto (-64), 3) := by decide +kernel
theorem dX6_order_92 : decode cX6_order 92 = .ok (.iload_n 3, 1) := by decide +kernel
theorem dX6_order_93 : decode cX6_order 93 = .ok (.ireturn, 1) := by decide +kernel
set_option maxRecDepth 20000 in
theorem ggX6_count_X6_bits : GoodIn wsX6_count wsX6_bits := goodIn_r _ [10] (by decide +kernel) (by decide +kernel)
set_option maxRecDepth 20000 in
theorem gX6_count_X6_bits : GoodIn wsX6_count (va_wsS RX6 168 yX6_bits wsX6_bits) := goodIn_app (goodIn_of _ (by decide +kernel)) ggX6_count_X6_bits
set_option maxRecDepth 20000 in
theorem ggX6_count_X6_isBad : GoodIn wsX6_count wsX6_isBad := goodIn_r _ [14, 1, 4, 15, 16, 17, 9, 18, 19, 20, 21, 22, 23, 24, 25, 26, 27, 32, 33, 34, 35, 36, 37, 38, 39, 40, 41, 42, 43, 44, 45, 46, 47, 48, 49, 50, 51, 52, 53, 54] (by decide +kernel) (by decide +kernel)
set_option maxRecDepth 20000 in
theorem gX6_count_X6_isBad : GoodIn wsX6_count (wsV RX6 202 RX6 yX6_isBad wsX6_isBad) := goodIn_app (goodIn_of _ (by decide +kernel)) ggX6_count_X6_isBad
set_option maxRecDepth 20000 in
theorem ggX6_count_X6_isReady : GoodIn wsX6_count wsX6_isReady := goodIn_r _ [31, 4, 2, 32, 33, 34, 35, 36, 37, 38, 39, 40, 41, 42, 43, 44, 45, 46, 47, 48, 49, 50, 51, 52, 53, 54] (by decide +kernel) (by decide +kernel)
set_option maxRecDepth 20000 in
theorem gX6_count_X6_isReady : GoodIn wsX6_count (wsV RX6 177 RX6 yX6_isReady wsX6_isReady) := goodIn_app (goodIn_of _ (by decide +kernel)) ggX6_count_X6_isReady
theorem dX6_count_0 : decode cX6_count 0 = .ok (.iload_n 1, 1) := by decide +kernel
theorem dX6_count_1 : decode cX6_count 1 = .ok (.tableswitch 228 0 14 #[75, 80, 85, 90, 99, 111, 120, 129, 138, 147, 156, 196, 209, 214, 219], 75) := by decide +kernel
theorem dX6_count_76 : decode cX6_count 76 = .ok (.aload_n 0, 1) := by decide +kernel
theorem dX6_count_77 : decode cX6_count 77 = .ok (.getfield 70, 3) := by decide +kernel
theorem dX6_count_80 : decode cX6_count 80 = .ok (.ireturn, 1) := by decide +kernel
theorem dX6_count_81 : decode cX6_count 81 = .ok (.aload_n 0, 1) := by decide +kernel
theorem dX6_count_82 : decode cX6_count 82 = .ok (.getfield 73, 3) := by decide +kernel
theorem dX6_count_85 : decode cX6_count 85 = .ok (.ireturn, 1) := by decide +kernel
theorem dX6_count_86 : decode cX6_count 86 = .ok (.aload_n 0, 1) := by decide +kernel
theorem dX6_count_87 : decode cX6_count 87 = .ok (.getfield 76, 3) := by decide +kernel
theorem dX6_count_90 : decode cX6_count 90 = .ok (.ireturn, 1) := by decide +kernel
theorem dX6_count_91 : decode cX6_count 91 = .ok (.aload_n 0, 1) := by decide +kernel
theorem dX6_count_92 : decode cX6_count 92 = .ok (.getfield 25, 3) := by decide +kernel
theorem dX6_count_95 : decode cX6_count 95 = .ok (.sipush 1010, 3) := by decide +kernel
theorem dX6_count_98 : decode cX6_count 98 = .ok (.iaload, 1) := by decide +kernel
theorem dX6_count_99 : decode cX6_count 99 = .ok (.ireturn, 1) := by decide +kernel
theorem dX6_count_100 : decode cX6_count 100 = .ok (.aload_n 0, 1) := by decide +kernel
theorem dX6_count_101 : decode cX6_count 101 = .ok (.getfield 25, 3) := by decide +kernel
theorem dX6_count_104 : decode cX6_count 104 = .ok (.sipush 1011, 3) := by decide +kernel
theorem dX6_count_107 : decode cX6_count 107 = .ok (.iaload, 1) := by decide +kernel
theorem dX6_count_108 : decode cX6_count 108 = .ok (.invokestatic 168, 3) := by decide +kernel
theorem dX6_count_111 : decode cX6_count 111 = .ok (.ireturn, 1) := by decide +kernel
theorem dX6_count_112 : decode cX6_count 112 = .ok (.aload_n 0, 1) := by decide +kernel
theorem dX6_count_113 : decode cX6_count 113 = .ok (.getfield 25, 3) := by decide +kernel
theorem dX6_count_116 : decode cX6_count 116 = .ok (.sipush 1012, 3) := by decide +kernel
theorem dX6_count_119 : decode cX6_count 119 = .ok (.iaload, 1) := by decide +kernel
theorem dX6_count_120 : decode cX6_count 120 = .ok (.ireturn, 1) := by decide +kernel
theorem dX6_count_121 : decode cX6_count 121 = .ok (.aload_n 0, 1) := by decide +kernel
theorem dX6_count_122 : decode cX6_count 122 = .ok (.getfield 25, 3) := by decide +kernel
theorem dX6_count_125 : decode cX6_count 125 = .ok (.sipush 1008, 3) := by decide +kernel
theorem dX6_count_128 : decode cX6_count 128 = .ok (.iaload, 1) := by decide +kernel
theorem dX6_count_129 : decode cX6_count 129 = .ok (.ireturn, 1) := by decide +kernel
theorem dX6_count_130 : decode cX6_count 130 = .ok (.aload_n 0, 1) := by decide +kernel
theorem dX6_count_131 : decode cX6_count 131 = .ok (.getfield 25, 3) := by decide +kernel
theorem dX6_count_134 : decode cX6_count 134 = .ok (.sipush 1009, 3) := by decide +kernel
theorem dX6_count_137 : decode cX6_count 137 = .ok (.iaload, 1) := by decide +kernel
theorem dX6_count_138 : decode cX6_count 138 = .ok (.ireturn, 1) := by decide +kernel
theorem dX6_count_139 : decode cX6_count 139 = .ok (.aload_n 0, 1) := by decide +kernel
theorem dX6_count_140 : decode cX6_count 140 = .ok (.getfield 25, 3) := by decide +kernel
theorem dX6_count_143 : decode cX6_count 143 = .ok (.sipush 1015, 3) := by decide +kernel
theorem dX6_count_146 : decode cX6_count 146 = .ok (.iaload, 1) := by decide +kernel
theorem dX6_count_147 : decode cX6_count 147 = .ok (.ireturn, 1) := by decide +kernel
theorem dX6_count_148 : decode cX6_count 148 = .ok (.aload_n 0, 1) := by decide +kernel
theorem dX6_count_149 : decode cX6_count 149 = .ok (.getfield 25, 3) := by decide +kernel
theorem dX6_count_152 : decode cX6_count 152 = .ok (.sipush 1018, 3) := by decide +kernel
theorem dX6_count_155 : decode cX6_count 155 = .ok (.iaload, 1) := by decide +kernel
theorem dX6_count_156 : decode cX6_count 156 = .ok (.ireturn, 1) := by decide +kernel
theorem dX6_count_157 : decode cX6_count 157 = .ok (.iconst 0, 1) := by decide +kernel
theorem dX6_count_158 : decode cX6_count 158 = .ok (.istore_n 2, 1) := by decide +kernel
theorem dX6_count_159 : decode cX6_count 159 = .ok (.iconst 0, 1) := by decide +kernel
theorem dX6_count_160 : decode cX6_count 160 = .ok (.istore_n 3, 1) := by decide +kernel
theorem dX6_count_161 : decode cX6_count 161 = .ok (.iload_n 3, 1) := by decide +kernel
theorem dX6_count_162 : decode cX6_count 162 = .ok (.aload_n 0, 1) := by decide +kernel
theorem dX6_count_163 : decode cX6_count 163 = .ok (.getfield 25, 3) := by decide +kernel
theorem dX6_count_166 : decode cX6_count 166 = .ok (.sipush 1008, 3) := by decide +kernel
theorem dX6_count_169 : decode cX6_count 169 = .ok (.iaload, 1) := by decide +kernel
theorem dX6_count_170 : decode cX6_count 170 = .ok (.if_icmp .ge 25, 3) := by decide +kernel
theorem dX6_count_173 : decode cX6_count 173 = .ok (.iload_n 2, 1) := by decide +kernel
theorem dX6_count_174 : decode cX6_count 174 = .ok (.aload_n 0, 1) := by decide +kernel
theorem dX6_count_175 : decode cX6_count 175 = .ok (.iload_n 3, 1) := by decide +kernel
theorem dX6_count_176 : decode cX6_count 176 = .ok (.invokevirtual 202, 3) := by decide +kernel
theorem dX6_count_179 : decode cX6_count 179 = .ok (.ifCond .eq 7, 3) := by decide +kernel
theorem dX6_count_182 : decode cX6_count 182 = .ok (.iconst 1, 1) := by decide +kernel
theorem dX6_count_183 : decode cX6_count 183 = .ok (.goto 4, 3) := by decide +kernel
theorem dX6_count_186 : decode cX6_count 186 = .ok (.iconst 0, 1) := by decide +kernel
theorem dX6_count_187 : decode cX6_count 187 = .ok (.iadd, 1) := by decide +kernel
theorem dX6_count_188 : decode cX6_count 188 = .ok (.istore_n 2, 1) := by decide +kernel
theorem dX6_count_189 : decode cX6_count 189 = .ok (.iinc 3 1, 3) := by decide +kernel
theorem dX6_count_192 : decode cX6_count 192 = .ok (.goto (-31), 3) := by decide +kernel
theorem dX6_count_195 : decode cX6_count 195 = .ok (.iload_n 2, 1) := by decide +kernel
theorem dX6_count_196 : decode cX6_count 196 = .ok (.ireturn, 1) := by decide +kernel
theorem dX6_count_197 : decode cX6_count 197 = .ok (.aload_n 0, 1) := by decide +kernel
theorem dX6_count_198 : decode cX6_count 198 = .ok (.invokevirtual 177, 3) := by decide +kernel
theorem dX6_count_201 : decode cX6_count 201 = .ok (.ifCond .eq 7, 3) := by decide +kernel
theorem dX6_count_204 : decode cX6_count 204 = .ok (.iconst 1, 1) := by decide +kernel
theorem dX6_count_205 : decode cX6_count 205 = .ok (.goto 4, 3) := by decide +kernel
theorem dX6_count_208 : decode cX6_count 208 = .ok (.iconst 0, 1) := by decide +kernel
theorem dX6_count_209 : decode cX6_count 209 = .ok (.ireturn, 1) := by decide +kernel
theorem dX6_count_210 : decode cX6_count 210 = .ok (.aload_n 0, 1) := by decide +kernel
theorem dX6_count_211 : decode cX6_count 211 = .ok (.getfield 79, 3) := by decide +kernel
theorem dX6_count_214 : decode cX6_count 214 = .ok (.ireturn, 1) := by decide +kernel
theorem dX6_count_215 : decode cX6_count 215 = .ok (.aload_n 0, 1) := by decide +kernel
theorem dX6_count_216 : decode cX6_count 216 = .ok (.getfield 82, 3) := by decide +kernel
theorem dX6_count_219 : decode cX6_count 219 = .ok (.ireturn, 1) := by decide +kernel
theorem dX6_count_220 : decode cX6_count 220 = .ok (.aload_n 0, 1) := by decide +kernel
theorem dX6_count_221 : decode cX6_count 221 = .ok (.getfield 25, 3) := by decide +kernel
theorem dX6_count_224 : decode cX6_count 224 = .ok (.sipush 1013, 3) := by decide +kernel
theorem dX6_count_227 : decode cX6_count 227 = .ok (.iaload, 1) := by decide +kernel
theorem dX6_count_228 : decode cX6_count 228 = .ok (.ireturn, 1) := by decide +kernel
theorem dX6_count_229 : decode cX6_count 229 = .ok (.iconst (-1), 1) := by decide +kernel
theorem dX6_count_230 : decode cX6_count 230 = .ok (.ireturn, 1) := by decide +kernel
theorem dJ6_bitCount_0f7a4_0 : decode cJ6_bitCount_0f7a4 0 = .ok (.iload_n 0, 1) := by decide +kernel
theorem dJ6_bitCount_0f7a4_1 : decode cJ6_bitCount_0f7a4 1 = .ok (.iload_n 0, 1) := by decide +kernel
theorem dJ6_bitCount_0f7a4_2 : decode cJ6_bitCount_0f7a4 2 = .ok (.iconst 1, 1) := by decide +kernel
theorem dJ6_bitCount_0f7a4_3 : decode cJ6_bitCount_0f7a4 3 = .ok (.iushr, 1) := by decide +kernel
theorem dJ6_bitCount_0f7a4_4 : decode cJ6_bitCount_0f7a4 4 = .ok (.ldc_w 265, 3) := by decide +kernel
theorem dJ6_bitCount_0f7a4_7 : decode cJ6_bitCount_0f7a4 7 = .ok (.iand, 1) := by decide +kernel
theorem dJ6_bitCount_0f7a4_8 : decode cJ6_bitCount_0f7a4 8 = .ok (.isub, 1) := by decide +kernel
theorem dJ6_bitCount_0f7a4_9 : decode cJ6_bitCount_0f7a4 9 = .ok (.istore_n 0, 1) := by decide +kernel
theorem dJ6_bitCount_0f7a4_10 : decode cJ6_bitCount_0f7a4 10 = .ok (.iload_n 0, 1) := by decide +kernel
theorem dJ6_bitCount_0f7a4_11 : decode cJ6_bitCount_0f7a4 11 = .ok (.ldc_w 266, 3) := by decide +kernel
theorem dJ6_bitCount_0f7a4_14 : decode cJ6_bitCount_0f7a4 14 = .ok (.iand, 1) := by decide +kernel
theorem dJ6_bitCount_0f7a4_15 : decode cJ6_bitCount_0f7a4 15 = .ok (.iload_n 0, 1) := by decide +kernel
theorem dJ6_bitCount_0f7a4_16 : decode cJ6_bitCount_0f7a4 16 = .ok (.iconst 2, 1) := by decide +kernel
theorem dJ6_bitCount_0f7a4_17 : decode cJ6_bitCount_0f7a4 17 = .ok (.iushr, 1) := by decide +kernel
theorem dJ6_bitCount_0f7a4_18 : decode cJ6_bitCount_0f7a4 18 = .ok (.ldc_w 266, 3) := by decide +kernel
theorem dJ6_bitCount_0f7a4_21 : decode cJ6_bitCount_0f7a4 21 = .ok (.iand, 1) := by decide +kernel
theorem dJ6_bitCount_0f7a4_22 : decode cJ6_bitCount_0f7a4 22 = .ok (.iadd, 1) := by decide +kernel
theorem dJ6_bitCount_0f7a4_23 : decode cJ6_bitCount_0f7a4 23 = .ok (.istore_n 0, 1) := by decide +kernel
theorem dJ6_bitCount_0f7a4_24 : decode cJ6_bitCount_0f7a4 24 = .ok (.iload_n 0, 1) := by decide +kernel
theorem dJ6_bitCount_0f7a4_25 : decode cJ6_bitCount_0f7a4 25 = .ok (.iload_n 0, 1) := by decide +kernel
theorem dJ6_bitCount_0f7a4_26 : decode cJ6_bitCount_0f7a4 26 = .ok (.iconst 4, 1) := by decide +kernel
theorem dJ6_bitCount_0f7a4_27 : decode cJ6_bitCount_0f7a4 27 = .ok (.iushr, 1) := by decide +kernel
theorem dJ6_bitCount_0f7a4_28 : decode cJ6_bitCount_0f7a4 28 = .ok (.iadd, 1) := by decide +kernel
theorem dJ6_bitCount_0f7a4_29 : decode cJ6_bitCount_0f7a4 29 = .ok (.ldc_w 267, 3) := by decide +kernel
theorem dJ6_bitCount_0f7a4_32 : decode cJ6_bitCount_0f7a4 32 = .ok (.iand, 1) := by decide +kernel
theorem dJ6_bitCount_0f7a4_33 : decode cJ6_bitCount_0f7a4 33 = .ok (.istore_n 0, 1) := by decide +kernel
theorem dJ6_bitCount_0f7a4_34 : decode cJ6_bitCount_0f7a4 34 = .ok (.iload_n 0, 1) := by decide +kernel
theorem dJ6_bitCount_0f7a4_35 : decode cJ6_bitCount_0f7a4 35 = .ok (.iload_n 0, 1) := by decide +kernel
theorem dJ6_bitCount_0f7a4_36 : decode cJ6_bitCount_0f7a4 36 = .ok (.bipush 8, 2) := by decide +kernel
theorem dJ6_bitCount_0f7a4_38 : decode cJ6_bitCount_0f7a4 38 = .ok (.iushr, 1) := by decide +kernel
theorem dJ6_bitCount_0f7a4_39 : decode cJ6_bitCount_0f7a4 39 = .ok (.iadd, 1) := by decide +kernel
theorem dJ6_bitCount_0f7a4_40 : decode cJ6_bitCount_0f7a4 40 = .ok (.istore_n 0, 1) := by decide +kernel
theorem dJ6_bitCount_0f7a4_41 : decode cJ6_bitCount_0f7a4 41 = .ok (.iload_n 0, 1) := by decide +kernel
theorem dJ6_bitCount_0f7a4_42 : decode cJ6_bitCount_0f7a4 42 = .ok (.iload_n 0, 1) := by decide +kernel
theorem dJ6_bitCount_0f7a4_43 : decode cJ6_bitCount_0f7a4 43 = .ok (.bipush 16, 2) := by decide +kernel
theorem dJ6_bitCount_0f7a4_45 : decode cJ6_bitCount_0f7a4 45 = .ok (.iushr, 1) := by decide +kernel
theorem dJ6_bitCount_0f7a4_46 : decode cJ6_bitCount_0f7a4 46 = .ok (.iadd, 1) := by decide +kernel
theorem dJ6_bitCount_0f7a4_47 : decode cJ6_bitCount_0f7a4 47 = .ok (.istore_n 0, 1) := by decide +kernel
theorem dJ6_bitCount_0f7a4_48 : decode cJ6_bitCount_0f7a4 48 = .ok (.iload_n 0, 1) := by decide +kernel
theorem dJ6_bitCount_0f7a4_49 : decode cJ6_bitCount_0f7a4 49 = .ok (.bipush 63, 2) := by decide +kernel
theorem dJ6_bitCount_0f7a4_51 : decode cJ6_bitCount_0f7a4 51 = .ok (.iand, 1) := by decide +kernel
theorem dJ6_bitCount_0f7a4_52 : decode cJ6_bitCount_0f7a4 52 = .ok (.ireturn, 1) := by decide +kernel
theorem dJ9_floorMod_7cf53_0 : decode cJ9_floorMod_7cf53 0 = .ok (.iload_n 0, 1) := by decide +kernel
theorem dJ9_floorMod_7cf53_1 : decode cJ9_floorMod_7cf53 1 = .ok (.iload_n 1, 1) := by decide +kernel
theorem dJ9_floorMod_7cf53_2 : decode cJ9_floorMod_7cf53 2 = .ok (.irem, 1) := by decide +kernel
theorem dJ9_floorMod_7cf53_3 : decode cJ9_floorMod_7cf53 3 = .ok (.istore_n 2, 1) := by decide +kernel
theorem dJ9_floorMod_7cf53_4 : decode cJ9_floorMod_7cf53 4 = .ok (.iload_n 0, 1) := by decide +kernel
theorem dJ9_floorMod_7cf53_5 : decode cJ9_floorMod_7cf53 5 = .ok (.iload_n 1, 1) := by decide +kernel
theorem dJ9_floorMod_7cf53_6 : decode cJ9_floorMod_7cf53 6 = .ok (.ixor, 1) := by decide +kernel
theorem dJ9_floorMod_7cf53_7 : decode cJ9_floorMod_7cf53 7 = .ok (.ifCond .ge 11, 3) := by decide +kernel
theorem dJ9_floorMod_7cf53_10 : decode cJ9_floorMod_7cf53 10 = .ok (.iload_n 2, 1) := by decide +kernel
theorem dJ9_floorMod_7cf53_11 : decode cJ9_floorMod_7cf53 11 = .ok (.ifCond .eq 7, 3) := by decide +kernel
theorem dJ9_floorMod_7cf53_14 : decode cJ9_floorMod_7cf53 14 = .ok (.iload_n 2, 1) := by decide +kernel
theorem dJ9_floorMod_7cf53_15 : decode cJ9_floorMod_7cf53 15 = .ok (.iload_n 1, 1) := by decide +kernel
theorem dJ9_floorMod_7cf53_16 : decode cJ9_floorMod_7cf53 16 = .ok (.iadd, 1) := by decide +kernel
theorem dJ9_floorMod_7cf53_17 : decode cJ9_floorMod_7cf53 17 = .ok (.ireturn, 1) := by decide +kernel
theorem dJ9_floorMod_7cf53_18 : decode cJ9_floorMod_7cf53 18 = .ok (.iload_n 2, 1) := by decide +kernel
theorem dJ9_floorMod_7cf53_19 : decode cJ9_floorMod_7cf53 19 = .ok (.ireturn, 1) := by decide +kernel
theorem dJ9_abs_0f7a4_0 : decode cJ9_abs_0f7a4 0 = .ok (.iload_n 0, 1) := by decide +kernel
theorem dJ9_abs_0f7a4_1 : decode cJ9_abs_0f7a4 1 = .ok (.ifCond .ge 8, 3) := by decide +kernel
theorem dJ9_abs_0f7a4_4 : decode cJ9_abs_0f7a4 4 = .ok (.iload_n 0, 1) := by decide +kernel
theorem dJ9_abs_0f7a4_5 : decode cJ9_abs_0f7a4 5 = .ok (.ineg, 1) := by decide +kernel
theorem dJ9_abs_0f7a4_6 : decode cJ9_abs_0f7a4 6 = .ok (.goto 4, 3) := by decide +kernel
theorem dJ9_abs_0f7a4_9 : decode cJ9_abs_0f7a4 9 = .ok (.iload_n 0, 1) := by decide +kernel
theorem dJ9_abs_0f7a4_10 : decode cJ9_abs_0f7a4 10 = .ok (.ireturn, 1) := by decide +kernel
theorem dJ9_max_7cf53_0 : decode cJ9_max_7cf53 0 = .ok (.iload_n 0, 1) := by decide +kernel
theorem dJ9_max_7cf53_1 : decode cJ9_max_7cf53 1 = .ok (.iload_n 1, 1) := by decide +kernel
theorem dJ9_max_7cf53_2 : decode cJ9_max_7cf53 2 = .ok (.if_icmp .lt 7, 3) := by decide +kernel
theorem dJ9_max_7cf53_5 : decode cJ9_max_7cf53 5 = .ok (.iload_n 0, 1) := by decide +kernel
theorem dJ9_max_7cf53_6 : decode cJ9_max_7cf53 6 = .ok (.goto 4, 3) := by decide +kernel
theorem dJ9_max_7cf53_9 : decode cJ9_max_7cf53 9 = .ok (.iload_n 1, 1) := by decide +kernel
theorem dJ9_max_7cf53_10 : decode cJ9_max_7cf53 10 = .ok (.ireturn, 1) := by decide +kernel
theorem dJ9_min_7cf53_0 : decode cJ9_min_7cf53 0 = .ok (.iload_n 0, 1) := by decide +kernel
theorem dJ9_min_7cf53_1 : decode cJ9_min_7cf53 1 = .ok (.iload_n 1, 1) := by decide +kernel
theorem dJ9_min_7cf53_2 : decode cJ9_min_7cf53 2 = .ok (.if_icmp .gt 7, 3) := by decide +kernel
theorem dJ9_min_7cf53_5 : decode cJ9_min_7cf53 5 = .ok (.iload_n 0, 1) := by decide +kernel
theorem dJ9_min_7cf53_6 : decode cJ9_min_7cf53 6 = .ok (.goto 4, 3) := by decide +kernel
theorem dJ9_min_7cf53_9 : decode cJ9_min_7cf53 9 = .ok (.iload_n 1, 1) := by decide +kernel
theorem dJ9_min_7cf53_10 : decode cJ9_min_7cf53 10 = .ok (.ireturn, 1) := by decide +kernel
set_option maxRecDepth 20000 in
theorem ggJ0_length_8abf5_J0_coder_7d493 : GoodIn wsJ0_length_8abf5 wsJ0_coder_7d493 := goodIn_r _ [6, 7, 8] (by decide +kernel) (by decide +kernel)
set_option maxRecDepth 20000 in
theorem gJ0_length_8abf5_J0_coder_7d493 : GoodIn wsJ0_length_8abf5 (wsV RJ0 335 RJ0 yJ0_coder_7d493 wsJ0_coder_7d493) := goodIn_app (goodIn_of _ (by decide +kernel)) ggJ0_length_8abf5_J0_coder_7d493
theorem dJ0_length_8abf5_0 : decode cJ0_length_8abf5 0 = .ok (.aload_n 0, 1) := by decide +kernel
theorem dJ0_length_8abf5_1 : decode cJ0_length_8abf5 1 = .ok (.getfield 9, 3) := by decide +kernel
theorem dJ0_length_8abf5_4 : decode cJ0_length_8abf5 4 = .ok (.arraylength, 1) := by decide +kernel
theorem dJ0_length_8abf5_5 : decode cJ0_length_8abf5 5 = .ok (.aload_n 0, 1) := by decide +kernel
theorem dJ0_length_8abf5_6 : decode cJ0_length_8abf5 6 = .ok (.invokevirtual 335, 3) := by decide +kernel
theorem dJ0_length_8abf5_9 : decode cJ0_length_8abf5 9 = .ok (.ishr, 1) := by decide +kernel
theorem dJ0_length_8abf5_10 : decode cJ0_length_8abf5 10 = .ok (.ireturn, 1) := by decide +kernel
set_option maxRecDepth 20000 in
theorem ggJ0_charAt_5068e_J0_isLatin1_aae02 : GoodIn wsJ0_charAt_5068e wsJ0_isLatin1_aae02 := goodIn_r _ [6, 7, 8] (by decide +kernel) (by decide +kernel)
set_option maxRecDepth 20000 in
theorem gJ0_charAt_5068e_J0_isLatin1_aae02 : GoodIn wsJ0_charAt_5068e (wsV RJ0 492 RJ0 yJ0_isLatin1_aae02 wsJ0_isLatin1_aae02) := goodIn_app (goodIn_of _ (by decide +kernel)) ggJ0_charAt_5068e_J0_isLatin1_aae02
set_option maxRecDepth 20000 in
theorem ggJ0_charAt_5068e_J1_charAt_3b067 : GoodIn wsJ0_charAt_5068e wsJ1_charAt_3b067 := goodIn_r _ [12, 13, 14, 5, 15, 16, 17, 18, 19, 20] (by decide +kernel) (by decide +kernel)
set_option maxRecDepth 20000 in
theorem gJ0_charAt_5068e_J1_charAt_3b067 : GoodIn wsJ0_charAt_5068e (va_wsS RJ0 495 yJ1_charAt_3b067 wsJ1_charAt_3b067) := goodIn_app (goodIn_of _ (by decide +kernel)) ggJ0_charAt_5068e_J1_charAt_3b067
set_option maxRecDepth 20000 in
theorem ggJ0_charAt_5068e_J2_charAt_3b067 : GoodIn wsJ0_charAt_5068e wsJ2_charAt_3b067 := goodIn_r _ [24, 25, 26, 23, 27, 28, 29, 30, 31, 14, 5, 15, 16, 17, 18, 19, 20, 32, 33, 34, 35, 36, 37] (by decide +kernel) (by decide +kernel)
set_option maxRecDepth 20000 in
theorem gJ0_charAt_5068e_J2_charAt_3b067 : GoodIn wsJ0_charAt_5068e (va_wsS RJ0 498 yJ2_charAt_3b067 wsJ2_charAt_3b067) := goodIn_app (goodIn_of _ (by decide +kernel)) ggJ0_charAt_5068e_J2_charAt_3b067
theorem dJ0_charAt_5068e_0 : decode cJ0_charAt_5068e 0 = .ok (.aload_n 0, 1) := by decide +kernel
theorem dJ0_charAt_5068e_1 : decode cJ0_charAt_5068e 1 = .ok (.invokevirtual 492, 3) := by decide +kernel
theorem dJ0_charAt_5068e_4 : decode cJ0_charAt_5068e 4 = .ok (.ifCond .eq 12, 3) := by decide +kernel
theorem dJ0_charAt_5068e_7 : decode cJ0_charAt_5068e 7 = .ok (.aload_n 0, 1) := by decide +kernel
theorem dJ0_charAt_5068e_8 : decode cJ0_charAt_5068e 8 = .ok (.getfield 9, 3) := by decide +kernel
theorem dJ0_charAt_5068e_11 : decode cJ0_charAt_5068e 11 = .ok (.iload_n 1, 1) := by decide +kernel
theorem dJ0_charAt_5068e_12 : decode cJ0_charAt_5068e 12 = .ok (.invokestatic 495, 3) := by decide +kernel
theorem dJ0_charAt_5068e_15 : decode cJ0_charAt_5068e 15 = .ok (.ireturn, 1) := by decide +kernel
theorem dJ0_charAt_5068e_16 : decode cJ0_charAt_5068e 16 = .ok (.aload_n 0, 1) := by decide +kernel
theorem dJ0_charAt_5068e_17 : decode cJ0_charAt_5068e 17 = .ok (.getfield 9, 3) := by decide +kernel
theorem dJ0_charAt_5068e_20 : decode cJ0_charAt_5068e 20 = .ok (.iload_n 1, 1) := by decide +kernel
theorem dJ0_charAt_5068e_21 : decode cJ0_charAt_5068e 21 = .ok (.invokestatic 498, 3) := by decide +kernel
theorem dJ0_charAt_5068e_24 : decode cJ0_charAt_5068e 24 = .ok (.ireturn, 1) := by decide +kernel
theorem dJ0_coder_7d493_0 : decode cJ0_coder_7d493 0 = .ok (.getstatic 38, 3) := by decide +kernel
theorem dJ0_coder_7d493_3 : decode cJ0_coder_7d493 3 = .ok (.ifCond .eq 10, 3) := by decide +kernel
theorem dJ0_coder_7d493_6 : decode cJ0_coder_7d493 6 = .ok (.aload_n 0, 1) := by decide +kernel
theorem dJ0_coder_7d493_7 : decode cJ0_coder_7d493 7 = .ok (.getfield 15, 3) := by decide +kernel
theorem dJ0_coder_7d493_10 : decode cJ0_coder_7d493 10 = .ok (.goto 4, 3) := by decide +kernel
theorem dJ0_coder_7d493_13 : decode cJ0_coder_7d493 13 = .ok (.iconst 1, 1) := by decide +kernel
theorem dJ0_coder_7d493_14 : decode cJ0_coder_7d493 14 = .ok (.ireturn, 1) := by decide +kernel
theorem dJ0_isLatin1_aae02_0 : decode cJ0_isLatin1_aae02 0 = .ok (.getstatic 38, 3) := by decide +kernel
theorem dJ0_isLatin1_aae02_3 : decode cJ0_isLatin1_aae02 3 = .ok (.ifCond .eq 14, 3) := by decide +kernel
theorem dJ0_isLatin1_aae02_6 : decode cJ0_isLatin1_aae02 6 = .ok (.aload_n 0, 1) := by decide +kernel
theorem dJ0_isLatin1_aae02_7 : decode cJ0_isLatin1_aae02 7 = .ok (.getfield 15, 3) := by decide +kernel
theorem dJ0_isLatin1_aae02_10 : decode cJ0_isLatin1_aae02 10 = .ok (.ifCond .ne 7, 3) := by decide +kernel
theorem dJ0_isLatin1_aae02_13 : decode cJ0_isLatin1_aae02 13 = .ok (.iconst 1, 1) := by decide +kernel
theorem dJ0_isLatin1_aae02_14 : decode cJ0_isLatin1_aae02 14 = .ok (.goto 4, 3) := by decide +kernel
theorem dJ0_isLatin1_aae02_17 : decode cJ0_isLatin1_aae02 17 = .ok (.iconst 0, 1) := by decide +kernel
theorem dJ0_isLatin1_aae02_18 : decode cJ0_isLatin1_aae02 18 = .ok (.ireturn, 1) := by decide +kernel
set_option maxRecDepth 20000 in
theorem ggJ0_checkIndex_df160_J3_checkIndex_8e157 : GoodIn wsJ0_checkIndex_df160 wsJ3_checkIndex_8e157 := goodIn_r _ [5] (by decide +kernel) (by decide +kernel)
set_option maxRecDepth 20000 in
theorem gJ0_checkIndex_df160_J3_checkIndex_8e157 : GoodIn wsJ0_checkIndex_df160 (va_wsS RJ0 1059 yJ3_checkIndex_8e157 wsJ3_checkIndex_8e157) := goodIn_app (goodIn_of _ (by decide +kernel)) ggJ0_checkIndex_df160_J3_checkIndex_8e157
theorem dJ0_checkIndex_df160_0 : decode cJ0_checkIndex_df160 0 = .ok (.iload_n 0, 1) := by decide +kernel
theorem dJ0_checkIndex_df160_1 : decode cJ0_checkIndex_df160 1 = .ok (.iload_n 1, 1) := by decide +kernel
theorem dJ0_checkIndex_df160_2 : decode cJ0_checkIndex_df160 2 = .ok (.getstatic 1053, 3) := by decide +kernel
theorem dJ0_checkIndex_df160_5 : decode cJ0_checkIndex_df160 5 = .ok (.invokestatic 1059, 3) := by decide +kernel
theorem dJ0_checkIndex_df160_8 : decode cJ0_checkIndex_df160 8 = .ok (.pop, 1) := by decide +kernel
theorem dJ0_checkIndex_df160_9 : decode cJ0_checkIndex_df160 9 = .ok (.return_, 1) := by decide +kernel
set_option maxRecDepth 20000 in
theorem ggJ1_charAt_3b067_J0_checkIndex_df160 : GoodIn wsJ1_charAt_3b067 wsJ0_checkIndex_df160 := goodIn_r _ [4, 5, 6, 7, 8, 9] (by decide +kernel) (by decide +kernel)
set_option maxRecDepth 20000 in
theorem gJ1_charAt_3b067_J0_checkIndex_df160 : GoodIn wsJ1_charAt_3b067 (va_wsS RJ1 9 yJ0_checkIndex_df160 wsJ0_checkIndex_df160) := goodIn_app (goodIn_of _ (by decide +kernel)) ggJ1_charAt_3b067_J0_checkIndex_df160
theorem dJ1_charAt_3b067_0 : decode cJ1_charAt_3b067 0 = .ok (.iload_n 1, 1) := by decide +kernel
theorem dJ1_charAt_3b067_1 : decode cJ1_charAt_3b067 1 = .ok (.aload_n 0, 1) := by decide +kernel
theorem dJ1_charAt_3b067_2 : decode cJ1_charAt_3b067 2 = .ok (.arraylength, 1) := by decide +kernel
theorem dJ1_charAt_3b067_3 : decode cJ1_charAt_3b067 3 = .ok (.invokestatic 9, 3) := by decide +kernel
theorem dJ1_charAt_3b067_6 : decode cJ1_charAt_3b067 6 = .ok (.aload_n 0, 1) := by decide +kernel
theorem dJ1_charAt_3b067_7 : decode cJ1_charAt_3b067 7 = .ok (.iload_n 1, 1) := by decide +kernel
theorem dJ1_charAt_3b067_8 : decode cJ1_charAt_3b067 8 = .ok (.baload, 1) := by decide +kernel
theorem dJ1_charAt_3b067_9 : decode cJ1_charAt_3b067 9 = .ok (.sipush 255, 3) := by decide +kernel
theorem dJ1_charAt_3b067_12 : decode cJ1_charAt_3b067 12 = .ok (.iand, 1) := by decide +kernel
theorem dJ1_charAt_3b067_13 : decode cJ1_charAt_3b067 13 = .ok (.i2c, 1) := by decide +kernel
theorem dJ1_charAt_3b067_14 : decode cJ1_charAt_3b067 14 = .ok (.ireturn, 1) := by decide +kernel
set_option maxRecDepth 20000 in
theorem ggJ2_getChar_3b067_J2_length_9d52b : GoodIn wsJ2_getChar_3b067 wsJ2_length_9d52b := goodIn_r _ [7] (by decide +kernel) (by decide +kernel)
set_option maxRecDepth 20000 in
theorem gJ2_getChar_3b067_J2_length_9d52b : GoodIn wsJ2_getChar_3b067 (va_wsS RJ2 48 yJ2_length_9d52b wsJ2_length_9d52b) := goodIn_app (goodIn_of _ (by decide +kernel)) ggJ2_getChar_3b067_J2_length_9d52b
theorem dJ2_getChar_3b067_0 : decode cJ2_getChar_3b067 0 = .ok (.getstatic 44, 3) := by decide +kernel
theorem dJ2_getChar_3b067_3 : decode cJ2_getChar_3b067 3 = .ok (.ifCond .ne 25, 3) := by decide +kernel
theorem dJ2_getChar_3b067_6 : decode cJ2_getChar_3b067 6 = .ok (.iload_n 1, 1) := by decide +kernel
theorem dJ2_getChar_3b067_7 : decode cJ2_getChar_3b067 7 = .ok (.ifCond .lt 11, 3) := by decide +kernel
theorem dJ2_getChar_3b067_10 : decode cJ2_getChar_3b067 10 = .ok (.iload_n 1, 1) := by decide +kernel
theorem dJ2_getChar_3b067_11 : decode cJ2_getChar_3b067 11 = .ok (.aload_n 0, 1) := by decide +kernel
theorem dJ2_getChar_3b067_12 : decode cJ2_getChar_3b067 12 = .ok (.invokestatic 48, 3) := by decide +kernel
theorem dJ2_getChar_3b067_15 : decode cJ2_getChar_3b067 15 = .ok (.if_icmp .lt 13, 3) := by decide +kernel
theorem dJ2_getChar_3b067_18 : decode cJ2_getChar_3b067 18 = .ok (.new 52, 3) := by decide +kernel
theorem dJ2_getChar_3b067_21 : decode cJ2_getChar_3b067 21 = .ok (.dup, 1) := by decide +kernel
theorem dJ2_getChar_3b067_22 : decode cJ2_getChar_3b067 22 = .ok (.ldc 54, 2) := by decide +kernel
theorem dJ2_getChar_3b067_24 : decode cJ2_getChar_3b067 24 = .ok (.invokespecial 56, 3) := by decide +kernel
theorem dJ2_getChar_3b067_27 : decode cJ2_getChar_3b067 27 = .ok (.athrow, 1) := by decide +kernel
theorem dJ2_getChar_3b067_28 : decode cJ2_getChar_3b067 28 = .ok (.iload_n 1, 1) := by decide +kernel
theorem dJ2_getChar_3b067_29 : decode cJ2_getChar_3b067 29 = .ok (.iconst 1, 1) := by decide +kernel
theorem dJ2_getChar_3b067_30 : decode cJ2_getChar_3b067 30 = .ok (.ishl, 1) := by decide +kernel
theorem dJ2_getChar_3b067_31 : decode cJ2_getChar_3b067 31 = .ok (.istore_n 1, 1) := by decide +kernel
theorem dJ2_getChar_3b067_32 : decode cJ2_getChar_3b067 32 = .ok (.aload_n 0, 1) := by decide +kernel
theorem dJ2_getChar_3b067_33 : decode cJ2_getChar_3b067 33 = .ok (.iload_n 1, 1) := by decide +kernel
theorem dJ2_getChar_3b067_34 : decode cJ2_getChar_3b067 34 = .ok (.iinc 1 1, 3) := by decide +kernel
theorem dJ2_getChar_3b067_37 : decode cJ2_getChar_3b067 37 = .ok (.baload, 1) := by decide +kernel
theorem dJ2_getChar_3b067_38 : decode cJ2_getChar_3b067 38 = .ok (.sipush 255, 3) := by decide +kernel
theorem dJ2_getChar_3b067_41 : decode cJ2_getChar_3b067 41 = .ok (.iand, 1) := by decide +kernel
theorem dJ2_getChar_3b067_42 : decode cJ2_getChar_3b067 42 = .ok (.getstatic 59, 3) := by decide +kernel
theorem dJ2_getChar_3b067_45 : decode cJ2_getChar_3b067 45 = .ok (.ishl, 1) := by decide +kernel
theorem dJ2_getChar_3b067_46 : decode cJ2_getChar_3b067 46 = .ok (.aload_n 0, 1) := by decide +kernel
theorem dJ2_getChar_3b067_47 : decode cJ2_getChar_3b067 47 = .ok (.iload_n 1, 1) := by decide +kernel
theorem dJ2_getChar_3b067_48 : decode cJ2_getChar_3b067 48 = .ok (.baload, 1) := by decide +kernel
theorem dJ2_getChar_3b067_49 : decode cJ2_getChar_3b067 49 = .ok (.sipush 255, 3) := by decide +kernel
theorem dJ2_getChar_3b067_52 : decode cJ2_getChar_3b067 52 = .ok (.iand, 1) := by decide +kernel
theorem dJ2_getChar_3b067_53 : decode cJ2_getChar_3b067 53 = .ok (.getstatic 63, 3) := by decide +kernel
theorem dJ2_getChar_3b067_56 : decode cJ2_getChar_3b067 56 = .ok (.ishl, 1) := by decide +kernel
theorem dJ2_getChar_3b067_57 : decode cJ2_getChar_3b067 57 = .ok (.ior, 1) := by decide +kernel
theorem dJ2_getChar_3b067_58 : decode cJ2_getChar_3b067 58 = .ok (.i2c, 1) := by decide +kernel
theorem dJ2_getChar_3b067_59 : decode cJ2_getChar_3b067 59 = .ok (.ireturn, 1) := by decide +kernel
theorem dJ2_length_9d52b_0 : decode cJ2_length_9d52b 0 = .ok (.aload_n 0, 1) := by decide +kernel
theorem dJ2_length_9d52b_1 : decode cJ2_length_9d52b 1 = .ok (.arraylength, 1) := by decide +kernel
theorem dJ2_length_9d52b_2 : decode cJ2_length_9d52b 2 = .ok (.iconst 1, 1) := by decide +kernel
theorem dJ2_length_9d52b_3 : decode cJ2_length_9d52b 3 = .ok (.ishr, 1) := by decide +kernel
theorem dJ2_length_9d52b_4 : decode cJ2_length_9d52b 4 = .ok (.ireturn, 1) := by decide +kernel
set_option maxRecDepth 20000 in
theorem ggJ2_charAt_3b067_J2_checkIndex_2214a : GoodIn wsJ2_charAt_3b067 wsJ2_checkIndex_2214a := goodIn_r _ [4, 5, 6, 3, 7, 8, 9, 10, 11, 12, 13, 14, 15, 16] (by decide +kernel) (by decide +kernel)
set_option maxRecDepth 20000 in
theorem gJ2_charAt_3b067_J2_checkIndex_2214a : GoodIn wsJ2_charAt_3b067 (va_wsS RJ2 67 yJ2_checkIndex_2214a wsJ2_checkIndex_2214a) := goodIn_app (goodIn_of _ (by decide +kernel)) ggJ2_charAt_3b067_J2_checkIndex_2214a
set_option maxRecDepth 20000 in
theorem ggJ2_charAt_3b067_J2_getChar_3b067 : GoodIn wsJ2_charAt_3b067 wsJ2_getChar_3b067 := goodIn_r _ [19, 20, 21, 22, 5, 6, 3, 7] (by decide +kernel) (by decide +kernel)
set_option maxRecDepth 20000 in
theorem gJ2_charAt_3b067_J2_getChar_3b067 : GoodIn wsJ2_charAt_3b067 (va_wsS RJ2 71 yJ2_getChar_3b067 wsJ2_getChar_3b067) := goodIn_app (goodIn_of _ (by decide +kernel)) ggJ2_charAt_3b067_J2_getChar_3b067
theorem dJ2_charAt_3b067_0 : decode cJ2_charAt_3b067 0 = .ok (.iload_n 1, 1) := by decide +kernel
theorem dJ2_charAt_3b067_1 : decode cJ2_charAt_3b067 1 = .ok (.aload_n 0, 1) := by decide +kernel
theorem dJ2_charAt_3b067_2 : decode cJ2_charAt_3b067 2 = .ok (.invokestatic 67, 3) := by decide +kernel
theorem dJ2_charAt_3b067_5 : decode cJ2_charAt_3b067 5 = .ok (.aload_n 0, 1) := by decide +kernel
theorem dJ2_charAt_3b067_6 : decode cJ2_charAt_3b067 6 = .ok (.iload_n 1, 1) := by decide +kernel
theorem dJ2_charAt_3b067_7 : decode cJ2_charAt_3b067 7 = .ok (.invokestatic 71, 3) := by decide +kernel
theorem dJ2_charAt_3b067_10 : decode cJ2_charAt_3b067 10 = .ok (.ireturn, 1) := by decide +kernel
set_option maxRecDepth 20000 in
theorem ggJ2_checkIndex_2214a_J2_length_9d52b : GoodIn wsJ2_checkIndex_2214a wsJ2_length_9d52b := goodIn_r _ [4] (by decide +kernel) (by decide +kernel)
set_option maxRecDepth 20000 in
theorem gJ2_checkIndex_2214a_J2_length_9d52b : GoodIn wsJ2_checkIndex_2214a (va_wsS RJ2 48 yJ2_length_9d52b wsJ2_length_9d52b) := goodIn_app (goodIn_of _ (by decide +kernel)) ggJ2_checkIndex_2214a_J2_length_9d52b
set_option maxRecDepth 20000 in
theorem ggJ2_checkIndex_2214a_J0_checkIndex_df160 : GoodIn wsJ2_checkIndex_2214a wsJ0_checkIndex_df160 := goodIn_r _ [8, 9, 10, 11, 12, 13] (by decide +kernel) (by decide +kernel)
set_option maxRecDepth 20000 in
theorem gJ2_checkIndex_2214a_J0_checkIndex_df160 : GoodIn wsJ2_checkIndex_2214a (va_wsS RJ2 414 yJ0_checkIndex_df160 wsJ0_checkIndex_df160) := goodIn_app (goodIn_of _ (by decide +kernel)) ggJ2_checkIndex_2214a_J0_checkIndex_df160
theorem dJ2_checkIndex_2214a_0 : decode cJ2_checkIndex_2214a 0 = .ok (.iload_n 0, 1) := by decide +kernel
theorem dJ2_checkIndex_2214a_1 : decode cJ2_checkIndex_2214a 1 = .ok (.aload_n 1, 1) := by decide +kernel
theorem dJ2_checkIndex_2214a_2 : decode cJ2_checkIndex_2214a 2 = .ok (.invokestatic 48, 3) := by decide +kernel
theorem dJ2_checkIndex_2214a_5 : decode cJ2_checkIndex_2214a 5 = .ok (.invokestatic 414, 3) := by decide +kernel
theorem dJ2_checkIndex_2214a_8 : decode cJ2_checkIndex_2214a 8 = .ok (.return_, 1) := by decide +kernel
theorem dJ3_checkIndex_8e157_0 : decode cJ3_checkIndex_8e157 0 = .ok (.iload_n 0, 1) := by decide +kernel
theorem dJ3_checkIndex_8e157_1 : decode cJ3_checkIndex_8e157 1 = .ok (.ifCond .lt 8, 3) := by decide +kernel
theorem dJ3_checkIndex_8e157_4 : decode cJ3_checkIndex_8e157 4 = .ok (.iload_n 0, 1) := by decide +kernel
theorem dJ3_checkIndex_8e157_5 : decode cJ3_checkIndex_8e157 5 = .ok (.iload_n 1, 1) := by decide +kernel
theorem dJ3_checkIndex_8e157_6 : decode cJ3_checkIndex_8e157 6 = .ok (.if_icmp .lt 10, 3) := by decide +kernel
theorem dJ3_checkIndex_8e157_9 : decode cJ3_checkIndex_8e157 9 = .ok (.aload_n 2, 1) := by decide +kernel
theorem dJ3_checkIndex_8e157_10 : decode cJ3_checkIndex_8e157 10 = .ok (.iload_n 0, 1) := by decide +kernel
theorem dJ3_checkIndex_8e157_11 : decode cJ3_checkIndex_8e157 11 = .ok (.iload_n 1, 1) := by decide +kernel
theorem dJ3_checkIndex_8e157_12 : decode cJ3_checkIndex_8e157 12 = .ok (.invokestatic 95, 3) := by decide +kernel
theorem dJ3_checkIndex_8e157_15 : decode cJ3_checkIndex_8e157 15 = .ok (.athrow, 1) := by decide +kernel
theorem dJ3_checkIndex_8e157_16 : decode cJ3_checkIndex_8e157 16 = .ok (.iload_n 0, 1) := by decide +kernel
theorem dJ3_checkIndex_8e157_17 : decode cJ3_checkIndex_8e157 17 = .ok (.ireturn, 1) := by decide +kernel
set_option maxRecDepth 20000 in
theorem ggL_law_X5_init : GoodIn wsL_law wsX5_init := goodIn_r _ [8, 9, 10, 11, 12, 13, 14, 15, 16, 17, 18, 19, 20, 21, 22, 23, 24, 25, 26, 27, 28, 29, 30, 31, 32, 33, 34, 35, 36, 37, 38, 39, 40, 41, 42, 43, 44, 45, 46, 47, 48, 49, 50, 51, 52, 53, 54, 55, 56, 57, 58, 59, 60, 61, 62, 63, 64, 65, 66, 67, 68, 69, 70, 71, 72, 73, 74, 75, 76, 77, 78, 79, 80, 81, 82, 83, 84, 85, 86, 87, 88, 89, 90, 91, 92, 93, 94, 95, 96, 97, 98, 99, 100, 101, 102, 103, 104, 105, 106, 107, 108, 109, 110, 111, 112, 113, 114, 115, 116, 117, 118, 119, 120, 121, 122, 123, 124, 125, 126, 127, 128, 129, 130, 131, 132, 133, 134, 135, 136, 137, 138, 139, 140, 141, 142, 143, 144, 145, 146, 147, 148, 149, 150, 151, 152, 153, 154, 155, 156, 157, 158, 159, 160, 161, 162, 163, 164, 165, 166, 167, 168, 169, 170, 171, 172, 173, 2, 174, 175, 176, 177, 178, 179, 180, 181, 182, 183, 184, 786, 787, 788, 754, 755, 756, 757, 758, 759, 760, 761, 762, 789, 790, 791, 792, 793, 794, 795, 796, 797, 798, 799, 800, 801, 802, 803, 804, 805, 806, 807, 808, 809, 810, 811, 812, 813, 814, 815, 816, 817, 818, 819, 820, 821, 822] (by decide +kernel) (by decide +kernel)
set_option maxRecDepth 20000 in
theorem gL_law_X5_init : GoodIn wsL_law (wsX5_init) := ggL_law_X5_init
set_option maxRecDepth 20000 in
theorem ggL_law_X6_init : GoodIn wsL_law wsX6_init := goodIn_r _ [187, 188, 10, 11, 36, 189, 190, 191, 192, 193, 194, 195, 196, 197, 198, 199, 200, 201, 202, 203, 204, 5, 205, 206, 207, 208, 209, 210, 211, 212, 213, 214, 215, 216, 217, 218, 219, 220, 221, 222, 223, 763, 764, 765, 766, 767, 768, 769, 770, 771, 772, 773, 774, 775, 776, 777, 778, 779, 780, 781, 782, 783, 784, 785] (by decide +kernel) (by decide +kernel)
set_option maxRecDepth 20000 in
theorem gL_law_X6_init : GoodIn wsL_law (wsX6_init) := ggL_law_X6_init
set_option maxRecDepth 20000 in
theorem ggL_law_X5_write : GoodIn wsL_law wsX5_write := goodIn_r _ [227, 15, 138, 14, 139, 140, 39, 37, 754, 755, 756, 757, 758, 759, 760, 761, 762, 786, 787, 788] (by decide +kernel) (by decide +kernel)
set_option maxRecDepth 20000 in
theorem gL_law_X5_write : GoodIn wsL_law (wsV RL 13 RX5 yX5_write wsX5_write) := goodIn_app (goodIn_of _ (by decide +kernel)) ggL_law_X5_write
set_option maxRecDepth 20000 in
theorem ggL_law_X6_write : GoodIn wsL_law wsX6_write := goodIn_r _ [231, 232, 189, 763, 764, 765, 766, 767, 768, 769, 770, 771, 772, 773, 774, 775, 776, 777, 778, 779, 780, 781, 782, 783, 784, 785] (by decide +kernel) (by decide +kernel)
set_option maxRecDepth 20000 in
theorem gL_law_X6_write : GoodIn wsL_law (wsV RL 17 RX6 yX6_write wsX6_write) := goodIn_app (goodIn_of _ (by decide +kernel)) ggL_law_X6_write
set_option maxRecDepth 20000 in
theorem ggL_law_X5_wipe : GoodIn wsL_law wsX5_wipe := goodIn_r _ [236, 15, 182, 14, 183, 184, 39, 754, 755, 756, 757, 758, 759, 760, 761, 762, 786, 787, 788] (by decide +kernel) (by decide +kernel)
set_option maxRecDepth 20000 in
theorem gL_law_X5_wipe : GoodIn wsL_law (wsV RL 18 RX5 yX5_wipe wsX5_wipe) := goodIn_app (goodIn_of _ (by decide +kernel)) ggL_law_X5_wipe
set_option maxRecDepth 20000 in
theorem ggL_law_X6_wipe : GoodIn wsL_law wsX6_wipe := goodIn_r _ [240, 232, 763, 764, 765, 766, 767, 768, 769, 770, 771, 772, 773, 774, 775, 776, 777, 778, 779, 780, 781, 782, 783, 784, 785] (by decide +kernel) (by decide +kernel)
set_option maxRecDepth 20000 in
theorem gL_law_X6_wipe : GoodIn wsL_law (wsV RL 22 RX6 yX6_wipe wsX6_wipe) := goodIn_app (goodIn_of _ (by decide +kernel)) ggL_law_X6_wipe
set_option maxRecDepth 20000 in
theorem ggL_law_X5_fault : GoodIn wsL_law wsX5_fault := goodIn_r _ [244, 15, 20, 141, 14, 142, 143, 39, 37, 144, 18, 145, 146, 43, 47, 49, 52, 147, 148, 149, 150, 151, 152, 153, 154, 38, 155, 156, 157, 158, 159, 160, 161, 44, 45, 46, 162, 163, 164, 48, 165, 166, 167, 50, 51, 168, 169, 170, 754, 755, 756, 757, 758, 759, 760, 761, 762, 786, 787, 788, 789, 790, 791, 792, 793, 794, 795, 796, 797, 798] (by decide +kernel) (by decide +kernel)
set_option maxRecDepth 20000 in
theorem gL_law_X5_fault : GoodIn wsL_law (wsV RL 23 RX5 yX5_fault wsX5_fault) := goodIn_app (goodIn_of _ (by decide +kernel)) ggL_law_X5_fault
set_option maxRecDepth 20000 in
theorem ggL_law_X6_fault : GoodIn wsL_law wsX6_fault := goodIn_r _ [248, 249, 250, 251, 5, 252, 232, 189, 253, 202, 203, 204, 205, 206, 201, 207, 200, 254, 255, 256, 257, 258, 259, 260, 261, 262, 263, 264, 265, 266, 267, 268, 269, 270, 271, 272, 273, 274, 275, 276, 277, 208, 209, 210, 211, 197, 278, 279, 280, 281, 198, 282, 283, 284, 285, 199, 212, 213, 214, 215, 286, 287, 288, 289, 290, 291, 292, 293, 294, 295, 763, 764, 765, 766, 767, 768, 769, 770, 771, 772, 773, 774, 775, 776, 777, 778, 779, 780, 781, 782, 783, 784, 785] (by decide +kernel) (by decide +kernel)
set_option maxRecDepth 20000 in
theorem gL_law_X6_fault : GoodIn wsL_law (wsV RL 26 RX6 yX6_fault wsX6_fault) := goodIn_app (goodIn_of _ (by decide +kernel)) ggL_law_X6_fault
set_option maxRecDepth 20000 in
theorem ggL_law_X5_lay : GoodIn wsL_law wsX5_lay := goodIn_r _ [299, 15, 20, 19, 141, 14, 142, 143, 39, 37, 144, 18, 145, 146, 43, 47, 49, 52, 147, 148, 149, 150, 151, 152, 153, 154, 38, 155, 156, 157, 158, 159, 160, 161, 44, 45, 46, 162, 163, 164, 48, 165, 166, 167, 50, 51, 168, 169, 170, 300, 301, 302, 303, 304, 305, 306, 171, 172, 173, 2, 174, 27, 24, 175, 26, 176, 177, 56, 178, 57, 58, 59, 60, 61, 62, 63, 64, 68, 179, 67, 180, 181, 72, 73, 74, 754, 755, 756, 757, 758, 759, 760, 761, 762, 789, 790, 791, 792, 793, 794, 795, 796, 797, 798, 786, 787, 788, 799, 800, 801, 802, 803, 804, 805, 806, 807, 808, 818, 819, 820, 821, 822] (by decide +kernel) (by decide +kernel)
set_option maxRecDepth 20000 in
theorem gL_law_X5_lay : GoodIn wsL_law (wsV RL 27 RX5 yX5_lay wsX5_lay) := goodIn_app (goodIn_of _ (by decide +kernel)) ggL_law_X5_lay
set_option maxRecDepth 20000 in
theorem ggL_law_X6_lay : GoodIn wsL_law wsX6_lay := goodIn_r _ [310, 206, 207, 220, 249, 250, 251, 5, 252, 232, 189, 253, 202, 203, 204, 205, 201, 200, 254, 255, 256, 257, 258, 259, 260, 261, 262, 263, 264, 265, 266, 267, 268, 269, 270, 271, 272, 273, 274, 275, 276, 277, 208, 209, 210, 211, 197, 278, 279, 280, 281, 198, 282, 283, 284, 285, 199, 212, 213, 214, 215, 286, 287, 288, 289, 290, 291, 292, 293, 294, 295, 311, 312, 313, 314, 216, 217, 218, 219, 221, 222, 194, 190, 191, 192, 193, 223, 763, 764, 765, 766, 767, 768, 769, 770, 771, 772, 773, 774, 775, 776, 777, 778, 779, 780, 781, 782, 783, 784, 785] (by decide +kernel) (by decide +kernel)
set_option maxRecDepth 20000 in
theorem gL_law_X6_lay : GoodIn wsL_law (wsV RL 30 RX6 yX6_lay wsX6_lay) := goodIn_app (goodIn_of _ (by decide +kernel)) ggL_law_X6_lay
set_option maxRecDepth 20000 in
theorem ggL_law_X5_mould : GoodIn wsL_law wsX5_mould := goodIn_r _ [318, 319, 320, 2, 321, 322, 323, 324, 325, 27, 326, 327, 328, 329, 23, 22, 24, 330, 331, 332, 333, 334, 26, 335, 336, 56, 178, 148, 149, 150, 57, 58, 59, 60, 61, 62, 63, 64, 68, 337, 67, 338, 339, 72, 73, 74, 75, 340, 76, 341, 342, 343, 344, 754, 755, 756, 757, 758, 759, 760, 761, 762, 799, 800, 801, 802, 803, 804, 805, 806, 807, 808, 818, 819, 820, 821, 822] (by decide +kernel) (by decide +kernel)
set_option maxRecDepth 20000 in
theorem gL_law_X5_mould : GoodIn wsL_law (wsV RL 31 RX5 yX5_mould wsX5_mould) := goodIn_app (goodIn_of _ (by decide +kernel)) ggL_law_X5_mould
set_option maxRecDepth 20000 in
theorem ggL_law_X6_mould : GoodIn wsL_law wsX6_mould := goodIn_r _ [348, 194, 271, 272, 5, 273, 349, 350, 351, 352, 223, 195, 763, 764, 765, 766, 767, 768, 769, 770, 771, 772, 773, 774, 775, 776, 777, 778, 779, 780, 781, 782, 783, 784, 785] (by decide +kernel) (by decide +kernel)
set_option maxRecDepth 20000 in
theorem gL_law_X6_mould : GoodIn wsL_law (wsV RL 34 RX6 yX6_mould wsX6_mould) := goodIn_app (goodIn_of _ (by decide +kernel)) ggL_law_X6_mould
set_option maxRecDepth 20000 in
theorem ggL_law_X5_core : GoodIn wsL_law wsX5_core := goodIn_r _ [356, 27, 357, 358, 359, 2, 360, 19, 319, 320, 321, 361, 362, 363, 364, 365, 26, 366, 367, 60, 368, 369, 370, 371, 372, 373, 374, 375, 326, 327, 328, 329, 23, 22, 24, 330, 331, 332, 333, 334, 335, 336, 56, 178, 148, 149, 150, 57, 58, 59, 61, 62, 63, 64, 68, 337, 67, 338, 339, 72, 73, 74, 75, 340, 76, 376, 377, 378, 379, 380, 381, 382, 754, 755, 756, 757, 758, 759, 760, 761, 762, 799, 800, 801, 802, 803, 804, 805, 806, 807, 808, 789, 790, 791, 792, 793, 794, 795, 796, 797, 798, 818, 819, 820, 821, 822] (by decide +kernel) (by decide +kernel)
set_option maxRecDepth 20000 in
theorem gL_law_X5_core : GoodIn wsL_law (wsV RL 35 RX5 yX5_core wsX5_core) := goodIn_app (goodIn_of _ (by decide +kernel)) ggL_law_X5_core
set_option maxRecDepth 20000 in
theorem ggL_law_X6_core : GoodIn wsL_law wsX6_core := goodIn_r _ [386, 194, 387, 388, 389, 5, 390, 221, 271, 272, 273, 391, 392, 393, 394, 192, 349, 350, 351, 352, 223, 195, 395, 396, 397, 763, 764, 765, 766, 767, 768, 769, 770, 771, 772, 773, 774, 775, 776, 777, 778, 779, 780, 781, 782, 783, 784, 785] (by decide +kernel) (by decide +kernel)
set_option maxRecDepth 20000 in
theorem gL_law_X6_core : GoodIn wsL_law (wsV RL 39 RX6 yX6_core wsX6_core) := goodIn_app (goodIn_of _ (by decide +kernel)) ggL_law_X6_core
set_option maxRecDepth 20000 in
theorem ggL_law_X5_against : GoodIn wsL_law wsX5_against := goodIn_r _ [401, 357, 358, 359, 2, 360, 19, 319, 320, 321, 361, 362, 363, 364, 27, 365, 26, 366, 367, 60, 368, 369, 370, 371, 372, 373, 374, 375, 754, 755, 756, 757, 758, 759, 760, 761, 762, 789, 790, 791, 792, 793, 794, 795, 796, 797, 798, 799, 800, 801, 802, 803, 804, 805, 806, 807, 808] (by decide +kernel) (by decide +kernel)
set_option maxRecDepth 20000 in
theorem gL_law_X5_against : GoodIn wsL_law (wsV RL 40 RX5 yX5_against wsX5_against) := goodIn_app (goodIn_of _ (by decide +kernel)) ggL_law_X5_against
set_option maxRecDepth 20000 in
theorem ggL_law_X6_against : GoodIn wsL_law wsX6_against := goodIn_r _ [405, 387, 388, 389, 5, 390, 221, 271, 272, 273, 391, 392, 393, 394, 194, 192, 763, 764, 765, 766, 767, 768, 769, 770, 771, 772, 773, 774, 775, 776, 777, 778, 779, 780, 781, 782, 783, 784, 785] (by decide +kernel) (by decide +kernel)
set_option maxRecDepth 20000 in
theorem gL_law_X6_against : GoodIn wsL_law (wsV RL 43 RX6 yX6_against wsX6_against) := goodIn_app (goodIn_of _ (by decide +kernel)) ggL_law_X6_against
set_option maxRecDepth 20000 in
theorem ggL_law_X5_drag : GoodIn wsL_law wsX5_drag := goodIn_r _ [409, 27, 410, 411, 412, 2, 413, 19, 326, 327, 328, 329, 23, 22, 24, 330, 331, 332, 333, 334, 26, 335, 336, 56, 178, 148, 149, 150, 57, 58, 59, 60, 61, 62, 63, 64, 68, 337, 67, 338, 339, 72, 73, 74, 75, 340, 76, 754, 755, 756, 757, 758, 759, 760, 761, 762, 799, 800, 801, 802, 803, 804, 805, 806, 807, 808, 789, 790, 791, 792, 793, 794, 795, 796, 797, 798, 818, 819, 820, 821, 822] (by decide +kernel) (by decide +kernel)
set_option maxRecDepth 20000 in
theorem gL_law_X5_drag : GoodIn wsL_law (wsV RL 44 RX5 yX5_drag wsX5_drag) := goodIn_app (goodIn_of _ (by decide +kernel)) ggL_law_X5_drag
set_option maxRecDepth 20000 in
theorem ggL_law_X6_drag : GoodIn wsL_law wsX6_drag := goodIn_r _ [417, 418, 419, 420, 5, 421, 220, 271, 272, 273, 422, 423, 424, 425, 194, 349, 350, 351, 352, 223, 195, 763, 764, 765, 766, 767, 768, 769, 770, 771, 772, 773, 774, 775, 776, 777, 778, 779, 780, 781, 782, 783, 784, 785] (by decide +kernel) (by decide +kernel)
set_option maxRecDepth 20000 in
theorem gL_law_X6_drag : GoodIn wsL_law (wsV RL 47 RX6 yX6_drag wsX6_drag) := goodIn_app (goodIn_of _ (by decide +kernel)) ggL_law_X6_drag
set_option maxRecDepth 20000 in
theorem ggL_law_X5_speed : GoodIn wsL_law wsX5_speed := goodIn_r _ [429, 19, 27, 326, 327, 328, 2, 329, 23, 22, 24, 330, 331, 332, 333, 334, 26, 335, 336, 56, 178, 148, 149, 150, 57, 58, 59, 60, 61, 62, 63, 64, 68, 337, 67, 338, 339, 72, 73, 74, 75, 340, 76, 754, 755, 756, 757, 758, 759, 760, 761, 762, 789, 790, 791, 792, 793, 794, 795, 796, 797, 798, 799, 800, 801, 802, 803, 804, 805, 806, 807, 808, 818, 819, 820, 821, 822] (by decide +kernel) (by decide +kernel)
set_option maxRecDepth 20000 in
theorem gL_law_X5_speed : GoodIn wsL_law (wsV RL 48 RX5 yX5_speed wsX5_speed) := goodIn_app (goodIn_of _ (by decide +kernel)) ggL_law_X5_speed
set_option maxRecDepth 20000 in
theorem ggL_law_X6_speed : GoodIn wsL_law wsX6_speed := goodIn_r _ [433, 222, 271, 272, 5, 273, 422, 423, 424, 425, 194, 349, 350, 351, 352, 223, 195, 763, 764, 765, 766, 767, 768, 769, 770, 771, 772, 773, 774, 775, 776, 777, 778, 779, 780, 781, 782, 783, 784, 785] (by decide +kernel) (by decide +kernel)
set_option maxRecDepth 20000 in
theorem gL_law_X6_speed : GoodIn wsL_law (wsV RL 51 RX6 yX6_speed wsX6_speed) := goodIn_app (goodIn_of _ (by decide +kernel)) ggL_law_X6_speed
set_option maxRecDepth 20000 in
theorem ggL_law_X5_tell : GoodIn wsL_law wsX5_tell := goodIn_r _ [437, 438, 439, 27, 326, 327, 328, 2, 329, 23, 22, 24, 330, 331, 332, 333, 334, 26, 335, 336, 56, 178, 148, 149, 150, 57, 58, 59, 60, 61, 62, 63, 64, 68, 337, 67, 338, 339, 72, 73, 74, 75, 340, 76, 754, 755, 756, 757, 758, 759, 760, 761, 762, 799, 800, 801, 802, 803, 804, 805, 806, 807, 808, 818, 819, 820, 821, 822] (by decide +kernel) (by decide +kernel)
set_option maxRecDepth 20000 in
theorem gL_law_X5_tell : GoodIn wsL_law (wsV RL 52 RX5 yX5_tell wsX5_tell) := goodIn_app (goodIn_of _ (by decide +kernel)) ggL_law_X5_tell
set_option maxRecDepth 20000 in
theorem ggL_law_X6_tell : GoodIn wsL_law wsX6_tell := goodIn_r _ [443, 271, 272, 5, 273, 290, 291, 292, 293, 294, 295, 422, 423, 424, 425, 194, 349, 350, 351, 352, 223, 195, 763, 764, 765, 766, 767, 768, 769, 770, 771, 772, 773, 774, 775, 776, 777, 778, 779, 780, 781, 782, 783, 784, 785] (by decide +kernel) (by decide +kernel)
set_option maxRecDepth 20000 in
theorem gL_law_X6_tell : GoodIn wsL_law (wsV RL 55 RX6 yX6_tell wsX6_tell) := goodIn_app (goodIn_of _ (by decide +kernel)) ggL_law_X6_tell
set_option maxRecDepth 20000 in
theorem ggL_law_X5_shoot : GoodIn wsL_law wsX5_shoot := goodIn_r _ [447, 27, 29, 19, 448, 449, 450, 2, 451, 376, 377, 378, 379, 380, 381, 382, 326, 327, 328, 329, 23, 22, 24, 330, 331, 332, 333, 334, 26, 335, 336, 56, 178, 148, 149, 150, 57, 58, 59, 60, 61, 62, 63, 64, 68, 337, 67, 338, 339, 72, 73, 74, 75, 340, 76, 452, 31, 453, 454, 87, 455, 456, 457, 458, 80, 81, 82, 83, 84, 86, 88, 459, 460, 461, 462, 463, 464, 465, 466, 85, 467, 468, 469, 470, 471, 472, 473, 474, 475, 476, 477, 478, 479, 480, 481, 482, 483, 484, 485, 486, 487, 488, 489, 490, 491, 492, 493, 494, 495, 496, 497, 754, 755, 756, 757, 758, 759, 760, 761, 762, 799, 800, 801, 802, 803, 804, 805, 806, 807, 808, 789, 790, 791, 792, 793, 794, 795, 796, 797, 798, 818, 819, 820, 821, 822, 809, 810, 811, 812, 813, 814, 815, 816, 817] (by decide +kernel) (by decide +kernel)
set_option maxRecDepth 20000 in
theorem gL_law_X5_shoot : GoodIn wsL_law (wsV RL 56 RX5 yX5_shoot wsX5_shoot) := goodIn_app (goodIn_of _ (by decide +kernel)) ggL_law_X5_shoot
set_option maxRecDepth 20000 in
theorem ggL_law_X6_shoot : GoodIn wsL_law wsX6_shoot := goodIn_r _ [501, 194, 196, 502, 503, 504, 5, 505, 221, 349, 350, 351, 352, 223, 195, 506, 507, 508, 509, 510, 220, 511, 512, 513, 514, 190, 515, 516, 517, 518, 222, 193, 519, 520, 521, 522, 523, 524, 525, 526, 527, 528, 529, 530, 531, 532, 533, 534, 191, 763, 764, 765, 766, 767, 768, 769, 770, 771, 772, 773, 774, 775, 776, 777, 778, 779, 780, 781, 782, 783, 784, 785] (by decide +kernel) (by decide +kernel)
set_option maxRecDepth 20000 in
theorem gL_law_X6_shoot : GoodIn wsL_law (wsV RL 59 RX6 yX6_shoot wsX6_shoot) := goodIn_app (goodIn_of _ (by decide +kernel)) ggL_law_X6_shoot
set_option maxRecDepth 20000 in
theorem ggL_law_X5_waitCool : GoodIn wsL_law wsX5_waitCool := goodIn_r _ [538, 27, 326, 327, 328, 2, 329, 23, 22, 24, 330, 331, 332, 333, 334, 26, 335, 336, 56, 178, 148, 149, 150, 57, 58, 59, 60, 61, 62, 63, 64, 68, 337, 67, 338, 339, 72, 73, 74, 75, 340, 76, 539, 540, 541, 542, 543, 544, 545, 546, 29, 547, 548, 549, 550, 754, 755, 756, 757, 758, 759, 760, 761, 762, 799, 800, 801, 802, 803, 804, 805, 806, 807, 808, 809, 810, 811, 812, 813, 814, 815, 816, 817, 818, 819, 820, 821, 822] (by decide +kernel) (by decide +kernel)
set_option maxRecDepth 20000 in
theorem gL_law_X5_waitCool : GoodIn wsL_law (wsV RL 60 RX5 yX5_waitCool wsX5_waitCool) := goodIn_app (goodIn_of _ (by decide +kernel)) ggL_law_X5_waitCool
set_option maxRecDepth 20000 in
theorem ggL_law_X6_waitCool : GoodIn wsL_law wsX6_waitCool := goodIn_r _ [554, 194, 349, 350, 351, 5, 352, 223, 195, 763, 764, 765, 766, 767, 768, 769, 770, 771, 772, 773, 774, 775, 776, 777, 778, 779, 780, 781, 782, 783, 784, 785] (by decide +kernel) (by decide +kernel)
set_option maxRecDepth 20000 in
theorem gL_law_X6_waitCool : GoodIn wsL_law (wsV RL 63 RX6 yX6_waitCool wsX6_waitCool) := goodIn_app (goodIn_of _ (by decide +kernel)) ggL_law_X6_waitCool
set_option maxRecDepth 20000 in
theorem ggL_law_X5_undo : GoodIn wsL_law wsX5_undo := goodIn_r _ [558, 24, 23, 22, 27, 754, 755, 756, 757, 758, 759, 760, 761, 762] (by decide +kernel) (by decide +kernel)
set_option maxRecDepth 20000 in
theorem gL_law_X5_undo : GoodIn wsL_law (wsV RL 64 RX5 yX5_undo wsX5_undo) := goodIn_app (goodIn_of _ (by decide +kernel)) ggL_law_X5_undo
set_option maxRecDepth 20000 in
theorem ggL_law_X6_undo : GoodIn wsL_law wsX6_undo := goodIn_r _ [562, 223, 194, 195, 763, 764, 765, 766, 767, 768, 769, 770, 771, 772, 773, 774, 775, 776, 777, 778, 779, 780, 781, 782, 783, 784, 785] (by decide +kernel) (by decide +kernel)
set_option maxRecDepth 20000 in
theorem gL_law_X6_undo : GoodIn wsL_law (wsV RL 67 RX6 yX6_undo wsX6_undo) := goodIn_app (goodIn_of _ (by decide +kernel)) ggL_law_X6_undo
set_option maxRecDepth 20000 in
theorem ggL_law_X5_teach : GoodIn wsL_law wsX5_teach := goodIn_r _ [566, 19, 27, 567, 568, 569, 2, 570, 539, 540, 541, 542, 330, 331, 332, 333, 543, 544, 545, 546, 29, 547, 548, 549, 550, 571, 31, 572, 573, 80, 326, 327, 328, 329, 23, 22, 24, 334, 26, 335, 336, 56, 178, 148, 149, 150, 57, 58, 59, 60, 61, 62, 63, 64, 68, 337, 67, 338, 339, 72, 73, 74, 75, 340, 76, 574, 575, 576, 577, 578, 465, 466, 754, 755, 756, 757, 758, 759, 760, 761, 762, 799, 800, 801, 802, 803, 804, 805, 806, 807, 808, 818, 819, 820, 821, 822, 789, 790, 791, 792, 793, 794, 795, 796, 797, 798, 809, 810, 811, 812, 813, 814, 815, 816, 817] (by decide +kernel) (by decide +kernel)
set_option maxRecDepth 20000 in
theorem gL_law_X5_teach : GoodIn wsL_law (wsV RL 68 RX5 yX5_teach wsX5_teach) := goodIn_app (goodIn_of _ (by decide +kernel)) ggL_law_X5_teach
set_option maxRecDepth 20000 in
theorem ggL_law_X6_teach : GoodIn wsL_law wsX6_teach := goodIn_r _ [582, 194, 583, 584, 585, 5, 586, 271, 272, 273, 587, 588, 589, 590, 220, 591, 592, 593, 594, 190, 349, 350, 351, 352, 223, 195, 763, 764, 765, 766, 767, 768, 769, 770, 771, 772, 773, 774, 775, 776, 777, 778, 779, 780, 781, 782, 783, 784, 785] (by decide +kernel) (by decide +kernel)
set_option maxRecDepth 20000 in
theorem gL_law_X6_teach : GoodIn wsL_law (wsV RL 71 RX6 yX6_teach wsX6_teach) := goodIn_app (goodIn_of _ (by decide +kernel)) ggL_law_X6_teach
set_option maxRecDepth 20000 in
theorem ggL_law_X5_forget : GoodIn wsL_law wsX5_forget := goodIn_r _ [598, 27, 326, 327, 328, 2, 329, 23, 22, 24, 330, 331, 332, 333, 334, 26, 335, 336, 56, 178, 148, 149, 150, 57, 58, 59, 60, 61, 62, 63, 64, 68, 337, 67, 338, 339, 72, 73, 74, 75, 340, 76, 179, 180, 181, 754, 755, 756, 757, 758, 759, 760, 761, 762, 799, 800, 801, 802, 803, 804, 805, 806, 807, 808, 818, 819, 820, 821, 822] (by decide +kernel) (by decide +kernel)
set_option maxRecDepth 20000 in
theorem gL_law_X5_forget : GoodIn wsL_law (wsV RL 72 RX5 yX5_forget wsX5_forget) := goodIn_app (goodIn_of _ (by decide +kernel)) ggL_law_X5_forget
set_option maxRecDepth 20000 in
theorem ggL_law_X6_forget : GoodIn wsL_law wsX6_forget := goodIn_r _ [602, 194, 349, 350, 351, 5, 352, 223, 195, 763, 764, 765, 766, 767, 768, 769, 770, 771, 772, 773, 774, 775, 776, 777, 778, 779, 780, 781, 782, 783, 784, 785] (by decide +kernel) (by decide +kernel)
set_option maxRecDepth 20000 in
theorem gL_law_X6_forget : GoodIn wsL_law (wsV RL 75 RX6 yX6_forget wsX6_forget) := goodIn_app (goodIn_of _ (by decide +kernel)) ggL_law_X6_forget
set_option maxRecDepth 20000 in
theorem ggL_law_X5_wide : GoodIn wsL_law wsX5_wide := goodIn_r _ [606, 27, 326, 327, 328, 2, 329, 23, 22, 24, 330, 331, 332, 333, 334, 26, 335, 336, 56, 178, 148, 149, 150, 57, 58, 59, 60, 61, 62, 63, 64, 68, 337, 67, 338, 339, 72, 73, 74, 75, 340, 76, 754, 755, 756, 757, 758, 759, 760, 761, 762, 799, 800, 801, 802, 803, 804, 805, 806, 807, 808, 818, 819, 820, 821, 822] (by decide +kernel) (by decide +kernel)
set_option maxRecDepth 20000 in
theorem gL_law_X5_wide : GoodIn wsL_law (wsV RL 76 RX5 yX5_wide wsX5_wide) := goodIn_app (goodIn_of _ (by decide +kernel)) ggL_law_X5_wide
set_option maxRecDepth 20000 in
theorem ggL_law_X6_wide : GoodIn wsL_law wsX6_wide := goodIn_r _ [610, 271, 272, 5, 273, 422, 423, 424, 425, 194, 349, 350, 351, 352, 223, 195, 763, 764, 765, 766, 767, 768, 769, 770, 771, 772, 773, 774, 775, 776, 777, 778, 779, 780, 781, 782, 783, 784, 785] (by decide +kernel) (by decide +kernel)
set_option maxRecDepth 20000 in
theorem gL_law_X6_wide : GoodIn wsL_law (wsV RL 79 RX6 yX6_wide wsX6_wide) := goodIn_app (goodIn_of _ (by decide +kernel)) ggL_law_X6_wide
set_option maxRecDepth 20000 in
theorem ggL_law_X5_band : GoodIn wsL_law wsX5_band := goodIn_r _ [614, 27, 615, 616, 2, 617, 319, 320, 321, 754, 755, 756, 757, 758, 759, 760, 761, 762, 799, 800, 801, 802, 803, 804, 805, 806, 807, 808, 818, 819, 820, 821, 822] (by decide +kernel) (by decide +kernel)
set_option maxRecDepth 20000 in
theorem gL_law_X5_band : GoodIn wsL_law (wsV RL 80 RX5 yX5_band wsX5_band) := goodIn_app (goodIn_of _ (by decide +kernel)) ggL_law_X5_band
set_option maxRecDepth 20000 in
theorem ggL_law_X6_band : GoodIn wsL_law wsX6_band := goodIn_r _ [621, 194, 271, 272, 5, 273, 763, 764, 765, 766, 767, 768, 769, 770, 771, 772, 773, 774, 775, 776, 777, 778, 779, 780, 781, 782, 783, 784, 785] (by decide +kernel) (by decide +kernel)
set_option maxRecDepth 20000 in
theorem gL_law_X6_band : GoodIn wsL_law (wsV RL 83 RX6 yX6_band wsX6_band) := goodIn_app (goodIn_of _ (by decide +kernel)) ggL_law_X6_band
set_option maxRecDepth 20000 in
theorem ggL_law_X5_shot : GoodIn wsL_law wsX5_shot := goodIn_r _ [625, 27, 567, 568, 569, 2, 570, 539, 540, 541, 542, 330, 331, 332, 333, 543, 544, 545, 546, 29, 547, 548, 549, 550, 626, 67, 627, 628, 75, 76, 629, 630, 631, 632, 19, 633, 31, 634, 635, 80, 636, 637, 638, 639, 640, 641, 72, 73, 74, 642, 643, 644, 645, 85, 86, 88, 84, 646, 647, 648, 649, 82, 463, 464, 465, 466, 650, 495, 496, 497, 87, 651, 652, 653, 654, 83, 754, 755, 756, 757, 758, 759, 760, 761, 762, 799, 800, 801, 802, 803, 804, 805, 806, 807, 808, 818, 819, 820, 821, 822, 809, 810, 811, 812, 813, 814, 815, 816, 817, 789, 790, 791, 792, 793, 794, 795, 796, 797, 798] (by decide +kernel) (by decide +kernel)
set_option maxRecDepth 20000 in
theorem gL_law_X5_shot : GoodIn wsL_law (wsV RL 84 RX5 yX5_shot wsX5_shot) := goodIn_app (goodIn_of _ (by decide +kernel)) ggL_law_X5_shot
set_option maxRecDepth 20000 in
theorem ggL_law_X6_shot : GoodIn wsL_law wsX6_shot := goodIn_r _ [658, 194, 583, 584, 585, 5, 586, 271, 272, 273, 659, 660, 661, 662, 663, 664, 665, 220, 666, 667, 668, 669, 190, 591, 592, 593, 594, 670, 671, 672, 673, 763, 764, 765, 766, 767, 768, 769, 770, 771, 772, 773, 774, 775, 776, 777, 778, 779, 780, 781, 782, 783, 784, 785] (by decide +kernel) (by decide +kernel)
set_option maxRecDepth 20000 in
theorem gL_law_X6_shot : GoodIn wsL_law (wsV RL 87 RX6 yX6_shot wsX6_shot) := goodIn_app (goodIn_of _ (by decide +kernel)) ggL_law_X6_shot
set_option maxRecDepth 20000 in
theorem ggL_law_X5_curve : GoodIn wsL_law wsX5_curve := goodIn_r _ [677, 567, 568, 569, 2, 570, 539, 540, 541, 542, 27, 330, 331, 332, 333, 615, 616, 617, 543, 544, 545, 546, 29, 547, 548, 549, 550, 809, 810, 811, 812, 813, 814, 815, 816, 817, 754, 755, 756, 757, 758, 759, 760, 761, 762, 799, 800, 801, 802, 803, 804, 805, 806, 807, 808] (by decide +kernel) (by decide +kernel)
set_option maxRecDepth 20000 in
theorem gL_law_X5_curve : GoodIn wsL_law (wsV RL 88 RX5 yX5_curve wsX5_curve) := goodIn_app (goodIn_of _ (by decide +kernel)) ggL_law_X5_curve
set_option maxRecDepth 20000 in
theorem ggL_law_X6_curve : GoodIn wsL_law wsX6_curve := goodIn_r _ [681, 194, 583, 584, 585, 5, 586, 271, 272, 273, 763, 764, 765, 766, 767, 768, 769, 770, 771, 772, 773, 774, 775, 776, 777, 778, 779, 780, 781, 782, 783, 784, 785] (by decide +kernel) (by decide +kernel)
set_option maxRecDepth 20000 in
theorem gL_law_X6_curve : GoodIn wsL_law (wsV RL 91 RX6 yX6_curve wsX6_curve) := goodIn_app (goodIn_of _ (by decide +kernel)) ggL_law_X6_curve
set_option maxRecDepth 20000 in
theorem ggL_law_X5_cavity : GoodIn wsL_law wsX5_cavity := goodIn_r _ [685, 19, 27, 410, 411, 412, 2, 413, 754, 755, 756, 757, 758, 759, 760, 761, 762, 789, 790, 791, 792, 793, 794, 795, 796, 797, 798, 799, 800, 801, 802, 803, 804, 805, 806, 807, 808] (by decide +kernel) (by decide +kernel)
set_option maxRecDepth 20000 in
theorem gL_law_X5_cavity : GoodIn wsL_law (wsV RL 92 RX5 yX5_cavity wsX5_cavity) := goodIn_app (goodIn_of _ (by decide +kernel)) ggL_law_X5_cavity
set_option maxRecDepth 20000 in
theorem ggL_law_X6_cavity : GoodIn wsL_law wsX6_cavity := goodIn_r _ [689, 190, 194, 191, 418, 419, 420, 5, 421, 220, 271, 272, 273, 763, 764, 765, 766, 767, 768, 769, 770, 771, 772, 773, 774, 775, 776, 777, 778, 779, 780, 781, 782, 783, 784, 785] (by decide +kernel) (by decide +kernel)
set_option maxRecDepth 20000 in
theorem gL_law_X6_cavity : GoodIn wsL_law (wsV RL 95 RX6 yX6_cavity wsX6_cavity) := goodIn_app (goodIn_of _ (by decide +kernel)) ggL_law_X6_cavity
set_option maxRecDepth 20000 in
theorem ggL_law_X5_filled : GoodIn wsL_law wsX5_filled := goodIn_r _ [693, 19, 694, 465, 332, 466, 567, 568, 569, 2, 570, 539, 540, 541, 542, 27, 330, 331, 333, 410, 411, 412, 413, 543, 544, 545, 546, 29, 547, 548, 549, 550, 809, 810, 811, 812, 813, 814, 815, 816, 817, 754, 755, 756, 757, 758, 759, 760, 761, 762, 789, 790, 791, 792, 793, 794, 795, 796, 797, 798, 799, 800, 801, 802, 803, 804, 805, 806, 807, 808] (by decide +kernel) (by decide +kernel)
set_option maxRecDepth 20000 in
theorem gL_law_X5_filled : GoodIn wsL_law (wsV RL 96 RX5 yX5_filled wsX5_filled) := goodIn_app (goodIn_of _ (by decide +kernel)) ggL_law_X5_filled
set_option maxRecDepth 20000 in
theorem ggL_law_X6_filled : GoodIn wsL_law wsX6_filled := goodIn_r _ [698, 194, 583, 584, 585, 5, 586, 271, 272, 273, 418, 419, 420, 421, 220, 591, 592, 593, 594, 190, 666, 667, 668, 669, 763, 764, 765, 766, 767, 768, 769, 770, 771, 772, 773, 774, 775, 776, 777, 778, 779, 780, 781, 782, 783, 784, 785] (by decide +kernel) (by decide +kernel)
set_option maxRecDepth 20000 in
theorem gL_law_X6_filled : GoodIn wsL_law (wsV RL 100 RX6 yX6_filled wsX6_filled) := goodIn_app (goodIn_of _ (by decide +kernel)) ggL_law_X6_filled
set_option maxRecDepth 20000 in
theorem ggL_law_X5_tried : GoodIn wsL_law wsX5_tried := goodIn_r _ [702, 32, 19, 27, 452, 31, 453, 454, 87, 455, 456, 457, 458, 80, 81, 82, 83, 84, 86, 88, 459, 460, 461, 462, 463, 331, 332, 333, 464, 465, 466, 85, 467, 468, 469, 470, 471, 472, 473, 474, 475, 476, 477, 478, 479, 480, 481, 482, 483, 484, 485, 486, 487, 488, 489, 490, 491, 492, 493, 494, 643, 644, 645, 646, 647, 648, 649, 650, 495, 496, 497, 651, 652, 653, 654, 754, 755, 756, 757, 758, 759, 760, 761, 762, 799, 800, 801, 802, 803, 804, 805, 806, 807, 808, 809, 810, 811, 812, 813, 814, 815, 816, 817, 789, 790, 791, 792, 793, 794, 795, 796, 797, 798] (by decide +kernel) (by decide +kernel)
set_option maxRecDepth 20000 in
theorem gL_law_X5_tried : GoodIn wsL_law (wsV RL 101 RX5 yX5_tried wsX5_tried) := goodIn_app (goodIn_of _ (by decide +kernel)) ggL_law_X5_tried
set_option maxRecDepth 20000 in
theorem ggL_law_X6_tried : GoodIn wsL_law wsX6_tried := goodIn_r _ [706, 196, 271, 272, 5, 273, 506, 507, 508, 509, 510, 194, 220, 511, 512, 513, 514, 190, 515, 516, 517, 518, 222, 193, 519, 520, 521, 522, 523, 524, 525, 526, 527, 528, 529, 530, 531, 532, 533, 534, 191, 659, 660, 661, 763, 764, 765, 766, 767, 768, 769, 770, 771, 772, 773, 774, 775, 776, 777, 778, 779, 780, 781, 782, 783, 784, 785] (by decide +kernel) (by decide +kernel)
set_option maxRecDepth 20000 in
theorem gL_law_X6_tried : GoodIn wsL_law (wsV RL 104 RX6 yX6_tried wsX6_tried) := goodIn_app (goodIn_of _ (by decide +kernel)) ggL_law_X6_tried
set_option maxRecDepth 20000 in
theorem ggL_law_X5_even : GoodIn wsL_law wsX5_even := goodIn_r _ [710, 319, 320, 2, 321, 711, 712, 713, 714, 32, 19, 27, 452, 31, 453, 454, 87, 455, 456, 457, 458, 80, 81, 82, 83, 84, 86, 88, 459, 460, 461, 462, 463, 331, 332, 333, 464, 465, 466, 85, 467, 468, 469, 470, 471, 472, 473, 474, 475, 476, 477, 478, 479, 480, 481, 482, 483, 484, 485, 486, 487, 488, 489, 490, 491, 492, 493, 494, 647, 648, 649, 754, 755, 756, 757, 758, 759, 760, 761, 762, 799, 800, 801, 802, 803, 804, 805, 806, 807, 808, 809, 810, 811, 812, 813, 814, 815, 816, 817, 789, 790, 791, 792, 793, 794, 795, 796, 797, 798] (by decide +kernel) (by decide +kernel)
set_option maxRecDepth 20000 in
theorem gL_law_X5_even : GoodIn wsL_law (wsV RL 105 RX5 yX5_even wsX5_even) := goodIn_app (goodIn_of _ (by decide +kernel)) ggL_law_X5_even
set_option maxRecDepth 20000 in
theorem ggL_law_X6_even : GoodIn wsL_law wsX6_even := goodIn_r _ [718, 196, 271, 272, 5, 273, 506, 507, 508, 509, 510, 194, 220, 511, 512, 513, 514, 190, 515, 516, 517, 518, 222, 193, 519, 520, 521, 522, 523, 524, 525, 526, 527, 528, 529, 530, 531, 532, 533, 534, 191, 763, 764, 765, 766, 767, 768, 769, 770, 771, 772, 773, 774, 775, 776, 777, 778, 779, 780, 781, 782, 783, 784, 785] (by decide +kernel) (by decide +kernel)
set_option maxRecDepth 20000 in
theorem gL_law_X6_even : GoodIn wsL_law (wsV RL 108 RX6 yX6_even wsX6_even) := goodIn_app (goodIn_of _ (by decide +kernel)) ggL_law_X6_even
set_option maxRecDepth 20000 in
theorem ggL_law_X5_earlier : GoodIn wsL_law wsX5_earlier := goodIn_r _ [722, 19, 357, 358, 359, 2, 360, 754, 755, 756, 757, 758, 759, 760, 761, 762, 789, 790, 791, 792, 793, 794, 795, 796, 797, 798] (by decide +kernel) (by decide +kernel)
set_option maxRecDepth 20000 in
theorem gL_law_X5_earlier : GoodIn wsL_law (wsV RL 109 RX5 yX5_earlier wsX5_earlier) := goodIn_app (goodIn_of _ (by decide +kernel)) ggL_law_X5_earlier
set_option maxRecDepth 20000 in
theorem ggL_law_X6_earlier : GoodIn wsL_law wsX6_earlier := goodIn_r _ [726, 192, 387, 388, 389, 5, 390, 221, 271, 272, 273, 763, 764, 765, 766, 767, 768, 769, 770, 771, 772, 773, 774, 775, 776, 777, 778, 779, 780, 781, 782, 783, 784, 785] (by decide +kernel) (by decide +kernel)
set_option maxRecDepth 20000 in
theorem gL_law_X6_earlier : GoodIn wsL_law (wsV RL 112 RX6 yX6_earlier wsX6_earlier) := goodIn_app (goodIn_of _ (by decide +kernel)) ggL_law_X6_earlier
set_option maxRecDepth 20000 in
theorem ggL_law_X5_order : GoodIn wsL_law wsX5_order := goodIn_r _ [730, 19, 731, 18, 732, 733, 47, 734, 735, 736, 737, 48, 754, 755, 756, 757, 758, 759, 760, 761, 762, 789, 790, 791, 792, 793, 794, 795, 796, 797, 798] (by decide +kernel) (by decide +kernel)
set_option maxRecDepth 20000 in
theorem gL_law_X5_order : GoodIn wsL_law (wsV RL 113 RX5 yX5_order wsX5_order) := goodIn_app (goodIn_of _ (by decide +kernel)) ggL_law_X5_order
set_option maxRecDepth 20000 in
theorem ggL_law_X6_order : GoodIn wsL_law wsX6_order := goodIn_r _ [741, 221, 192, 763, 764, 765, 766, 767, 768, 769, 770, 771, 772, 773, 774, 775, 776, 777, 778, 779, 780, 781, 782, 783, 784, 785] (by decide +kernel) (by decide +kernel)
set_option maxRecDepth 20000 in
theorem gL_law_X6_order : GoodIn wsL_law (wsV RL 116 RX6 yX6_order wsX6_order) := goodIn_app (goodIn_of _ (by decide +kernel)) ggL_law_X6_order
set_option maxRecDepth 20000 in
theorem ggL_law_X5_count : GoodIn wsL_law wsX5_count := goodIn_r _ [745, 19, 27, 24, 15, 376, 377, 378, 379, 380, 381, 382, 539, 540, 541, 2, 542, 330, 331, 332, 333, 746, 747, 748, 749, 543, 544, 545, 546, 29, 547, 548, 549, 550, 629, 630, 631, 632, 633, 31, 634, 635, 80, 636, 637, 638, 639, 67, 640, 641, 72, 73, 74, 642, 626, 627, 628, 75, 76, 448, 449, 450, 451, 754, 755, 756, 757, 758, 759, 760, 761, 762, 789, 790, 791, 792, 793, 794, 795, 796, 797, 798, 799, 800, 801, 802, 803, 804, 805, 806, 807, 808, 818, 819, 820, 821, 822, 786, 787, 788, 809, 810, 811, 812, 813, 814, 815, 816, 817] (by decide +kernel) (by decide +kernel)
set_option maxRecDepth 20000 in
theorem gL_law_X5_count : GoodIn wsL_law (wsV RL 117 RX5 yX5_count wsX5_count) := goodIn_app (goodIn_of _ (by decide +kernel)) ggL_law_X5_count
set_option maxRecDepth 20000 in
theorem ggL_law_X6_count : GoodIn wsL_law wsX6_count := goodIn_r _ [753, 220, 221, 222, 194, 223, 232, 395, 396, 5, 397, 662, 663, 664, 665, 666, 667, 668, 669, 190, 591, 592, 593, 594, 670, 671, 672, 673, 502, 503, 504, 505, 763, 764, 765, 766, 767, 768, 769, 770, 771, 772, 773, 774, 775, 776, 777, 778, 779, 780, 781, 782, 783, 784, 785] (by decide +kernel) (by decide +kernel)
set_option maxRecDepth 20000 in
theorem gL_law_X6_count : GoodIn wsL_law (wsV RL 120 RX6 yX6_count wsX6_count) := goodIn_app (goodIn_of _ (by decide +kernel)) ggL_law_X6_count
theorem dL_law_0 : decode cL_law 0 = .ok (.new 7, 3) := by decide +kernel
theorem dL_law_3 : decode cL_law 3 = .ok (.dup, 1) := by decide +kernel
theorem dL_law_4 : decode cL_law 4 = .ok (.invokespecial 9, 3) := by decide +kernel
theorem dL_law_7 : decode cL_law 7 = .ok (.astore_n 1, 1) := by decide +kernel
theorem dL_law_8 : decode cL_law 8 = .ok (.new 10, 3) := by decide +kernel
theorem dL_law_11 : decode cL_law 11 = .ok (.dup, 1) := by decide +kernel
theorem dL_law_12 : decode cL_law 12 = .ok (.invokespecial 12, 3) := by decide +kernel
theorem dL_law_15 : decode cL_law 15 = .ok (.astore_n 2, 1) := by decide +kernel
theorem dL_law_16 : decode cL_law 16 = .ok (.iconst 0, 1) := by decide +kernel
theorem dL_law_17 : decode cL_law 17 = .ok (.istore_n 3, 1) := by decide +kernel
theorem dL_law_18 : decode cL_law 18 = .ok (.iload_n 3, 1) := by decide +kernel
theorem dL_law_19 : decode cL_law 19 = .ok (.aload_n 0, 1) := by decide +kernel
theorem dL_law_20 : decode cL_law 20 = .ok (.arraylength, 1) := by decide +kernel
theorem dL_law_21 : decode cL_law 21 = .ok (.iconst 4, 1) := by decide +kernel
theorem dL_law_22 : decode cL_law 22 = .ok (.isub, 1) := by decide +kernel
theorem dL_law_23 : decode cL_law 23 = .ok (.if_icmp .gt 783, 3) := by decide +kernel
theorem dL_law_26 : decode cL_law 26 = .ok (.aload_n 0, 1) := by decide +kernel
theorem dL_law_27 : decode cL_law 27 = .ok (.iload_n 3, 1) := by decide +kernel
theorem dL_law_28 : decode cL_law 28 = .ok (.iaload, 1) := by decide +kernel
theorem dL_law_29 : decode cL_law 29 = .ok (.bipush 31, 2) := by decide +kernel
theorem dL_law_31 : decode cL_law 31 = .ok (.iand, 1) := by decide +kernel
theorem dL_law_32 : decode cL_law 32 = .ok (.tableswitch 768 0 25 #[120, 143, 156, 169, 182, 205, 238, 271, 304, 337, 370, 383, 396, 409, 432, 445, 468, 501, 534, 567, 600, 643, 676, 699, 722, 745], 120) := by decide +kernel
theorem dL_law_152 : decode cL_law 152 = .ok (.aload_n 1, 1) := by decide +kernel
theorem dL_law_153 : decode cL_law 153 = .ok (.aload_n 0, 1) := by decide +kernel
theorem dL_law_154 : decode cL_law 154 = .ok (.iload_n 3, 1) := by decide +kernel
theorem dL_law_155 : decode cL_law 155 = .ok (.iconst 1, 1) := by decide +kernel
theorem dL_law_156 : decode cL_law 156 = .ok (.iadd, 1) := by decide +kernel
theorem dL_law_157 : decode cL_law 157 = .ok (.iaload, 1) := by decide +kernel
theorem dL_law_158 : decode cL_law 158 = .ok (.invokevirtual 13, 3) := by decide +kernel
theorem dL_law_161 : decode cL_law 161 = .ok (.aload_n 2, 1) := by decide +kernel
theorem dL_law_162 : decode cL_law 162 = .ok (.aload_n 0, 1) := by decide +kernel
theorem dL_law_163 : decode cL_law 163 = .ok (.iload_n 3, 1) := by decide +kernel
theorem dL_law_164 : decode cL_law 164 = .ok (.iconst 1, 1) := by decide +kernel
theorem dL_law_165 : decode cL_law 165 = .ok (.iadd, 1) := by decide +kernel
theorem dL_law_166 : decode cL_law 166 = .ok (.iaload, 1) := by decide +kernel
theorem dL_law_167 : decode cL_law 167 = .ok (.invokevirtual 17, 3) := by decide +kernel
theorem dL_law_170 : decode cL_law 170 = .ok (.if_icmp .eq 630, 3) := by decide +kernel
theorem dL_law_173 : decode cL_law 173 = .ok (.iconst 0, 1) := by decide +kernel
theorem dL_law_174 : decode cL_law 174 = .ok (.ireturn, 1) := by decide +kernel
theorem dL_law_175 : decode cL_law 175 = .ok (.aload_n 1, 1) := by decide +kernel
theorem dL_law_176 : decode cL_law 176 = .ok (.invokevirtual 18, 3) := by decide +kernel
theorem dL_law_179 : decode cL_law 179 = .ok (.aload_n 2, 1) := by decide +kernel
theorem dL_law_180 : decode cL_law 180 = .ok (.invokevirtual 22, 3) := by decide +kernel
theorem dL_law_183 : decode cL_law 183 = .ok (.if_icmp .eq 617, 3) := by decide +kernel
theorem dL_law_186 : decode cL_law 186 = .ok (.iconst 0, 1) := by decide +kernel
theorem dL_law_187 : decode cL_law 187 = .ok (.ireturn, 1) := by decide +kernel
theorem dL_law_188 : decode cL_law 188 = .ok (.aload_n 1, 1) := by decide +kernel
theorem dL_law_189 : decode cL_law 189 = .ok (.invokevirtual 23, 3) := by decide +kernel
theorem dL_law_192 : decode cL_law 192 = .ok (.aload_n 2, 1) := by decide +kernel
theorem dL_law_193 : decode cL_law 193 = .ok (.invokevirtual 26, 3) := by decide +kernel
theorem dL_law_196 : decode cL_law 196 = .ok (.if_icmp .eq 604, 3) := by decide +kernel
theorem dL_law_199 : decode cL_law 199 = .ok (.iconst 0, 1) := by decide +kernel
theorem dL_law_200 : decode cL_law 200 = .ok (.ireturn, 1) := by decide +kernel
theorem dL_law_201 : decode cL_law 201 = .ok (.aload_n 1, 1) := by decide +kernel
theorem dL_law_202 : decode cL_law 202 = .ok (.invokevirtual 27, 3) := by decide +kernel
theorem dL_law_205 : decode cL_law 205 = .ok (.aload_n 2, 1) := by decide +kernel
theorem dL_law_206 : decode cL_law 206 = .ok (.invokevirtual 30, 3) := by decide +kernel
theorem dL_law_209 : decode cL_law 209 = .ok (.if_icmp .eq 591, 3) := by decide +kernel
theorem dL_law_212 : decode cL_law 212 = .ok (.iconst 0, 1) := by decide +kernel
theorem dL_law_213 : decode cL_law 213 = .ok (.ireturn, 1) := by decide +kernel
theorem dL_law_214 : decode cL_law 214 = .ok (.aload_n 1, 1) := by decide +kernel
theorem dL_law_215 : decode cL_law 215 = .ok (.aload_n 0, 1) := by decide +kernel
theorem dL_law_216 : decode cL_law 216 = .ok (.iload_n 3, 1) := by decide +kernel
theorem dL_law_217 : decode cL_law 217 = .ok (.iconst 1, 1) := by decide +kernel
theorem dL_law_218 : decode cL_law 218 = .ok (.iadd, 1) := by decide +kernel
theorem dL_law_219 : decode cL_law 219 = .ok (.iaload, 1) := by decide +kernel
theorem dL_law_220 : decode cL_law 220 = .ok (.invokevirtual 31, 3) := by decide +kernel
theorem dL_law_223 : decode cL_law 223 = .ok (.aload_n 2, 1) := by decide +kernel
theorem dL_law_224 : decode cL_law 224 = .ok (.aload_n 0, 1) := by decide +kernel
theorem dL_law_225 : decode cL_law 225 = .ok (.iload_n 3, 1) := by decide +kernel
theorem dL_law_226 : decode cL_law 226 = .ok (.iconst 1, 1) := by decide +kernel
theorem dL_law_227 : decode cL_law 227 = .ok (.iadd, 1) := by decide +kernel
theorem dL_law_228 : decode cL_law 228 = .ok (.iaload, 1) := by decide +kernel
theorem dL_law_229 : decode cL_law 229 = .ok (.invokevirtual 34, 3) := by decide +kernel
theorem dL_law_232 : decode cL_law 232 = .ok (.if_icmp .eq 568, 3) := by decide +kernel
theorem dL_law_235 : decode cL_law 235 = .ok (.iconst 0, 1) := by decide +kernel
theorem dL_law_236 : decode cL_law 236 = .ok (.ireturn, 1) := by decide +kernel
theorem dL_law_237 : decode cL_law 237 = .ok (.aload_n 1, 1) := by decide +kernel
theorem dL_law_238 : decode cL_law 238 = .ok (.aload_n 0, 1) := by decide +kernel
theorem dL_law_239 : decode cL_law 239 = .ok (.iload_n 3, 1) := by decide +kernel
theorem dL_law_240 : decode cL_law 240 = .ok (.iconst 1, 1) := by decide +kernel
theorem dL_law_241 : decode cL_law 241 = .ok (.iadd, 1) := by decide +kernel
theorem dL_law_242 : decode cL_law 242 = .ok (.iaload, 1) := by decide +kernel
theorem dL_law_243 : decode cL_law 243 = .ok (.aload_n 0, 1) := by decide +kernel
theorem dL_law_244 : decode cL_law 244 = .ok (.iload_n 3, 1) := by decide +kernel
theorem dL_law_245 : decode cL_law 245 = .ok (.iconst 2, 1) := by decide +kernel
theorem dL_law_246 : decode cL_law 246 = .ok (.iadd, 1) := by decide +kernel
theorem dL_law_247 : decode cL_law 247 = .ok (.iaload, 1) := by decide +kernel
theorem dL_law_248 : decode cL_law 248 = .ok (.invokevirtual 35, 3) := by decide +kernel
theorem dL_law_251 : decode cL_law 251 = .ok (.aload_n 2, 1) := by decide +kernel
theorem dL_law_252 : decode cL_law 252 = .ok (.aload_n 0, 1) := by decide +kernel
theorem dL_law_253 : decode cL_law 253 = .ok (.iload_n 3, 1) := by decide +kernel
theorem dL_law_254 : decode cL_law 254 = .ok (.iconst 1, 1) := by decide +kernel
theorem dL_law_255 : decode cL_law 255 = .ok (.iadd, 1) := by decide +kernel
theorem dL_law_256 : decode cL_law 256 = .ok (.iaload, 1) := by decide +kernel
theorem dL_law_257 : decode cL_law 257 = .ok (.aload_n 0, 1) := by decide +kernel
theorem dL_law_258 : decode cL_law 258 = .ok (.iload_n 3, 1) := by decide +kernel
theorem dL_law_259 : decode cL_law 259 = .ok (.iconst 2, 1) := by decide +kernel
theorem dL_law_260 : decode cL_law 260 = .ok (.iadd, 1) := by decide +kernel
theorem dL_law_261 : decode cL_law 261 = .ok (.iaload, 1) := by decide +kernel
theorem dL_law_262 : decode cL_law 262 = .ok (.invokevirtual 39, 3) := by decide +kernel
theorem dL_law_265 : decode cL_law 265 = .ok (.if_icmp .eq 535, 3) := by decide +kernel
theorem dL_law_268 : decode cL_law 268 = .ok (.iconst 0, 1) := by decide +kernel
theorem dL_law_269 : decode cL_law 269 = .ok (.ireturn, 1) := by decide +kernel
theorem dL_law_270 : decode cL_law 270 = .ok (.aload_n 1, 1) := by decide +kernel
theorem dL_law_271 : decode cL_law 271 = .ok (.aload_n 0, 1) := by decide +kernel
theorem dL_law_272 : decode cL_law 272 = .ok (.iload_n 3, 1) := by decide +kernel
theorem dL_law_273 : decode cL_law 273 = .ok (.iconst 1, 1) := by decide +kernel
theorem dL_law_274 : decode cL_law 274 = .ok (.iadd, 1) := by decide +kernel
theorem dL_law_275 : decode cL_law 275 = .ok (.iaload, 1) := by decide +kernel
theorem dL_law_276 : decode cL_law 276 = .ok (.aload_n 0, 1) := by decide +kernel
theorem dL_law_277 : decode cL_law 277 = .ok (.iload_n 3, 1) := by decide +kernel
theorem dL_law_278 : decode cL_law 278 = .ok (.iconst 2, 1) := by decide +kernel
theorem dL_law_279 : decode cL_law 279 = .ok (.iadd, 1) := by decide +kernel
theorem dL_law_280 : decode cL_law 280 = .ok (.iaload, 1) := by decide +kernel
theorem dL_law_281 : decode cL_law 281 = .ok (.invokevirtual 40, 3) := by decide +kernel
theorem dL_law_284 : decode cL_law 284 = .ok (.aload_n 2, 1) := by decide +kernel
theorem dL_law_285 : decode cL_law 285 = .ok (.aload_n 0, 1) := by decide +kernel
theorem dL_law_286 : decode cL_law 286 = .ok (.iload_n 3, 1) := by decide +kernel
theorem dL_law_287 : decode cL_law 287 = .ok (.iconst 1, 1) := by decide +kernel
theorem dL_law_288 : decode cL_law 288 = .ok (.iadd, 1) := by decide +kernel
theorem dL_law_289 : decode cL_law 289 = .ok (.iaload, 1) := by decide +kernel
theorem dL_law_290 : decode cL_law 290 = .ok (.aload_n 0, 1) := by decide +kernel
theorem dL_law_291 : decode cL_law 291 = .ok (.iload_n 3, 1) := by decide +kernel
theorem dL_law_292 : decode cL_law 292 = .ok (.iconst 2, 1) := by decide +kernel
theorem dL_law_293 : decode cL_law 293 = .ok (.iadd, 1) := by decide +kernel
theorem dL_law_294 : decode cL_law 294 = .ok (.iaload, 1) := by decide +kernel
theorem dL_law_295 : decode cL_law 295 = .ok (.invokevirtual 43, 3) := by decide +kernel
theorem dL_law_298 : decode cL_law 298 = .ok (.if_icmp .eq 502, 3) := by decide +kernel
theorem dL_law_301 : decode cL_law 301 = .ok (.iconst 0, 1) := by decide +kernel
theorem dL_law_302 : decode cL_law 302 = .ok (.ireturn, 1) := by decide +kernel
theorem dL_law_303 : decode cL_law 303 = .ok (.aload_n 1, 1) := by decide +kernel
theorem dL_law_304 : decode cL_law 304 = .ok (.aload_n 0, 1) := by decide +kernel
theorem dL_law_305 : decode cL_law 305 = .ok (.iload_n 3, 1) := by decide +kernel
theorem dL_law_306 : decode cL_law 306 = .ok (.iconst 1, 1) := by decide +kernel
theorem dL_law_307 : decode cL_law 307 = .ok (.iadd, 1) := by decide +kernel
theorem dL_law_308 : decode cL_law 308 = .ok (.iaload, 1) := by decide +kernel
theorem dL_law_309 : decode cL_law 309 = .ok (.aload_n 0, 1) := by decide +kernel
theorem dL_law_310 : decode cL_law 310 = .ok (.iload_n 3, 1) := by decide +kernel
theorem dL_law_311 : decode cL_law 311 = .ok (.iconst 2, 1) := by decide +kernel
theorem dL_law_312 : decode cL_law 312 = .ok (.iadd, 1) := by decide +kernel
theorem dL_law_313 : decode cL_law 313 = .ok (.iaload, 1) := by decide +kernel
theorem dL_law_314 : decode cL_law 314 = .ok (.invokevirtual 44, 3) := by decide +kernel
theorem dL_law_317 : decode cL_law 317 = .ok (.aload_n 2, 1) := by decide +kernel
theorem dL_law_318 : decode cL_law 318 = .ok (.aload_n 0, 1) := by decide +kernel
theorem dL_law_319 : decode cL_law 319 = .ok (.iload_n 3, 1) := by decide +kernel
theorem dL_law_320 : decode cL_law 320 = .ok (.iconst 1, 1) := by decide +kernel
theorem dL_law_321 : decode cL_law 321 = .ok (.iadd, 1) := by decide +kernel
theorem dL_law_322 : decode cL_law 322 = .ok (.iaload, 1) := by decide +kernel
theorem dL_law_323 : decode cL_law 323 = .ok (.aload_n 0, 1) := by decide +kernel
theorem dL_law_324 : decode cL_law 324 = .ok (.iload_n 3, 1) := by decide +kernel
theorem dL_law_325 : decode cL_law 325 = .ok (.iconst 2, 1) := by decide +kernel
theorem dL_law_326 : decode cL_law 326 = .ok (.iadd, 1) := by decide +kernel
theorem dL_law_327 : decode cL_law 327 = .ok (.iaload, 1) := by decide +kernel
theorem dL_law_328 : decode cL_law 328 = .ok (.invokevirtual 47, 3) := by decide +kernel
theorem dL_law_331 : decode cL_law 331 = .ok (.if_icmp .eq 469, 3) := by decide +kernel
theorem dL_law_334 : decode cL_law 334 = .ok (.iconst 0, 1) := by decide +kernel
theorem dL_law_335 : decode cL_law 335 = .ok (.ireturn, 1) := by decide +kernel
theorem dL_law_336 : decode cL_law 336 = .ok (.aload_n 1, 1) := by decide +kernel
theorem dL_law_337 : decode cL_law 337 = .ok (.aload_n 0, 1) := by decide +kernel
theorem dL_law_338 : decode cL_law 338 = .ok (.iload_n 3, 1) := by decide +kernel
theorem dL_law_339 : decode cL_law 339 = .ok (.iconst 1, 1) := by decide +kernel
theorem dL_law_340 : decode cL_law 340 = .ok (.iadd, 1) := by decide +kernel
theorem dL_law_341 : decode cL_law 341 = .ok (.iaload, 1) := by decide +kernel
theorem dL_law_342 : decode cL_law 342 = .ok (.aload_n 0, 1) := by decide +kernel
theorem dL_law_343 : decode cL_law 343 = .ok (.iload_n 3, 1) := by decide +kernel
theorem dL_law_344 : decode cL_law 344 = .ok (.iconst 2, 1) := by decide +kernel
theorem dL_law_345 : decode cL_law 345 = .ok (.iadd, 1) := by decide +kernel
theorem dL_law_346 : decode cL_law 346 = .ok (.iaload, 1) := by decide +kernel
theorem dL_law_347 : decode cL_law 347 = .ok (.invokevirtual 48, 3) := by decide +kernel
theorem dL_law_350 : decode cL_law 350 = .ok (.aload_n 2, 1) := by decide +kernel
theorem dL_law_351 : decode cL_law 351 = .ok (.aload_n 0, 1) := by decide +kernel
theorem dL_law_352 : decode cL_law 352 = .ok (.iload_n 3, 1) := by decide +kernel
theorem dL_law_353 : decode cL_law 353 = .ok (.iconst 1, 1) := by decide +kernel
theorem dL_law_354 : decode cL_law 354 = .ok (.iadd, 1) := by decide +kernel
theorem dL_law_355 : decode cL_law 355 = .ok (.iaload, 1) := by decide +kernel
theorem dL_law_356 : decode cL_law 356 = .ok (.aload_n 0, 1) := by decide +kernel
theorem dL_law_357 : decode cL_law 357 = .ok (.iload_n 3, 1) := by decide +kernel
theorem dL_law_358 : decode cL_law 358 = .ok (.iconst 2, 1) := by decide +kernel
theorem dL_law_359 : decode cL_law 359 = .ok (.iadd, 1) := by decide +kernel
theorem dL_law_360 : decode cL_law 360 = .ok (.iaload, 1) := by decide +kernel
theorem dL_law_361 : decode cL_law 361 = .ok (.invokevirtual 51, 3) := by decide +kernel
theorem dL_law_364 : decode cL_law 364 = .ok (.if_icmp .eq 436, 3) := by decide +kernel
theorem dL_law_367 : decode cL_law 367 = .ok (.iconst 0, 1) := by decide +kernel
theorem dL_law_368 : decode cL_law 368 = .ok (.ireturn, 1) := by decide +kernel
theorem dL_law_369 : decode cL_law 369 = .ok (.aload_n 1, 1) := by decide +kernel
theorem dL_law_370 : decode cL_law 370 = .ok (.aload_n 0, 1) := by decide +kernel
theorem dL_law_371 : decode cL_law 371 = .ok (.iload_n 3, 1) := by decide +kernel
theorem dL_law_372 : decode cL_law 372 = .ok (.iconst 1, 1) := by decide +kernel
theorem dL_law_373 : decode cL_law 373 = .ok (.iadd, 1) := by decide +kernel
theorem dL_law_374 : decode cL_law 374 = .ok (.iaload, 1) := by decide +kernel
theorem dL_law_375 : decode cL_law 375 = .ok (.aload_n 0, 1) := by decide +kernel
theorem dL_law_376 : decode cL_law 376 = .ok (.iload_n 3, 1) := by decide +kernel
theorem dL_law_377 : decode cL_law 377 = .ok (.iconst 2, 1) := by decide +kernel
theorem dL_law_378 : decode cL_law 378 = .ok (.iadd, 1) := by decide +kernel
theorem dL_law_379 : decode cL_law 379 = .ok (.iaload, 1) := by decide +kernel
theorem dL_law_380 : decode cL_law 380 = .ok (.invokevirtual 52, 3) := by decide +kernel
theorem dL_law_383 : decode cL_law 383 = .ok (.aload_n 2, 1) := by decide +kernel
theorem dL_law_384 : decode cL_law 384 = .ok (.aload_n 0, 1) := by decide +kernel
theorem dL_law_385 : decode cL_law 385 = .ok (.iload_n 3, 1) := by decide +kernel
theorem dL_law_386 : decode cL_law 386 = .ok (.iconst 1, 1) := by decide +kernel
theorem dL_law_387 : decode cL_law 387 = .ok (.iadd, 1) := by decide +kernel
theorem dL_law_388 : decode cL_law 388 = .ok (.iaload, 1) := by decide +kernel
theorem dL_law_389 : decode cL_law 389 = .ok (.aload_n 0, 1) := by decide +kernel
theorem dL_law_390 : decode cL_law 390 = .ok (.iload_n 3, 1) := by decide +kernel
theorem dL_law_391 : decode cL_law 391 = .ok (.iconst 2, 1) := by decide +kernel
theorem dL_law_392 : decode cL_law 392 = .ok (.iadd, 1) := by decide +kernel
theorem dL_law_393 : decode cL_law 393 = .ok (.iaload, 1) := by decide +kernel
theorem dL_law_394 : decode cL_law 394 = .ok (.invokevirtual 55, 3) := by decide +kernel
theorem dL_law_397 : decode cL_law 397 = .ok (.if_icmp .eq 403, 3) := by decide +kernel
theorem dL_law_400 : decode cL_law 400 = .ok (.iconst 0, 1) := by decide +kernel
theorem dL_law_401 : decode cL_law 401 = .ok (.ireturn, 1) := by decide +kernel
theorem dL_law_402 : decode cL_law 402 = .ok (.aload_n 1, 1) := by decide +kernel
theorem dL_law_403 : decode cL_law 403 = .ok (.invokevirtual 56, 3) := by decide +kernel
theorem dL_law_406 : decode cL_law 406 = .ok (.aload_n 2, 1) := by decide +kernel
theorem dL_law_407 : decode cL_law 407 = .ok (.invokevirtual 59, 3) := by decide +kernel
theorem dL_law_410 : decode cL_law 410 = .ok (.if_icmp .eq 390, 3) := by decide +kernel
theorem dL_law_413 : decode cL_law 413 = .ok (.iconst 0, 1) := by decide +kernel
theorem dL_law_414 : decode cL_law 414 = .ok (.ireturn, 1) := by decide +kernel
theorem dL_law_415 : decode cL_law 415 = .ok (.aload_n 1, 1) := by decide +kernel
theorem dL_law_416 : decode cL_law 416 = .ok (.invokevirtual 60, 3) := by decide +kernel
theorem dL_law_419 : decode cL_law 419 = .ok (.aload_n 2, 1) := by decide +kernel
theorem dL_law_420 : decode cL_law 420 = .ok (.invokevirtual 63, 3) := by decide +kernel
theorem dL_law_423 : decode cL_law 423 = .ok (.if_icmp .eq 377, 3) := by decide +kernel
theorem dL_law_426 : decode cL_law 426 = .ok (.iconst 0, 1) := by decide +kernel
theorem dL_law_427 : decode cL_law 427 = .ok (.ireturn, 1) := by decide +kernel
theorem dL_law_428 : decode cL_law 428 = .ok (.aload_n 1, 1) := by decide +kernel
theorem dL_law_429 : decode cL_law 429 = .ok (.invokevirtual 64, 3) := by decide +kernel
theorem dL_law_432 : decode cL_law 432 = .ok (.aload_n 2, 1) := by decide +kernel
theorem dL_law_433 : decode cL_law 433 = .ok (.invokevirtual 67, 3) := by decide +kernel
theorem dL_law_436 : decode cL_law 436 = .ok (.if_icmp .eq 364, 3) := by decide +kernel
theorem dL_law_439 : decode cL_law 439 = .ok (.iconst 0, 1) := by decide +kernel
theorem dL_law_440 : decode cL_law 440 = .ok (.ireturn, 1) := by decide +kernel
theorem dL_law_441 : decode cL_law 441 = .ok (.aload_n 1, 1) := by decide +kernel
theorem dL_law_442 : decode cL_law 442 = .ok (.aload_n 0, 1) := by decide +kernel
theorem dL_law_443 : decode cL_law 443 = .ok (.iload_n 3, 1) := by decide +kernel
theorem dL_law_444 : decode cL_law 444 = .ok (.iconst 1, 1) := by decide +kernel
theorem dL_law_445 : decode cL_law 445 = .ok (.iadd, 1) := by decide +kernel
theorem dL_law_446 : decode cL_law 446 = .ok (.iaload, 1) := by decide +kernel
theorem dL_law_447 : decode cL_law 447 = .ok (.invokevirtual 68, 3) := by decide +kernel
theorem dL_law_450 : decode cL_law 450 = .ok (.aload_n 2, 1) := by decide +kernel
theorem dL_law_451 : decode cL_law 451 = .ok (.aload_n 0, 1) := by decide +kernel
theorem dL_law_452 : decode cL_law 452 = .ok (.iload_n 3, 1) := by decide +kernel
theorem dL_law_453 : decode cL_law 453 = .ok (.iconst 1, 1) := by decide +kernel
theorem dL_law_454 : decode cL_law 454 = .ok (.iadd, 1) := by decide +kernel
theorem dL_law_455 : decode cL_law 455 = .ok (.iaload, 1) := by decide +kernel
theorem dL_law_456 : decode cL_law 456 = .ok (.invokevirtual 71, 3) := by decide +kernel
theorem dL_law_459 : decode cL_law 459 = .ok (.if_icmp .eq 341, 3) := by decide +kernel
theorem dL_law_462 : decode cL_law 462 = .ok (.iconst 0, 1) := by decide +kernel
theorem dL_law_463 : decode cL_law 463 = .ok (.ireturn, 1) := by decide +kernel
theorem dL_law_464 : decode cL_law 464 = .ok (.aload_n 1, 1) := by decide +kernel
theorem dL_law_465 : decode cL_law 465 = .ok (.invokevirtual 72, 3) := by decide +kernel
theorem dL_law_468 : decode cL_law 468 = .ok (.aload_n 2, 1) := by decide +kernel
theorem dL_law_469 : decode cL_law 469 = .ok (.invokevirtual 75, 3) := by decide +kernel
theorem dL_law_472 : decode cL_law 472 = .ok (.if_icmp .eq 328, 3) := by decide +kernel
theorem dL_law_475 : decode cL_law 475 = .ok (.iconst 0, 1) := by decide +kernel
theorem dL_law_476 : decode cL_law 476 = .ok (.ireturn, 1) := by decide +kernel
theorem dL_law_477 : decode cL_law 477 = .ok (.aload_n 1, 1) := by decide +kernel
theorem dL_law_478 : decode cL_law 478 = .ok (.aload_n 0, 1) := by decide +kernel
theorem dL_law_479 : decode cL_law 479 = .ok (.iload_n 3, 1) := by decide +kernel
theorem dL_law_480 : decode cL_law 480 = .ok (.iconst 1, 1) := by decide +kernel
theorem dL_law_481 : decode cL_law 481 = .ok (.iadd, 1) := by decide +kernel
theorem dL_law_482 : decode cL_law 482 = .ok (.iaload, 1) := by decide +kernel
theorem dL_law_483 : decode cL_law 483 = .ok (.invokevirtual 76, 3) := by decide +kernel
theorem dL_law_486 : decode cL_law 486 = .ok (.aload_n 2, 1) := by decide +kernel
theorem dL_law_487 : decode cL_law 487 = .ok (.aload_n 0, 1) := by decide +kernel
theorem dL_law_488 : decode cL_law 488 = .ok (.iload_n 3, 1) := by decide +kernel
theorem dL_law_489 : decode cL_law 489 = .ok (.iconst 1, 1) := by decide +kernel
theorem dL_law_490 : decode cL_law 490 = .ok (.iadd, 1) := by decide +kernel
theorem dL_law_491 : decode cL_law 491 = .ok (.iaload, 1) := by decide +kernel
theorem dL_law_492 : decode cL_law 492 = .ok (.invokevirtual 79, 3) := by decide +kernel
theorem dL_law_495 : decode cL_law 495 = .ok (.if_icmp .eq 305, 3) := by decide +kernel
theorem dL_law_498 : decode cL_law 498 = .ok (.iconst 0, 1) := by decide +kernel
theorem dL_law_499 : decode cL_law 499 = .ok (.ireturn, 1) := by decide +kernel
theorem dL_law_500 : decode cL_law 500 = .ok (.aload_n 1, 1) := by decide +kernel
theorem dL_law_501 : decode cL_law 501 = .ok (.aload_n 0, 1) := by decide +kernel
theorem dL_law_502 : decode cL_law 502 = .ok (.iload_n 3, 1) := by decide +kernel
theorem dL_law_503 : decode cL_law 503 = .ok (.iconst 1, 1) := by decide +kernel
theorem dL_law_504 : decode cL_law 504 = .ok (.iadd, 1) := by decide +kernel
theorem dL_law_505 : decode cL_law 505 = .ok (.iaload, 1) := by decide +kernel
theorem dL_law_506 : decode cL_law 506 = .ok (.aload_n 0, 1) := by decide +kernel
theorem dL_law_507 : decode cL_law 507 = .ok (.iload_n 3, 1) := by decide +kernel
theorem dL_law_508 : decode cL_law 508 = .ok (.iconst 2, 1) := by decide +kernel
theorem dL_law_509 : decode cL_law 509 = .ok (.iadd, 1) := by decide +kernel
theorem dL_law_510 : decode cL_law 510 = .ok (.iaload, 1) := by decide +kernel
theorem dL_law_511 : decode cL_law 511 = .ok (.invokevirtual 80, 3) := by decide +kernel
theorem dL_law_514 : decode cL_law 514 = .ok (.aload_n 2, 1) := by decide +kernel
theorem dL_law_515 : decode cL_law 515 = .ok (.aload_n 0, 1) := by decide +kernel
theorem dL_law_516 : decode cL_law 516 = .ok (.iload_n 3, 1) := by decide +kernel
theorem dL_law_517 : decode cL_law 517 = .ok (.iconst 1, 1) := by decide +kernel
theorem dL_law_518 : decode cL_law 518 = .ok (.iadd, 1) := by decide +kernel
theorem dL_law_519 : decode cL_law 519 = .ok (.iaload, 1) := by decide +kernel
theorem dL_law_520 : decode cL_law 520 = .ok (.aload_n 0, 1) := by decide +kernel
theorem dL_law_521 : decode cL_law 521 = .ok (.iload_n 3, 1) := by decide +kernel
theorem dL_law_522 : decode cL_law 522 = .ok (.iconst 2, 1) := by decide +kernel
theorem dL_law_523 : decode cL_law 523 = .ok (.iadd, 1) := by decide +kernel
theorem dL_law_524 : decode cL_law 524 = .ok (.iaload, 1) := by decide +kernel
theorem dL_law_525 : decode cL_law 525 = .ok (.invokevirtual 83, 3) := by decide +kernel
theorem dL_law_528 : decode cL_law 528 = .ok (.if_icmp .eq 272, 3) := by decide +kernel
theorem dL_law_531 : decode cL_law 531 = .ok (.iconst 0, 1) := by decide +kernel
theorem dL_law_532 : decode cL_law 532 = .ok (.ireturn, 1) := by decide +kernel
theorem dL_law_533 : decode cL_law 533 = .ok (.aload_n 1, 1) := by decide +kernel
theorem dL_law_534 : decode cL_law 534 = .ok (.aload_n 0, 1) := by decide +kernel
theorem dL_law_535 : decode cL_law 535 = .ok (.iload_n 3, 1) := by decide +kernel
theorem dL_law_536 : decode cL_law 536 = .ok (.iconst 1, 1) := by decide +kernel
theorem dL_law_537 : decode cL_law 537 = .ok (.iadd, 1) := by decide +kernel
theorem dL_law_538 : decode cL_law 538 = .ok (.iaload, 1) := by decide +kernel
theorem dL_law_539 : decode cL_law 539 = .ok (.aload_n 0, 1) := by decide +kernel
theorem dL_law_540 : decode cL_law 540 = .ok (.iload_n 3, 1) := by decide +kernel
theorem dL_law_541 : decode cL_law 541 = .ok (.iconst 2, 1) := by decide +kernel
theorem dL_law_542 : decode cL_law 542 = .ok (.iadd, 1) := by decide +kernel
theorem dL_law_543 : decode cL_law 543 = .ok (.iaload, 1) := by decide +kernel
theorem dL_law_544 : decode cL_law 544 = .ok (.invokevirtual 84, 3) := by decide +kernel
theorem dL_law_547 : decode cL_law 547 = .ok (.aload_n 2, 1) := by decide +kernel
theorem dL_law_548 : decode cL_law 548 = .ok (.aload_n 0, 1) := by decide +kernel
theorem dL_law_549 : decode cL_law 549 = .ok (.iload_n 3, 1) := by decide +kernel
theorem dL_law_550 : decode cL_law 550 = .ok (.iconst 1, 1) := by decide +kernel
theorem dL_law_551 : decode cL_law 551 = .ok (.iadd, 1) := by decide +kernel
theorem dL_law_552 : decode cL_law 552 = .ok (.iaload, 1) := by decide +kernel
theorem dL_law_553 : decode cL_law 553 = .ok (.aload_n 0, 1) := by decide +kernel
theorem dL_law_554 : decode cL_law 554 = .ok (.iload_n 3, 1) := by decide +kernel
theorem dL_law_555 : decode cL_law 555 = .ok (.iconst 2, 1) := by decide +kernel
theorem dL_law_556 : decode cL_law 556 = .ok (.iadd, 1) := by decide +kernel
theorem dL_law_557 : decode cL_law 557 = .ok (.iaload, 1) := by decide +kernel
theorem dL_law_558 : decode cL_law 558 = .ok (.invokevirtual 87, 3) := by decide +kernel
theorem dL_law_561 : decode cL_law 561 = .ok (.if_icmp .eq 239, 3) := by decide +kernel
theorem dL_law_564 : decode cL_law 564 = .ok (.iconst 0, 1) := by decide +kernel
theorem dL_law_565 : decode cL_law 565 = .ok (.ireturn, 1) := by decide +kernel
theorem dL_law_566 : decode cL_law 566 = .ok (.aload_n 1, 1) := by decide +kernel
theorem dL_law_567 : decode cL_law 567 = .ok (.aload_n 0, 1) := by decide +kernel
theorem dL_law_568 : decode cL_law 568 = .ok (.iload_n 3, 1) := by decide +kernel
theorem dL_law_569 : decode cL_law 569 = .ok (.iconst 1, 1) := by decide +kernel
theorem dL_law_570 : decode cL_law 570 = .ok (.iadd, 1) := by decide +kernel
theorem dL_law_571 : decode cL_law 571 = .ok (.iaload, 1) := by decide +kernel
theorem dL_law_572 : decode cL_law 572 = .ok (.aload_n 0, 1) := by decide +kernel
theorem dL_law_573 : decode cL_law 573 = .ok (.iload_n 3, 1) := by decide +kernel
theorem dL_law_574 : decode cL_law 574 = .ok (.iconst 2, 1) := by decide +kernel
theorem dL_law_575 : decode cL_law 575 = .ok (.iadd, 1) := by decide +kernel
theorem dL_law_576 : decode cL_law 576 = .ok (.iaload, 1) := by decide +kernel
theorem dL_law_577 : decode cL_law 577 = .ok (.invokevirtual 88, 3) := by decide +kernel
theorem dL_law_580 : decode cL_law 580 = .ok (.aload_n 2, 1) := by decide +kernel
theorem dL_law_581 : decode cL_law 581 = .ok (.aload_n 0, 1) := by decide +kernel
theorem dL_law_582 : decode cL_law 582 = .ok (.iload_n 3, 1) := by decide +kernel
theorem dL_law_583 : decode cL_law 583 = .ok (.iconst 1, 1) := by decide +kernel
theorem dL_law_584 : decode cL_law 584 = .ok (.iadd, 1) := by decide +kernel
theorem dL_law_585 : decode cL_law 585 = .ok (.iaload, 1) := by decide +kernel
theorem dL_law_586 : decode cL_law 586 = .ok (.aload_n 0, 1) := by decide +kernel
theorem dL_law_587 : decode cL_law 587 = .ok (.iload_n 3, 1) := by decide +kernel
theorem dL_law_588 : decode cL_law 588 = .ok (.iconst 2, 1) := by decide +kernel
theorem dL_law_589 : decode cL_law 589 = .ok (.iadd, 1) := by decide +kernel
theorem dL_law_590 : decode cL_law 590 = .ok (.iaload, 1) := by decide +kernel
theorem dL_law_591 : decode cL_law 591 = .ok (.invokevirtual 91, 3) := by decide +kernel
theorem dL_law_594 : decode cL_law 594 = .ok (.if_icmp .eq 206, 3) := by decide +kernel
theorem dL_law_597 : decode cL_law 597 = .ok (.iconst 0, 1) := by decide +kernel
theorem dL_law_598 : decode cL_law 598 = .ok (.ireturn, 1) := by decide +kernel
theorem dL_law_599 : decode cL_law 599 = .ok (.aload_n 1, 1) := by decide +kernel
theorem dL_law_600 : decode cL_law 600 = .ok (.aload_n 0, 1) := by decide +kernel
theorem dL_law_601 : decode cL_law 601 = .ok (.iload_n 3, 1) := by decide +kernel
theorem dL_law_602 : decode cL_law 602 = .ok (.iconst 1, 1) := by decide +kernel
theorem dL_law_603 : decode cL_law 603 = .ok (.iadd, 1) := by decide +kernel
theorem dL_law_604 : decode cL_law 604 = .ok (.iaload, 1) := by decide +kernel
theorem dL_law_605 : decode cL_law 605 = .ok (.aload_n 0, 1) := by decide +kernel
theorem dL_law_606 : decode cL_law 606 = .ok (.iload_n 3, 1) := by decide +kernel
theorem dL_law_607 : decode cL_law 607 = .ok (.iconst 2, 1) := by decide +kernel
theorem dL_law_608 : decode cL_law 608 = .ok (.iadd, 1) := by decide +kernel
theorem dL_law_609 : decode cL_law 609 = .ok (.iaload, 1) := by decide +kernel
theorem dL_law_610 : decode cL_law 610 = .ok (.invokevirtual 92, 3) := by decide +kernel
theorem dL_law_613 : decode cL_law 613 = .ok (.aload_n 2, 1) := by decide +kernel
theorem dL_law_614 : decode cL_law 614 = .ok (.aload_n 0, 1) := by decide +kernel
theorem dL_law_615 : decode cL_law 615 = .ok (.iload_n 3, 1) := by decide +kernel
theorem dL_law_616 : decode cL_law 616 = .ok (.iconst 1, 1) := by decide +kernel
theorem dL_law_617 : decode cL_law 617 = .ok (.iadd, 1) := by decide +kernel
theorem dL_law_618 : decode cL_law 618 = .ok (.iaload, 1) := by decide +kernel
theorem dL_law_619 : decode cL_law 619 = .ok (.aload_n 0, 1) := by decide +kernel
theorem dL_law_620 : decode cL_law 620 = .ok (.iload_n 3, 1) := by decide +kernel
theorem dL_law_621 : decode cL_law 621 = .ok (.iconst 2, 1) := by decide +kernel
theorem dL_law_622 : decode cL_law 622 = .ok (.iadd, 1) := by decide +kernel
theorem dL_law_623 : decode cL_law 623 = .ok (.iaload, 1) := by decide +kernel
theorem dL_law_624 : decode cL_law 624 = .ok (.invokevirtual 95, 3) := by decide +kernel
theorem dL_law_627 : decode cL_law 627 = .ok (.if_icmp .eq 173, 3) := by decide +kernel
theorem dL_law_630 : decode cL_law 630 = .ok (.iconst 0, 1) := by decide +kernel
theorem dL_law_631 : decode cL_law 631 = .ok (.ireturn, 1) := by decide +kernel
theorem dL_law_632 : decode cL_law 632 = .ok (.aload_n 1, 1) := by decide +kernel
theorem dL_law_633 : decode cL_law 633 = .ok (.aload_n 0, 1) := by decide +kernel
theorem dL_law_634 : decode cL_law 634 = .ok (.iload_n 3, 1) := by decide +kernel
theorem dL_law_635 : decode cL_law 635 = .ok (.iconst 1, 1) := by decide +kernel
theorem dL_law_636 : decode cL_law 636 = .ok (.iadd, 1) := by decide +kernel
theorem dL_law_637 : decode cL_law 637 = .ok (.iaload, 1) := by decide +kernel
theorem dL_law_638 : decode cL_law 638 = .ok (.aload_n 0, 1) := by decide +kernel
theorem dL_law_639 : decode cL_law 639 = .ok (.iload_n 3, 1) := by decide +kernel
theorem dL_law_640 : decode cL_law 640 = .ok (.iconst 2, 1) := by decide +kernel
theorem dL_law_641 : decode cL_law 641 = .ok (.iadd, 1) := by decide +kernel
theorem dL_law_642 : decode cL_law 642 = .ok (.iaload, 1) := by decide +kernel
theorem dL_law_643 : decode cL_law 643 = .ok (.aload_n 0, 1) := by decide +kernel
theorem dL_law_644 : decode cL_law 644 = .ok (.iload_n 3, 1) := by decide +kernel
theorem dL_law_645 : decode cL_law 645 = .ok (.iconst 3, 1) := by decide +kernel
theorem dL_law_646 : decode cL_law 646 = .ok (.iadd, 1) := by decide +kernel
theorem dL_law_647 : decode cL_law 647 = .ok (.iaload, 1) := by decide +kernel
theorem dL_law_648 : decode cL_law 648 = .ok (.invokevirtual 96, 3) := by decide +kernel
theorem dL_law_651 : decode cL_law 651 = .ok (.aload_n 2, 1) := by decide +kernel
theorem dL_law_652 : decode cL_law 652 = .ok (.aload_n 0, 1) := by decide +kernel
theorem dL_law_653 : decode cL_law 653 = .ok (.iload_n 3, 1) := by decide +kernel
theorem dL_law_654 : decode cL_law 654 = .ok (.iconst 1, 1) := by decide +kernel
theorem dL_law_655 : decode cL_law 655 = .ok (.iadd, 1) := by decide +kernel
theorem dL_law_656 : decode cL_law 656 = .ok (.iaload, 1) := by decide +kernel
theorem dL_law_657 : decode cL_law 657 = .ok (.aload_n 0, 1) := by decide +kernel
theorem dL_law_658 : decode cL_law 658 = .ok (.iload_n 3, 1) := by decide +kernel
theorem dL_law_659 : decode cL_law 659 = .ok (.iconst 2, 1) := by decide +kernel
theorem dL_law_660 : decode cL_law 660 = .ok (.iadd, 1) := by decide +kernel
theorem dL_law_661 : decode cL_law 661 = .ok (.iaload, 1) := by decide +kernel
theorem dL_law_662 : decode cL_law 662 = .ok (.aload_n 0, 1) := by decide +kernel
theorem dL_law_663 : decode cL_law 663 = .ok (.iload_n 3, 1) := by decide +kernel
theorem dL_law_664 : decode cL_law 664 = .ok (.iconst 3, 1) := by decide +kernel
theorem dL_law_665 : decode cL_law 665 = .ok (.iadd, 1) := by decide +kernel
theorem dL_law_666 : decode cL_law 666 = .ok (.iaload, 1) := by decide +kernel
theorem dL_law_667 : decode cL_law 667 = .ok (.invokevirtual 100, 3) := by decide +kernel
theorem dL_law_670 : decode cL_law 670 = .ok (.if_icmp .eq 130, 3) := by decide +kernel
theorem dL_law_673 : decode cL_law 673 = .ok (.iconst 0, 1) := by decide +kernel
theorem dL_law_674 : decode cL_law 674 = .ok (.ireturn, 1) := by decide +kernel
theorem dL_law_675 : decode cL_law 675 = .ok (.aload_n 1, 1) := by decide +kernel
theorem dL_law_676 : decode cL_law 676 = .ok (.aload_n 0, 1) := by decide +kernel
theorem dL_law_677 : decode cL_law 677 = .ok (.iload_n 3, 1) := by decide +kernel
theorem dL_law_678 : decode cL_law 678 = .ok (.iconst 1, 1) := by decide +kernel
theorem dL_law_679 : decode cL_law 679 = .ok (.iadd, 1) := by decide +kernel
theorem dL_law_680 : decode cL_law 680 = .ok (.iaload, 1) := by decide +kernel
theorem dL_law_681 : decode cL_law 681 = .ok (.aload_n 0, 1) := by decide +kernel
theorem dL_law_682 : decode cL_law 682 = .ok (.iload_n 3, 1) := by decide +kernel
theorem dL_law_683 : decode cL_law 683 = .ok (.iconst 2, 1) := by decide +kernel
theorem dL_law_684 : decode cL_law 684 = .ok (.iadd, 1) := by decide +kernel
theorem dL_law_685 : decode cL_law 685 = .ok (.iaload, 1) := by decide +kernel
theorem dL_law_686 : decode cL_law 686 = .ok (.invokevirtual 101, 3) := by decide +kernel
theorem dL_law_689 : decode cL_law 689 = .ok (.aload_n 2, 1) := by decide +kernel
theorem dL_law_690 : decode cL_law 690 = .ok (.aload_n 0, 1) := by decide +kernel
theorem dL_law_691 : decode cL_law 691 = .ok (.iload_n 3, 1) := by decide +kernel
theorem dL_law_692 : decode cL_law 692 = .ok (.iconst 1, 1) := by decide +kernel
theorem dL_law_693 : decode cL_law 693 = .ok (.iadd, 1) := by decide +kernel
theorem dL_law_694 : decode cL_law 694 = .ok (.iaload, 1) := by decide +kernel
theorem dL_law_695 : decode cL_law 695 = .ok (.aload_n 0, 1) := by decide +kernel
theorem dL_law_696 : decode cL_law 696 = .ok (.iload_n 3, 1) := by decide +kernel
theorem dL_law_697 : decode cL_law 697 = .ok (.iconst 2, 1) := by decide +kernel
theorem dL_law_698 : decode cL_law 698 = .ok (.iadd, 1) := by decide +kernel
theorem dL_law_699 : decode cL_law 699 = .ok (.iaload, 1) := by decide +kernel
theorem dL_law_700 : decode cL_law 700 = .ok (.invokevirtual 104, 3) := by decide +kernel
theorem dL_law_703 : decode cL_law 703 = .ok (.if_icmp .eq 97, 3) := by decide +kernel
theorem dL_law_706 : decode cL_law 706 = .ok (.iconst 0, 1) := by decide +kernel
theorem dL_law_707 : decode cL_law 707 = .ok (.ireturn, 1) := by decide +kernel
theorem dL_law_708 : decode cL_law 708 = .ok (.aload_n 1, 1) := by decide +kernel
theorem dL_law_709 : decode cL_law 709 = .ok (.aload_n 0, 1) := by decide +kernel
theorem dL_law_710 : decode cL_law 710 = .ok (.iload_n 3, 1) := by decide +kernel
theorem dL_law_711 : decode cL_law 711 = .ok (.iconst 1, 1) := by decide +kernel
theorem dL_law_712 : decode cL_law 712 = .ok (.iadd, 1) := by decide +kernel
theorem dL_law_713 : decode cL_law 713 = .ok (.iaload, 1) := by decide +kernel
theorem dL_law_714 : decode cL_law 714 = .ok (.invokevirtual 105, 3) := by decide +kernel
theorem dL_law_717 : decode cL_law 717 = .ok (.aload_n 2, 1) := by decide +kernel
theorem dL_law_718 : decode cL_law 718 = .ok (.aload_n 0, 1) := by decide +kernel
theorem dL_law_719 : decode cL_law 719 = .ok (.iload_n 3, 1) := by decide +kernel
theorem dL_law_720 : decode cL_law 720 = .ok (.iconst 1, 1) := by decide +kernel
theorem dL_law_721 : decode cL_law 721 = .ok (.iadd, 1) := by decide +kernel
theorem dL_law_722 : decode cL_law 722 = .ok (.iaload, 1) := by decide +kernel
theorem dL_law_723 : decode cL_law 723 = .ok (.invokevirtual 108, 3) := by decide +kernel
theorem dL_law_726 : decode cL_law 726 = .ok (.if_icmp .eq 74, 3) := by decide +kernel
theorem dL_law_729 : decode cL_law 729 = .ok (.iconst 0, 1) := by decide +kernel
theorem dL_law_730 : decode cL_law 730 = .ok (.ireturn, 1) := by decide +kernel
theorem dL_law_731 : decode cL_law 731 = .ok (.aload_n 1, 1) := by decide +kernel
theorem dL_law_732 : decode cL_law 732 = .ok (.aload_n 0, 1) := by decide +kernel
theorem dL_law_733 : decode cL_law 733 = .ok (.iload_n 3, 1) := by decide +kernel
theorem dL_law_734 : decode cL_law 734 = .ok (.iconst 1, 1) := by decide +kernel
theorem dL_law_735 : decode cL_law 735 = .ok (.iadd, 1) := by decide +kernel
theorem dL_law_736 : decode cL_law 736 = .ok (.iaload, 1) := by decide +kernel
theorem dL_law_737 : decode cL_law 737 = .ok (.invokevirtual 109, 3) := by decide +kernel
theorem dL_law_740 : decode cL_law 740 = .ok (.aload_n 2, 1) := by decide +kernel
theorem dL_law_741 : decode cL_law 741 = .ok (.aload_n 0, 1) := by decide +kernel
theorem dL_law_742 : decode cL_law 742 = .ok (.iload_n 3, 1) := by decide +kernel
theorem dL_law_743 : decode cL_law 743 = .ok (.iconst 1, 1) := by decide +kernel
theorem dL_law_744 : decode cL_law 744 = .ok (.iadd, 1) := by decide +kernel
theorem dL_law_745 : decode cL_law 745 = .ok (.iaload, 1) := by decide +kernel
theorem dL_law_746 : decode cL_law 746 = .ok (.invokevirtual 112, 3) := by decide +kernel
theorem dL_law_749 : decode cL_law 749 = .ok (.if_icmp .eq 51, 3) := by decide +kernel
theorem dL_law_752 : decode cL_law 752 = .ok (.iconst 0, 1) := by decide +kernel
theorem dL_law_753 : decode cL_law 753 = .ok (.ireturn, 1) := by decide +kernel
theorem dL_law_754 : decode cL_law 754 = .ok (.aload_n 1, 1) := by decide +kernel
theorem dL_law_755 : decode cL_law 755 = .ok (.aload_n 0, 1) := by decide +kernel
theorem dL_law_756 : decode cL_law 756 = .ok (.iload_n 3, 1) := by decide +kernel
theorem dL_law_757 : decode cL_law 757 = .ok (.iconst 1, 1) := by decide +kernel
theorem dL_law_758 : decode cL_law 758 = .ok (.iadd, 1) := by decide +kernel
theorem dL_law_759 : decode cL_law 759 = .ok (.iaload, 1) := by decide +kernel
theorem dL_law_760 : decode cL_law 760 = .ok (.invokevirtual 113, 3) := by decide +kernel
theorem dL_law_763 : decode cL_law 763 = .ok (.aload_n 2, 1) := by decide +kernel
theorem dL_law_764 : decode cL_law 764 = .ok (.aload_n 0, 1) := by decide +kernel
theorem dL_law_765 : decode cL_law 765 = .ok (.iload_n 3, 1) := by decide +kernel
theorem dL_law_766 : decode cL_law 766 = .ok (.iconst 1, 1) := by decide +kernel
theorem dL_law_767 : decode cL_law 767 = .ok (.iadd, 1) := by decide +kernel
theorem dL_law_768 : decode cL_law 768 = .ok (.iaload, 1) := by decide +kernel
theorem dL_law_769 : decode cL_law 769 = .ok (.invokevirtual 116, 3) := by decide +kernel
theorem dL_law_772 : decode cL_law 772 = .ok (.if_icmp .eq 28, 3) := by decide +kernel
theorem dL_law_775 : decode cL_law 775 = .ok (.iconst 0, 1) := by decide +kernel
theorem dL_law_776 : decode cL_law 776 = .ok (.ireturn, 1) := by decide +kernel
theorem dL_law_777 : decode cL_law 777 = .ok (.aload_n 1, 1) := by decide +kernel
theorem dL_law_778 : decode cL_law 778 = .ok (.aload_n 0, 1) := by decide +kernel
theorem dL_law_779 : decode cL_law 779 = .ok (.iload_n 3, 1) := by decide +kernel
theorem dL_law_780 : decode cL_law 780 = .ok (.iconst 1, 1) := by decide +kernel
theorem dL_law_781 : decode cL_law 781 = .ok (.iadd, 1) := by decide +kernel
theorem dL_law_782 : decode cL_law 782 = .ok (.iaload, 1) := by decide +kernel
theorem dL_law_783 : decode cL_law 783 = .ok (.invokevirtual 117, 3) := by decide +kernel
theorem dL_law_786 : decode cL_law 786 = .ok (.aload_n 2, 1) := by decide +kernel
theorem dL_law_787 : decode cL_law 787 = .ok (.aload_n 0, 1) := by decide +kernel
theorem dL_law_788 : decode cL_law 788 = .ok (.iload_n 3, 1) := by decide +kernel
theorem dL_law_789 : decode cL_law 789 = .ok (.iconst 1, 1) := by decide +kernel
theorem dL_law_790 : decode cL_law 790 = .ok (.iadd, 1) := by decide +kernel
theorem dL_law_791 : decode cL_law 791 = .ok (.iaload, 1) := by decide +kernel
theorem dL_law_792 : decode cL_law 792 = .ok (.invokevirtual 120, 3) := by decide +kernel
theorem dL_law_795 : decode cL_law 795 = .ok (.if_icmp .eq 5, 3) := by decide +kernel
theorem dL_law_798 : decode cL_law 798 = .ok (.iconst 0, 1) := by decide +kernel
theorem dL_law_799 : decode cL_law 799 = .ok (.ireturn, 1) := by decide +kernel
theorem dL_law_800 : decode cL_law 800 = .ok (.iinc 3 4, 3) := by decide +kernel
theorem dL_law_803 : decode cL_law 803 = .ok (.goto (-785), 3) := by decide +kernel
theorem dL_law_806 : decode cL_law 806 = .ok (.iconst 1, 1) := by decide +kernel
theorem dL_law_807 : decode cL_law 807 = .ok (.ireturn, 1) := by decide +kernel
abbrev vwCl : List vw_C := [(RX0, TX0, 5), (RX1, TX1, 10), (RX2, TX2, 9), (RX3, TX3, 10), (RX4, TX4, 3), (RX5, TX5, 9), (RX6, TX6, 23)]
