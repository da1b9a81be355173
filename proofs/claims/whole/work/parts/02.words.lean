/-! ===== BEGIN words of one list among another's, by their places ===== -/
theorem goodIn_r {big : List Cond} (ws : List Cond) (ps : List Nat) (hp : ws = ps.filterMap (fun i => big[i]?)) (h : ws.all goodWord = true) : GoodIn big ws := by
  intro w hw
  have h1 := List.all_eq_true.mp h w hw
  rw [hp] at hw
  obtain ⟨i, -, hi⟩ := List.mem_filterMap.mp hw
  have hm : w ∈ big := by first | exact List.mem_of_getElem? hi | exact List.getElem?_mem hi
  exact ⟨hm, good_of_word h1⟩
theorem goodIn_app {big a b : List Cond} (ha : GoodIn big a) (hb : GoodIn big b) : GoodIn big (a ++ b) := fun w h => (List.mem_append.mp h).elim (ha w) (hb w)
theorem goodIn_ca {big a b : List Cond} {c : Cond} (ha : GoodIn big (c :: a)) (hb : GoodIn big b) : GoodIn big (c :: (a ++ b)) := fun w h => (List.mem_cons.mp h).elim (fun e => ha w (List.mem_cons.mpr (Or.inl e))) (fun h => (List.mem_append.mp h).elim (fun h => ha w (List.mem_cons.mpr (Or.inr h))) (hb w))
theorem goodIn_sub {big ws : List Cond} (hm : ∀ w ∈ ws, w ∈ big) (h : ws.all goodWord = true) : GoodIn big ws := fun w hw => ⟨hm w hw, good_of_word (List.all_eq_true.mp h w hw)⟩
/-! ===== END ===== -/

/-! ===== BEGIN printed: names, fields, word lists, decode rows ===== -/
def RX0 : String := "SkyBox$Act"
def TX0 : u_T := fun k => match k with
  | 0 => ("SkyBox$Act", "kind", "I", true)
  | 1 => ("SkyBox$Act", "pilot", "I", true)
  | 2 => ("SkyBox$Act", "worth", "I", true)
  | 3 => ("SkyBox$Act", "climb", "I", true)
  | 4 => ("SkyBox$Act", "home", "I", true)
  | 5 => ("SkyBox$Act", "fuel", "I", true)
  | 6 => ("SkyBox$Act", "figures", "[LSkyBox$Figure;", true)
  | _ => ("SkyBox$Act", "size", "I", false)
def tyX0 : Nat → FieldType := fun k => match k with
  | 0 => .int
  | 1 => .int
  | 2 => .int
  | 3 => .int
  | 4 => .int
  | 5 => .int
  | 6 => .array (.object "SkyBox$Figure")
  | _ => .int
abbrev wsX00 : List Cond := u_ws RX0 TX0 8
theorem nmX0 : ∀ a, a < 8 → ∀ b, b < 8 → a ≠ b → (TX0 a).2.1 ≠ (TX0 b).2.1 := by decide +kernel
theorem tyX0_ok : ∀ k, k < 8 → parseFieldDescriptor (TX0 k).2.2.1 = some (tyX0 k) := by decide +kernel
abbrev cX0_init : ByteArray := prog_2_method_1_code
def yX0_init : MethodName := ⟨RX0, "<init>", "(IIIIII)V"⟩
abbrev cX0_add : ByteArray := prog_2_method_2_code
def yX0_add : MethodName := ⟨RX0, "add", "(LSkyBox$Figure;)I"⟩
abbrev cX0_figureAt : ByteArray := prog_2_method_3_code
def yX0_figureAt : MethodName := ⟨RX0, "figureAt", "(I)LSkyBox$Figure;"⟩
def RX1 : String := "SkyBox$Facts"
def TX1 : u_T := fun k => match k with
  | 0 => ("SkyBox$Facts", "kinds", "[I", true)
  | 1 => ("SkyBox$Facts", "firsts", "[I", true)
  | 2 => ("SkyBox$Facts", "seconds", "[I", true)
  | _ => ("SkyBox$Facts", "size", "I", false)
def tyX1 : Nat → FieldType := fun k => match k with
  | 0 => .array .int
  | 1 => .array .int
  | 2 => .array .int
  | _ => .int
abbrev wsX10 : List Cond := u_ws RX1 TX1 4
theorem nmX1 : ∀ a, a < 4 → ∀ b, b < 4 → a ≠ b → (TX1 a).2.1 ≠ (TX1 b).2.1 := by decide +kernel
theorem tyX1_ok : ∀ k, k < 4 → parseFieldDescriptor (TX1 k).2.2.1 = some (tyX1 k) := by decide +kernel
abbrev cX1_init : ByteArray := prog_3_method_1_code
def yX1_init : MethodName := ⟨RX1, "<init>", "()V"⟩
abbrev cX1_add : ByteArray := prog_3_method_2_code
def yX1_add : MethodName := ⟨RX1, "add", "(III)I"⟩
abbrev cX1_has : ByteArray := prog_3_method_3_code
def yX1_has : MethodName := ⟨RX1, "has", "(I)Z"⟩
def RX2 : String := "SkyBox$Figure"
def TX2 : u_T := fun k => match k with
  | 0 => ("SkyBox$Figure", "minutes", "I", true)
  | 1 => ("SkyBox$Figure", "speed", "I", true)
  | 2 => ("SkyBox$Figure", "height", "I", true)
  | _ => ("SkyBox$Figure", "high", "Z", true)
def tyX2 : Nat → FieldType := fun k => match k with
  | 0 => .int
  | 1 => .int
  | 2 => .int
  | _ => .boolean
abbrev wsX20 : List Cond := u_ws RX2 TX2 4
theorem nmX2 : ∀ a, a < 4 → ∀ b, b < 4 → a ≠ b → (TX2 a).2.1 ≠ (TX2 b).2.1 := by decide +kernel
theorem tyX2_ok : ∀ k, k < 4 → parseFieldDescriptor (TX2 k).2.2.1 = some (tyX2 k) := by decide +kernel
abbrev cX2_init : ByteArray := prog_4_method_1_code
def yX2_init : MethodName := ⟨RX2, "<init>", "(IIIZ)V"⟩
def RX3 : String := "SkyBox$Flights"
def TX3 : u_T := fun k => match k with
  | 0 => ("SkyBox$Flights", "order", "[I", true)
  | 1 => ("SkyBox$Flights", "takeOff", "[I", true)
  | 2 => ("SkyBox$Flights", "begin", "[I", true)
  | 3 => ("SkyBox$Flights", "minutes", "[I", true)
  | 4 => ("SkyBox$Flights", "landing", "[I", true)
  | 5 => ("SkyBox$Flights", "size", "I", false)
  | _ => ("SkyBox$Flights", "worth", "I", false)
def tyX3 : Nat → FieldType := fun k => match k with
  | 0 => .array .int
  | 1 => .array .int
  | 2 => .array .int
  | 3 => .array .int
  | 4 => .array .int
  | 5 => .int
  | _ => .int
abbrev wsX30 : List Cond := u_ws RX3 TX3 7
theorem nmX3 : ∀ a, a < 7 → ∀ b, b < 7 → a ≠ b → (TX3 a).2.1 ≠ (TX3 b).2.1 := by decide +kernel
theorem tyX3_ok : ∀ k, k < 7 → parseFieldDescriptor (TX3 k).2.2.1 = some (tyX3 k) := by decide +kernel
abbrev cX3_init : ByteArray := prog_5_method_1_code
def yX3_init : MethodName := ⟨RX3, "<init>", "()V"⟩
abbrev cX3_clear : ByteArray := prog_5_method_2_code
def yX3_clear : MethodName := ⟨RX3, "clear", "()V"⟩
abbrev cX3_has : ByteArray := prog_5_method_3_code
def yX3_has : MethodName := ⟨RX3, "has", "(I)Z"⟩
abbrev cX3_lastAct : ByteArray := prog_5_method_4_code
def yX3_lastAct : MethodName := ⟨RX3, "lastAct", "()I"⟩
abbrev cX3_end : ByteArray := prog_5_method_5_code
def yX3_end : MethodName := ⟨RX3, "end", "()I"⟩
abbrev cX3_lastLanding : ByteArray := prog_5_method_6_code
def yX3_lastLanding : MethodName := ⟨RX3, "lastLanding", "()I"⟩
abbrev cX3_add : ByteArray := prog_5_method_7_code
def yX3_add : MethodName := ⟨RX3, "add", "(IIIIII)V"⟩
abbrev cX3_dropLast : ByteArray := prog_5_method_8_code
def yX3_dropLast : MethodName := ⟨RX3, "dropLast", "(I)V"⟩
abbrev cX3_sameBegins : ByteArray := prog_5_method_9_code
def yX3_sameBegins : MethodName := ⟨RX3, "sameBegins", "(LSkyBox$Flights;)I"⟩
abbrev cX3_copy : ByteArray := prog_5_method_10_code
def yX3_copy : MethodName := ⟨RX3, "copy", "(LSkyBox$Flights;)V"⟩
def RX4 : String := "SkyBox$Planner"
def TX4 : u_T := fun k => match k with
  | 0 => ("SkyBox$Planner", "show", "LSkyBox$Show;", true)
  | 1 => ("SkyBox$Planner", "sky", "LSkyBox$Sky;", true)
  | 2 => ("SkyBox$Planner", "vars", "[I", true)
  | 3 => ("SkyBox$Planner", "lengths", "[I", true)
  | 4 => ("SkyBox$Planner", "taken", "[Z", true)
  | 5 => ("SkyBox$Planner", "best", "LSkyBox$Flights;", true)
  | 6 => ("SkyBox$Planner", "trial", "LSkyBox$Flights;", true)
  | _ => ("SkyBox$Planner", "text", "LSkyBox$Text;", false)
def tyX4 : Nat → FieldType := fun k => match k with
  | 0 => .object "SkyBox$Show"
  | 1 => .object "SkyBox$Sky"
  | 2 => .array .int
  | 3 => .array .int
  | 4 => .array .boolean
  | 5 => .object "SkyBox$Flights"
  | 6 => .object "SkyBox$Flights"
  | _ => .object "SkyBox$Text"
abbrev wsX40 : List Cond := u_ws RX4 TX4 8
theorem nmX4 : ∀ a, a < 8 → ∀ b, b < 8 → a ≠ b → (TX4 a).2.1 ≠ (TX4 b).2.1 := by decide +kernel
theorem tyX4_ok : ∀ k, k < 8 → parseFieldDescriptor (TX4 k).2.2.1 = some (tyX4 k) := by decide +kernel
abbrev cX4_init : ByteArray := prog_6_method_1_code
def yX4_init : MethodName := ⟨RX4, "<init>", "(LSkyBox$Show;LSkyBox$Sky;LSkyBox$Text;)V"⟩
abbrev cX4_begin : ByteArray := prog_6_method_2_code
def yX4_begin : MethodName := ⟨RX4, "begin", "(LSkyBox$Text;)V"⟩
abbrev cX4_outRuleFor : ByteArray := prog_6_method_3_code
def yX4_outRuleFor : MethodName := ⟨RX4, "outRuleFor", "(II)I"⟩
abbrev cX4_replace : ByteArray := prog_6_method_4_code
def yX4_replace : MethodName := ⟨RX4, "replace", "(LSkyBox$Flights;)I"⟩
abbrev cX4_extend : ByteArray := prog_6_method_5_code
def yX4_extend : MethodName := ⟨RX4, "extend", "(LSkyBox$Flights;I)V"⟩
abbrev cX4_isBetter : ByteArray := prog_6_method_6_code
def yX4_isBetter : MethodName := ⟨RX4, "isBetter", "(LSkyBox$Flights;)Z"⟩
abbrev cX4_isHopeless : ByteArray := prog_6_method_7_code
def yX4_isHopeless : MethodName := ⟨RX4, "isHopeless", "(LSkyBox$Flights;)Z"⟩
abbrev cX4_fly : ByteArray := prog_6_method_8_code
def yX4_fly : MethodName := ⟨RX4, "fly", "(I)Z"⟩
abbrev cX4_flyFrom : ByteArray := prog_6_method_9_code
def yX4_flyFrom : MethodName := ⟨RX4, "flyFrom", "(LSkyBox$Act;III)Z"⟩
abbrev cX4_callBack : ByteArray := prog_6_method_10_code
def yX4_callBack : MethodName := ⟨RX4, "callBack", "()V"⟩
abbrev cX4_minutesFrom : ByteArray := prog_6_method_11_code
def yX4_minutesFrom : MethodName := ⟨RX4, "minutesFrom", "(II)I"⟩
abbrev cX4_lastFree : ByteArray := prog_6_method_12_code
def yX4_lastFree : MethodName := ⟨RX4, "lastFree", "(II)I"⟩
abbrev cX4_firstFree : ByteArray := prog_6_method_13_code
def yX4_firstFree : MethodName := ⟨RX4, "firstFree", "(I)I"⟩
abbrev cX4_describe : ByteArray := prog_6_method_14_code
def yX4_describe : MethodName := ⟨RX4, "describe", "(LSkyBox$Act;I)V"⟩
abbrev cX4_describeBegin : ByteArray := prog_6_method_15_code
def yX4_describeBegin : MethodName := ⟨RX4, "describeBegin", "(II)V"⟩
abbrev cX4_flownBy : ByteArray := prog_6_method_16_code
def yX4_flownBy : MethodName := ⟨RX4, "flownBy", "(I)I"⟩
def RX5 : String := "SkyBox$Reader"
def TX5 : u_T := fun k => match k with
  | 0 => ("SkyBox$Reader", "scanner", "LSkyBox$Scanner;", true)
  | 1 => ("SkyBox$Reader", "waiting", "[I", true)
  | 2 => ("SkyBox$Reader", "waitingSize", "I", false)
  | 3 => ("SkyBox$Reader", "state", "I", false)
  | 4 => ("SkyBox$Reader", "side", "I", false)
  | _ => ("SkyBox$Reader", "depth", "I", false)
def tyX5 : Nat → FieldType := fun k => match k with
  | 0 => .object "SkyBox$Scanner"
  | 1 => .array .int
  | 2 => .int
  | 3 => .int
  | 4 => .int
  | _ => .int
abbrev wsX50 : List Cond := u_ws RX5 TX5 6
theorem nmX5 : ∀ a, a < 6 → ∀ b, b < 6 → a ≠ b → (TX5 a).2.1 ≠ (TX5 b).2.1 := by decide +kernel
theorem tyX5_ok : ∀ k, k < 6 → parseFieldDescriptor (TX5 k).2.2.1 = some (tyX5 k) := by decide +kernel
abbrev cX5_init : ByteArray := prog_7_method_1_code
def yX5_init : MethodName := ⟨RX5, "<init>", "(LSkyBox$Tape;)V"⟩
abbrev cX5_placeReached : ByteArray := prog_7_method_2_code
def yX5_placeReached : MethodName := ⟨RX5, "placeReached", "()I"⟩
abbrev cX5_compile : ByteArray := prog_7_method_3_code
def yX5_compile : MethodName := ⟨RX5, "compile", "(LSkyBox$Text;)I"⟩
abbrev cX5_start : ByteArray := prog_7_method_4_code
def yX5_start : MethodName := ⟨RX5, "start", "(LSkyBox$Text;)V"⟩
abbrev cX5_goesOnWith : ByteArray := prog_7_method_5_code
def yX5_goesOnWith : MethodName := ⟨RX5, "goesOnWith", "(I)Z"⟩
abbrev cX5_goesOnBehindUnit : ByteArray := prog_7_method_6_code
def yX5_goesOnBehindUnit : MethodName := ⟨RX5, "goesOnBehindUnit", "(I)Z"⟩
abbrev cX5_lacksRoomFor : ByteArray := prog_7_method_7_code
def yX5_lacksRoomFor : MethodName := ⟨RX5, "lacksRoomFor", "(LSkyBox$Text;I)Z"⟩
abbrev cX5_take : ByteArray := prog_7_method_8_code
def yX5_take : MethodName := ⟨RX5, "take", "(LSkyBox$Text;I)V"⟩
abbrev cX5_takeUnit : ByteArray := prog_7_method_9_code
def yX5_takeUnit : MethodName := ⟨RX5, "takeUnit", "(LSkyBox$Text;I)V"⟩
abbrev cX5_takeBehindUnit : ByteArray := prog_7_method_10_code
def yX5_takeBehindUnit : MethodName := ⟨RX5, "takeBehindUnit", "(LSkyBox$Text;I)V"⟩
abbrev cX5_hold : ByteArray := prog_7_method_11_code
def yX5_hold : MethodName := ⟨RX5, "hold", "(I)V"⟩
abbrev cX5_release : ByteArray := prog_7_method_12_code
def yX5_release : MethodName := ⟨RX5, "release", "(LSkyBox$Text;I)V"⟩
abbrev cX5_rankOf : ByteArray := prog_7_method_13_code
def yX5_rankOf : MethodName := ⟨RX5, "rankOf", "(I)I"⟩
abbrev cX5_isVar : ByteArray := prog_7_method_14_code
def yX5_isVar : MethodName := ⟨RX5, "isVar", "(I)Z"⟩
abbrev cX5_isRelation : ByteArray := prog_7_method_15_code
def yX5_isRelation : MethodName := ⟨RX5, "isRelation", "(I)Z"⟩
def RX6 : String := "SkyBox$Scanner"
def TX6 : u_T := fun k => match k with
  | 0 => ("SkyBox$Scanner", "tape", "LSkyBox$Tape;", true)
  | 1 => ("SkyBox$Scanner", "next", "I", false)
  | 2 => ("SkyBox$Scanner", "kind", "I", false)
  | 3 => ("SkyBox$Scanner", "value", "I", false)
  | _ => ("SkyBox$Scanner", "place", "I", false)
def tyX6 : Nat → FieldType := fun k => match k with
  | 0 => .object "SkyBox$Tape"
  | 1 => .int
  | 2 => .int
  | 3 => .int
  | _ => .int
abbrev wsX60 : List Cond := u_ws RX6 TX6 5
theorem nmX6 : ∀ a, a < 5 → ∀ b, b < 5 → a ≠ b → (TX6 a).2.1 ≠ (TX6 b).2.1 := by decide +kernel
theorem tyX6_ok : ∀ k, k < 5 → parseFieldDescriptor (TX6 k).2.2.1 = some (tyX6 k) := by decide +kernel
abbrev cX6_init : ByteArray := prog_8_method_1_code
def yX6_init : MethodName := ⟨RX6, "<init>", "(LSkyBox$Tape;)V"⟩
abbrev cX6_restart : ByteArray := prog_8_method_2_code
def yX6_restart : MethodName := ⟨RX6, "restart", "()V"⟩
abbrev cX6_advance : ByteArray := prog_8_method_3_code
def yX6_advance : MethodName := ⟨RX6, "advance", "()V"⟩
abbrev cX6_takeWord : ByteArray := prog_8_method_4_code
def yX6_takeWord : MethodName := ⟨RX6, "takeWord", "()V"⟩
abbrev cX6_isWord : ByteArray := prog_8_method_5_code
def yX6_isWord : MethodName := ⟨RX6, "isWord", "(I)Z"⟩
abbrev cX6_takeInt : ByteArray := prog_8_method_6_code
def yX6_takeInt : MethodName := ⟨RX6, "takeInt", "()V"⟩
abbrev cX6_takeSign : ByteArray := prog_8_method_7_code
def yX6_takeSign : MethodName := ⟨RX6, "takeSign", "(I)V"⟩
abbrev cX6_kindOfPair : ByteArray := prog_8_method_8_code
def yX6_kindOfPair : MethodName := ⟨RX6, "kindOfPair", "(I)I"⟩
abbrev cX6_kindOfSingle : ByteArray := prog_8_method_9_code
def yX6_kindOfSingle : MethodName := ⟨RX6, "kindOfSingle", "(I)I"⟩
abbrev cX6_isBlank : ByteArray := prog_8_method_10_code
def yX6_isBlank : MethodName := ⟨RX6, "isBlank", "(I)Z"⟩
abbrev cX6_isLetter : ByteArray := prog_8_method_11_code
def yX6_isLetter : MethodName := ⟨RX6, "isLetter", "(I)Z"⟩
abbrev cX6_isDigit : ByteArray := prog_8_method_12_code
def yX6_isDigit : MethodName := ⟨RX6, "isDigit", "(I)Z"⟩
def RX7 : String := "SkyBox$Show"
def TX7 : u_T := fun k => match k with
  | 0 => ("SkyBox$Show", "acts", "[LSkyBox$Act;", true)
  | 1 => ("SkyBox$Show", "size", "I", false)
  | 2 => ("SkyBox$Show", "falls", "[I", true)
  | 3 => ("SkyBox$Show", "fallsMissing", "Z", false)
  | 4 => ("SkyBox$Show", "wind", "I", false)
  | _ => ("SkyBox$Show", "line", "I", false)
def tyX7 : Nat → FieldType := fun k => match k with
  | 0 => .array (.object "SkyBox$Act")
  | 1 => .int
  | 2 => .array .int
  | 3 => .boolean
  | 4 => .int
  | _ => .int
abbrev wsX70 : List Cond := u_ws RX7 TX7 6
theorem nmX7 : ∀ a, a < 6 → ∀ b, b < 6 → a ≠ b → (TX7 a).2.1 ≠ (TX7 b).2.1 := by decide +kernel
theorem tyX7_ok : ∀ k, k < 6 → parseFieldDescriptor (TX7 k).2.2.1 = some (tyX7 k) := by decide +kernel
abbrev cX7_init : ByteArray := prog_9_method_1_code
def yX7_init : MethodName := ⟨RX7, "<init>", "()V"⟩
abbrev cX7_add : ByteArray := prog_9_method_2_code
def yX7_add : MethodName := ⟨RX7, "add", "(LSkyBox$Act;)I"⟩
abbrev cX7_actAt : ByteArray := prog_9_method_3_code
def yX7_actAt : MethodName := ⟨RX7, "actAt", "(I)LSkyBox$Act;"⟩
abbrev cX7_resetFalls : ByteArray := prog_9_method_4_code
def yX7_resetFalls : MethodName := ⟨RX7, "resetFalls", "(Z)V"⟩
abbrev cX7_refuses : ByteArray := prog_9_method_5_code
def yX7_refuses : MethodName := ⟨RX7, "refuses", "(LSkyBox$Figure;)Z"⟩
abbrev cX7_minutesInBox : ByteArray := prog_9_method_6_code
def yX7_minutesInBox : MethodName := ⟨RX7, "minutesInBox", "(LSkyBox$Act;I)I"⟩
abbrev cX7_minutesBelow : ByteArray := prog_9_method_7_code
def yX7_minutesBelow : MethodName := ⟨RX7, "minutesBelow", "(LSkyBox$Act;IZ)I"⟩
def RX8 : String := "SkyBox$Sky"
def TX8 : u_T := fun k => match k with
  | 0 => ("SkyBox$Sky", "base", "[I", true)
  | 1 => ("SkyBox$Sky", "openTill", "[I", true)
  | _ => ("SkyBox$Sky", "ready", "[I", true)
def tyX8 : Nat → FieldType := fun k => match k with
  | 0 => .array .int
  | 1 => .array .int
  | _ => .array .int
abbrev wsX80 : List Cond := u_ws RX8 TX8 3
theorem nmX8 : ∀ a, a < 3 → ∀ b, b < 3 → a ≠ b → (TX8 a).2.1 ≠ (TX8 b).2.1 := by decide +kernel
theorem tyX8_ok : ∀ k, k < 3 → parseFieldDescriptor (TX8 k).2.2.1 = some (tyX8 k) := by decide +kernel
abbrev cX8_init : ByteArray := prog_10_method_1_code
def yX8_init : MethodName := ⟨RX8, "<init>", "()V"⟩
abbrev cX8_learn : ByteArray := prog_10_method_2_code
def yX8_learn : MethodName := ⟨RX8, "learn", "(LSkyBox$Facts;I)V"⟩
abbrev cX8_learnOne : ByteArray := prog_10_method_3_code
def yX8_learnOne : MethodName := ⟨RX8, "learnOne", "(III)V"⟩
abbrev cX8_carryBaseOn : ByteArray := prog_10_method_4_code
def yX8_carryBaseOn : MethodName := ⟨RX8, "carryBaseOn", "()V"⟩
abbrev cX8_lookAhead : ByteArray := prog_10_method_5_code
def yX8_lookAhead : MethodName := ⟨RX8, "lookAhead", "()V"⟩
def RX9 : String := "SkyBox$Tape"
def TX9 : u_T := fun k => match k with
  | 0 => ("SkyBox$Tape", "bytes", "[B", true)
  | _ => ("SkyBox$Tape", "size", "I", false)
def tyX9 : Nat → FieldType := fun k => match k with
  | 0 => .array .byte
  | _ => .int
abbrev wsX90 : List Cond := u_ws RX9 TX9 2
theorem nmX9 : ∀ a, a < 2 → ∀ b, b < 2 → a ≠ b → (TX9 a).2.1 ≠ (TX9 b).2.1 := by decide +kernel
theorem tyX9_ok : ∀ k, k < 2 → parseFieldDescriptor (TX9 k).2.2.1 = some (tyX9 k) := by decide +kernel
abbrev cX9_init : ByteArray := prog_11_method_1_code
def yX9_init : MethodName := ⟨RX9, "<init>", "()V"⟩
abbrev cX9_hasRoomFor : ByteArray := prog_11_method_2_code
def yX9_hasRoomFor : MethodName := ⟨RX9, "hasRoomFor", "(I)Z"⟩
abbrev cX9_append : ByteArray := prog_11_method_3_code
def yX9_append : MethodName := ⟨RX9, "append", "(I)V"⟩
abbrev cX9_byteAt : ByteArray := prog_11_method_4_code
def yX9_byteAt : MethodName := ⟨RX9, "byteAt", "(I)I"⟩
def RX10 : String := "SkyBox$Text"
def TX10 : u_T := fun k => match k with
  | 0 => ("SkyBox$Text", "kinds", "[I", true)
  | 1 => ("SkyBox$Text", "starts", "[I", true)
  | 2 => ("SkyBox$Text", "conditions", "[I", true)
  | 3 => ("SkyBox$Text", "ends", "[I", true)
  | 4 => ("SkyBox$Text", "code", "[I", true)
  | 5 => ("SkyBox$Text", "stack", "[I", true)
  | 6 => ("SkyBox$Text", "codeSize", "I", false)
  | _ => ("SkyBox$Text", "size", "I", false)
def tyX10 : Nat → FieldType := fun k => match k with
  | 0 => .array .int
  | 1 => .array .int
  | 2 => .array .int
  | 3 => .array .int
  | 4 => .array .int
  | 5 => .array .int
  | 6 => .int
  | _ => .int
abbrev wsX100 : List Cond := u_ws RX10 TX10 8
theorem nmX10 : ∀ a, a < 8 → ∀ b, b < 8 → a ≠ b → (TX10 a).2.1 ≠ (TX10 b).2.1 := by decide +kernel
theorem tyX10_ok : ∀ k, k < 8 → parseFieldDescriptor (TX10 k).2.2.1 = some (tyX10 k) := by decide +kernel
abbrev cX10_init : ByteArray := prog_12_method_1_code
def yX10_init : MethodName := ⟨RX10, "<init>", "()V"⟩
abbrev cX10_clear : ByteArray := prog_12_method_2_code
def yX10_clear : MethodName := ⟨RX10, "clear", "()V"⟩
abbrev cX10_isFull : ByteArray := prog_12_method_3_code
def yX10_isFull : MethodName := ⟨RX10, "isFull", "()Z"⟩
abbrev cX10_openRule : ByteArray := prog_12_method_4_code
def yX10_openRule : MethodName := ⟨RX10, "openRule", "(I)V"⟩
abbrev cX10_openCondition : ByteArray := prog_12_method_5_code
def yX10_openCondition : MethodName := ⟨RX10, "openCondition", "()V"⟩
abbrev cX10_closeRule : ByteArray := prog_12_method_6_code
def yX10_closeRule : MethodName := ⟨RX10, "closeRule", "()V"⟩
abbrev cX10_emit : ByteArray := prog_12_method_7_code
def yX10_emit : MethodName := ⟨RX10, "emit", "(II)V"⟩
abbrev cX10_amountOf : ByteArray := prog_12_method_8_code
def yX10_amountOf : MethodName := ⟨RX10, "amountOf", "(I[I)I"⟩
abbrev cX10_firstThatHolds : ByteArray := prog_12_method_9_code
def yX10_firstThatHolds : MethodName := ⟨RX10, "firstThatHolds", "(I[I)I"⟩
abbrev cX10_work : ByteArray := prog_12_method_10_code
def yX10_work : MethodName := ⟨RX10, "work", "(II[I)I"⟩
abbrev cX10_join : ByteArray := prog_12_method_11_code
def yX10_join : MethodName := ⟨RX10, "join", "(III)I"⟩
def RX11 : String := "SkyBox"
def TX11 : u_T := fun k => match k with
  | 0 => ("SkyBox", "tape", "LSkyBox$Tape;", true)
  | 1 => ("SkyBox", "reader", "LSkyBox$Reader;", true)
  | 2 => ("SkyBox", "show", "LSkyBox$Show;", true)
  | 3 => ("SkyBox", "facts", "LSkyBox$Facts;", true)
  | 4 => ("SkyBox", "sky", "LSkyBox$Sky;", true)
  | 5 => ("SkyBox", "planner", "LSkyBox$Planner;", true)
  | 6 => ("SkyBox", "planned", "LSkyBox$Flights;", true)
  | 7 => ("SkyBox", "isPlanned", "Z", false)
  | 8 => ("SkyBox", "text", "LSkyBox$Text;", false)
  | 9 => ("SkyBox", "draft", "LSkyBox$Text;", false)
  | _ => ("SkyBox", "faultPlace", "I", false)
def tyX11 : Nat → FieldType := fun k => match k with
  | 0 => .object "SkyBox$Tape"
  | 1 => .object "SkyBox$Reader"
  | 2 => .object "SkyBox$Show"
  | 3 => .object "SkyBox$Facts"
  | 4 => .object "SkyBox$Sky"
  | 5 => .object "SkyBox$Planner"
  | 6 => .object "SkyBox$Flights"
  | 7 => .boolean
  | 8 => .object "SkyBox$Text"
  | 9 => .object "SkyBox$Text"
  | _ => .int
abbrev wsX110 : List Cond := u_ws RX11 TX11 11
theorem nmX11 : ∀ a, a < 11 → ∀ b, b < 11 → a ≠ b → (TX11 a).2.1 ≠ (TX11 b).2.1 := by decide +kernel
theorem tyX11_ok : ∀ k, k < 11 → parseFieldDescriptor (TX11 k).2.2.1 = some (tyX11 k) := by decide +kernel
abbrev cX11_init : ByteArray := prog_1_method_1_code
def yX11_init : MethodName := ⟨RX11, "<init>", "()V"⟩
abbrev cX11_feed : ByteArray := prog_1_method_2_code
def yX11_feed : MethodName := ⟨RX11, "feed", "(IIIII)I"⟩
abbrev cX11_back : ByteArray := prog_1_method_3_code
def yX11_back : MethodName := ⟨RX11, "back", "(I)I"⟩
abbrev cX11_read : ByteArray := prog_1_method_4_code
def yX11_read : MethodName := ⟨RX11, "read", "()I"⟩
abbrev cX11_place : ByteArray := prog_1_method_5_code
def yX11_place : MethodName := ⟨RX11, "place", "()I"⟩
abbrev cX11_act : ByteArray := prog_1_method_6_code
def yX11_act : MethodName := ⟨RX11, "act", "(IIIIII)I"⟩
abbrev cX11_figure : ByteArray := prog_1_method_7_code
def yX11_figure : MethodName := ⟨RX11, "figure", "(IIIIZ)I"⟩
abbrev cX11_falls : ByteArray := prog_1_method_8_code
def yX11_falls : MethodName := ⟨RX11, "falls", "(I)Z"⟩
abbrev cX11_cell : ByteArray := prog_1_method_9_code
def yX11_cell : MethodName := ⟨RX11, "cell", "(II)Z"⟩
abbrev cX11_ground : ByteArray := prog_1_method_10_code
def yX11_ground : MethodName := ⟨RX11, "ground", "(II)Z"⟩
abbrev cX11_base : ByteArray := prog_1_method_11_code
def yX11_base : MethodName := ⟨RX11, "base", "(II)I"⟩
abbrev cX11_birds : ByteArray := prog_1_method_12_code
def yX11_birds : MethodName := ⟨RX11, "birds", "(II)I"⟩
abbrev cX11_ready : ByteArray := prog_1_method_13_code
def yX11_ready : MethodName := ⟨RX11, "ready", "(II)I"⟩
abbrev cX11_away : ByteArray := prog_1_method_14_code
def yX11_away : MethodName := ⟨RX11, "away", "(II)I"⟩
abbrev cX11_refused : ByteArray := prog_1_method_15_code
def yX11_refused : MethodName := ⟨RX11, "refused", "(II)I"⟩
abbrev cX11_length : ByteArray := prog_1_method_16_code
def yX11_length : MethodName := ⟨RX11, "length", "(II)I"⟩
abbrev cX11_baseIn : ByteArray := prog_1_method_17_code
def yX11_baseIn : MethodName := ⟨RX11, "baseIn", "(II)I"⟩
abbrev cX11_plan : ByteArray := prog_1_method_18_code
def yX11_plan : MethodName := ⟨RX11, "plan", "(I)I"⟩
abbrev cX11_mend : ByteArray := prog_1_method_19_code
def yX11_mend : MethodName := ⟨RX11, "mend", "(I)I"⟩
abbrev cX11_order : ByteArray := prog_1_method_20_code
def yX11_order : MethodName := ⟨RX11, "order", "(I)I"⟩
abbrev cX11_told : ByteArray := prog_1_method_21_code
def yX11_told : MethodName := ⟨RX11, "told", "(II)I"⟩
abbrev cX11_out : ByteArray := prog_1_method_22_code
def yX11_out : MethodName := ⟨RX11, "out", "(III)I"⟩
abbrev cX11_can : ByteArray := prog_1_method_23_code
def yX11_can : MethodName := ⟨RX11, "can", "(IIIII)I"⟩
abbrev cX11_runway : ByteArray := prog_1_method_24_code
def yX11_runway : MethodName := ⟨RX11, "runway", "(I)I"⟩
abbrev cX11_count : ByteArray := prog_1_method_25_code
def yX11_count : MethodName := ⟨RX11, "count", "(I)I"⟩
abbrev cX11_isWithin : ByteArray := prog_1_method_26_code
def yX11_isWithin : MethodName := ⟨RX11, "isWithin", "(III)Z"⟩
abbrev cX11_isMinute : ByteArray := prog_1_method_27_code
def yX11_isMinute : MethodName := ⟨RX11, "isMinute", "(I)Z"⟩
abbrev cX11_isBase : ByteArray := prog_1_method_28_code
def yX11_isBase : MethodName := ⟨RX11, "isBase", "(I)Z"⟩
abbrev cX11_closeBox : ByteArray := prog_1_method_29_code
def yX11_closeBox : MethodName := ⟨RX11, "closeBox", "(II)I"⟩
abbrev cX11_isOrder : ByteArray := prog_1_method_30_code
def yX11_isOrder : MethodName := ⟨RX11, "isOrder", "(IIII)Z"⟩
abbrev cX11_isActOrNone : ByteArray := prog_1_method_31_code
def yX11_isActOrNone : MethodName := ⟨RX11, "isActOrNone", "(I)Z"⟩
abbrev cX11_isTwice : ByteArray := prog_1_method_32_code
def yX11_isTwice : MethodName := ⟨RX11, "isTwice", "(II)Z"⟩
abbrev cX11_prepare : ByteArray := prog_1_method_33_code
def yX11_prepare : MethodName := ⟨RX11, "prepare", "(I)V"⟩
def RX12 : String := "SkyBoxModel"
def TX12 : u_T := fun k => match k with
  | 0 => ("SkyBoxModel", "thrown", "I", false)
  | 1 => ("SkyBoxModel", "tape", "[B", true)
  | 2 => ("SkyBoxModel", "taped", "I", false)
  | 3 => ("SkyBoxModel", "text", "[B", true)
  | 4 => ("SkyBoxModel", "size", "I", false)
  | 5 => ("SkyBoxModel", "tKind", "[I", true)
  | 6 => ("SkyBoxModel", "tPlace", "[I", true)
  | 7 => ("SkyBoxModel", "tValue", "[I", true)
  | 8 => ("SkyBoxModel", "tName", "[J", true)
  | 9 => ("SkyBoxModel", "keys", "[J", true)
  | 10 => ("SkyBoxModel", "tokens", "I", false)
  | 11 => ("SkyBoxModel", "t", "I", false)
  | 12 => ("SkyBoxModel", "open", "I", false)
  | 13 => ("SkyBoxModel", "fault", "I", false)
  | 14 => ("SkyBoxModel", "faultPlace", "I", false)
  | 15 => ("SkyBoxModel", "worst", "I", false)
  | 16 => ("SkyBoxModel", "worstPlace", "I", false)
  | 17 => ("SkyBoxModel", "place", "I", false)
  | 18 => ("SkyBoxModel", "live", "I", false)
  | 19 => ("SkyBoxModel", "side", "I", false)
  | 20 => ("SkyBoxModel", "rules", "[I", true)
  | 21 => ("SkyBoxModel", "ruleSort", "[I", true)
  | 22 => ("SkyBoxModel", "ruleFrom", "[I", true)
  | 23 => ("SkyBoxModel", "ruleTo", "[I", true)
  | 24 => ("SkyBoxModel", "relFirst", "[I", true)
  | 25 => ("SkyBoxModel", "relLast", "[I", true)
  | 26 => ("SkyBoxModel", "relations", "[I", true)
  | 27 => ("SkyBoxModel", "relSort", "[I", true)
  | 28 => ("SkyBoxModel", "relLeft", "[I", true)
  | 29 => ("SkyBoxModel", "relRight", "[I", true)
  | 30 => ("SkyBoxModel", "relEnd", "[I", true)
  | 31 => ("SkyBoxModel", "relOr", "[Z", true)
  | 32 => ("SkyBoxModel", "codes", "I", false)
  | 33 => ("SkyBoxModel", "code", "[I", true)
  | 34 => ("SkyBoxModel", "codeInt", "[I", true)
  | 35 => ("SkyBoxModel", "waits", "[I", true)
  | 36 => ("SkyBoxModel", "waiting", "I", false)
  | 37 => ("SkyBoxModel", "acts", "I", false)
  | 38 => ("SkyBoxModel", "kind", "[I", true)
  | 39 => ("SkyBoxModel", "pilot", "[I", true)
  | 40 => ("SkyBoxModel", "worth", "[I", true)
  | 41 => ("SkyBoxModel", "climb", "[I", true)
  | 42 => ("SkyBoxModel", "home", "[I", true)
  | 43 => ("SkyBoxModel", "fuel", "[I", true)
  | 44 => ("SkyBoxModel", "figures", "[I", true)
  | 45 => ("SkyBoxModel", "figMinutes", "[I", true)
  | 46 => ("SkyBoxModel", "figSpeed", "[I", true)
  | 47 => ("SkyBoxModel", "figHeight", "[I", true)
  | 48 => ("SkyBoxModel", "isHigh", "[Z", true)
  | 49 => ("SkyBoxModel", "falls", "I", false)
  | 50 => ("SkyBoxModel", "cell", "[I", true)
  | 51 => ("SkyBoxModel", "wind", "I", false)
  | 52 => ("SkyBoxModel", "line", "I", false)
  | 53 => ("SkyBoxModel", "facts", "I", false)
  | 54 => ("SkyBoxModel", "factSort", "[I", true)
  | 55 => ("SkyBoxModel", "factA", "[I", true)
  | 56 => ("SkyBoxModel", "factB", "[I", true)
  | 57 => ("SkyBoxModel", "bases", "[I", true)
  | 58 => ("SkyBoxModel", "isShut", "[Z", true)
  | 59 => ("SkyBoxModel", "readyAt", "[I", true)
  | 60 => ("SkyBoxModel", "variables", "[I", true)
  | 61 => ("SkyBoxModel", "pile", "[I", true)
  | 62 => ("SkyBoxModel", "placed", "I", false)
  | 63 => ("SkyBoxModel", "row", "[I", true)
  | 64 => ("SkyBoxModel", "takesOff", "[I", true)
  | 65 => ("SkyBoxModel", "begins", "[I", true)
  | 66 => ("SkyBoxModel", "ends", "[I", true)
  | 67 => ("SkyBoxModel", "lands", "[I", true)
  | 68 => ("SkyBoxModel", "isPlanned", "Z", false)
  | 69 => ("SkyBoxModel", "many", "I", false)
  | 70 => ("SkyBoxModel", "order", "[I", true)
  | 71 => ("SkyBoxModel", "pOff", "[I", true)
  | 72 => ("SkyBoxModel", "pBegin", "[I", true)
  | 73 => ("SkyBoxModel", "pEnd", "[I", true)
  | 74 => ("SkyBoxModel", "pLand", "[I", true)
  | 75 => ("SkyBoxModel", "bestMany", "I", false)
  | 76 => ("SkyBoxModel", "bestWorth", "I", false)
  | 77 => ("SkyBoxModel", "bestSame", "I", false)
  | 78 => ("SkyBoxModel", "bestLast", "I", false)
  | 79 => ("SkyBoxModel", "bestRow", "[I", true)
  | 80 => ("SkyBoxModel", "bestOff", "[I", true)
  | 81 => ("SkyBoxModel", "bestBegin", "[I", true)
  | 82 => ("SkyBoxModel", "bestEnd", "[I", true)
  | 83 => ("SkyBoxModel", "bestLand", "[I", true)
  | _ => ("SkyBoxModel", "tried", "[I", true)
def tyX12 : Nat → FieldType := fun k => match k with
  | 0 => .int
  | 1 => .array .byte
  | 2 => .int
  | 3 => .array .byte
  | 4 => .int
  | 5 => .array .int
  | 6 => .array .int
  | 7 => .array .int
  | 8 => .array .long
  | 9 => .array .long
  | 10 => .int
  | 11 => .int
  | 12 => .int
  | 13 => .int
  | 14 => .int
  | 15 => .int
  | 16 => .int
  | 17 => .int
  | 18 => .int
  | 19 => .int
  | 20 => .array .int
  | 21 => .array .int
  | 22 => .array .int
  | 23 => .array .int
  | 24 => .array .int
  | 25 => .array .int
  | 26 => .array .int
  | 27 => .array .int
  | 28 => .array .int
  | 29 => .array .int
  | 30 => .array .int
  | 31 => .array .boolean
  | 32 => .int
  | 33 => .array .int
  | 34 => .array .int
  | 35 => .array .int
  | 36 => .int
  | 37 => .int
  | 38 => .array .int
  | 39 => .array .int
  | 40 => .array .int
  | 41 => .array .int
  | 42 => .array .int
  | 43 => .array .int
  | 44 => .array .int
  | 45 => .array .int
  | 46 => .array .int
  | 47 => .array .int
  | 48 => .array .boolean
  | 49 => .int
  | 50 => .array .int
  | 51 => .int
  | 52 => .int
  | 53 => .int
  | 54 => .array .int
  | 55 => .array .int
  | 56 => .array .int
  | 57 => .array .int
  | 58 => .array .boolean
  | 59 => .array .int
  | 60 => .array .int
  | 61 => .array .int
  | 62 => .int
  | 63 => .array .int
  | 64 => .array .int
  | 65 => .array .int
  | 66 => .array .int
  | 67 => .array .int
  | 68 => .boolean
  | 69 => .int
  | 70 => .array .int
  | 71 => .array .int
  | 72 => .array .int
  | 73 => .array .int
  | 74 => .array .int
  | 75 => .int
  | 76 => .int
  | 77 => .int
  | 78 => .int
  | 79 => .array .int
  | 80 => .array .int
  | 81 => .array .int
  | 82 => .array .int
  | 83 => .array .int
  | _ => .array .int
abbrev wsX120 : List Cond := u_ws RX12 TX12 85
theorem nmX12 : ∀ a, a < 85 → ∀ b, b < 85 → a ≠ b → (TX12 a).2.1 ≠ (TX12 b).2.1 := by decide +kernel
theorem tyX12_ok : ∀ k, k < 85 → parseFieldDescriptor (TX12 k).2.2.1 = some (tyX12 k) := by decide +kernel
abbrev cX12_init : ByteArray := prog_14_method_2_code
def yX12_init : MethodName := ⟨RX12, "<init>", "()V"⟩
abbrev cX12_feed : ByteArray := prog_14_method_3_code
def yX12_feed : MethodName := ⟨RX12, "feed", "(IIIII)I"⟩
abbrev cX12_put : ByteArray := prog_14_method_4_code
def yX12_put : MethodName := ⟨RX12, "put", "(I)V"⟩
abbrev cX12_back : ByteArray := prog_14_method_5_code
def yX12_back : MethodName := ⟨RX12, "back", "(I)I"⟩
abbrev cX12_at : ByteArray := prog_14_method_6_code
def yX12_at : MethodName := ⟨RX12, "at", "(I)I"⟩
abbrev cX12_isDigit : ByteArray := prog_14_method_7_code
def yX12_isDigit : MethodName := ⟨RX12, "isDigit", "(I)Z"⟩
abbrev cX12_isLetter : ByteArray := prog_14_method_8_code
def yX12_isLetter : MethodName := ⟨RX12, "isLetter", "(I)Z"⟩
abbrev cX12_more : ByteArray := prog_14_method_9_code
def yX12_more : MethodName := ⟨RX12, "more", "(JI)J"⟩
abbrev cX12_word : ByteArray := prog_14_method_10_code
def yX12_word : MethodName := ⟨RX12, "word", "(IIIIIII)J"⟩
abbrev cX12_token : ByteArray := prog_14_method_11_code
def yX12_token : MethodName := ⟨RX12, "token", "(IIIJ)V"⟩
abbrev cX12_cut : ByteArray := prog_14_method_12_code
def yX12_cut : MethodName := ⟨RX12, "cut", "()V"⟩
abbrev cX12_sign : ByteArray := prog_14_method_13_code
def yX12_sign : MethodName := ⟨RX12, "sign", "(III)I"⟩
abbrev cX12_is : ByteArray := prog_14_method_14_code
def yX12_is : MethodName := ⟨RX12, "is", "(I)Z"⟩
abbrev cX12_fail : ByteArray := prog_14_method_15_code
def yX12_fail : MethodName := ⟨RX12, "fail", "(I)V"⟩
abbrev cX12_next : ByteArray := prog_14_method_17_code
def yX12_next : MethodName := ⟨RX12, "next", "()V"⟩
abbrev cX12_must : ByteArray := prog_14_method_18_code
def yX12_must : MethodName := ⟨RX12, "must", "(I)V"⟩
abbrev cX12_read : ByteArray := prog_14_method_19_code
def yX12_read : MethodName := ⟨RX12, "read", "()I"⟩
abbrev cX12_place : ByteArray := prog_14_method_20_code
def yX12_place : MethodName := ⟨RX12, "place", "()I"⟩
abbrev cX12_tellRule : ByteArray := prog_14_method_21_code
def yX12_tellRule : MethodName := ⟨RX12, "tellRule", "()V"⟩
abbrev cX12_relation : ByteArray := prog_14_method_22_code
def yX12_relation : MethodName := ⟨RX12, "relation", "(Z)V"⟩
abbrev cX12_emit : ByteArray := prog_14_method_23_code
def yX12_emit : MethodName := ⟨RX12, "emit", "(II)V"⟩
abbrev cX12_comesOut : ByteArray := prog_14_method_24_code
def yX12_comesOut : MethodName := ⟨RX12, "comesOut", "(Z)V"⟩
abbrev cX12_expression : ByteArray := prog_14_method_25_code
def yX12_expression : MethodName := ⟨RX12, "expression", "()V"⟩
abbrev cX12_isAct : ByteArray := prog_14_method_26_code
def yX12_isAct : MethodName := ⟨RX12, "isAct", "(I)Z"⟩
abbrev cX12_isMinute : ByteArray := prog_14_method_27_code
def yX12_isMinute : MethodName := ⟨RX12, "isMinute", "(I)Z"⟩
abbrev cX12_isKnown : ByteArray := prog_14_method_28_code
def yX12_isKnown : MethodName := ⟨RX12, "isKnown", "(I)Z"⟩
abbrev cX12_act : ByteArray := prog_14_method_29_code
def yX12_act : MethodName := ⟨RX12, "act", "(IIIIII)I"⟩
abbrev cX12_figure : ByteArray := prog_14_method_30_code
def yX12_figure : MethodName := ⟨RX12, "figure", "(IIIIZ)I"⟩
abbrev cX12_falls : ByteArray := prog_14_method_31_code
def yX12_falls : MethodName := ⟨RX12, "falls", "(I)Z"⟩
abbrev cX12_cell : ByteArray := prog_14_method_32_code
def yX12_cell : MethodName := ⟨RX12, "cell", "(II)Z"⟩
abbrev cX12_ground : ByteArray := prog_14_method_33_code
def yX12_ground : MethodName := ⟨RX12, "ground", "(II)Z"⟩
abbrev cX12_fact : ByteArray := prog_14_method_34_code
def yX12_fact : MethodName := ⟨RX12, "fact", "(III)I"⟩
abbrev cX12_isSpan : ByteArray := prog_14_method_35_code
def yX12_isSpan : MethodName := ⟨RX12, "isSpan", "(II)Z"⟩
abbrev cX12_base : ByteArray := prog_14_method_36_code
def yX12_base : MethodName := ⟨RX12, "base", "(II)I"⟩
abbrev cX12_birds : ByteArray := prog_14_method_37_code
def yX12_birds : MethodName := ⟨RX12, "birds", "(II)I"⟩
abbrev cX12_ready : ByteArray := prog_14_method_38_code
def yX12_ready : MethodName := ⟨RX12, "ready", "(II)I"⟩
abbrev cX12_away : ByteArray := prog_14_method_39_code
def yX12_away : MethodName := ⟨RX12, "away", "(II)I"⟩
abbrev cX12_isRefused : ByteArray := prog_14_method_40_code
def yX12_isRefused : MethodName := ⟨RX12, "isRefused", "(I)Z"⟩
abbrev cX12_refused : ByteArray := prog_14_method_41_code
def yX12_refused : MethodName := ⟨RX12, "refused", "(II)I"⟩
abbrev cX12_lengthOf : ByteArray := prog_14_method_42_code
def yX12_lengthOf : MethodName := ⟨RX12, "lengthOf", "(II)I"⟩
abbrev cX12_length : ByteArray := prog_14_method_43_code
def yX12_length : MethodName := ⟨RX12, "length", "(II)I"⟩
abbrev cX12_knows : ByteArray := prog_14_method_44_code
def yX12_knows : MethodName := ⟨RX12, "knows", "(I)V"⟩
abbrev cX12_baseIn : ByteArray := prog_14_method_45_code
def yX12_baseIn : MethodName := ⟨RX12, "baseIn", "(II)I"⟩
abbrev cX12_value : ByteArray := prog_14_method_46_code
def yX12_value : MethodName := ⟨RX12, "value", "(II)I"⟩
abbrev cX12_holds : ByteArray := prog_14_method_47_code
def yX12_holds : MethodName := ⟨RX12, "holds", "(I)Z"⟩
abbrev cX12_ruleOf : ByteArray := prog_14_method_48_code
def yX12_ruleOf : MethodName := ⟨RX12, "ruleOf", "(I)I"⟩
abbrev cX12_heldOf : ByteArray := prog_14_method_49_code
def yX12_heldOf : MethodName := ⟨RX12, "heldOf", "(I)I"⟩
abbrev cX12_asks : ByteArray := prog_14_method_50_code
def yX12_asks : MethodName := ⟨RX12, "asks", "(IIIII)V"⟩
abbrev cX12_out : ByteArray := prog_14_method_51_code
def yX12_out : MethodName := ⟨RX12, "out", "(III)I"⟩
abbrev cX12_isTaken : ByteArray := prog_14_method_52_code
def yX12_isTaken : MethodName := ⟨RX12, "isTaken", "(I)Z"⟩
abbrev cX12_isOpen : ByteArray := prog_14_method_53_code
def yX12_isOpen : MethodName := ⟨RX12, "isOpen", "(II)Z"⟩
abbrev cX12_places : ByteArray := prog_14_method_54_code
def yX12_places : MethodName := ⟨RX12, "places", "(I)Z"⟩
abbrev cX12_can : ByteArray := prog_14_method_55_code
def yX12_can : MethodName := ⟨RX12, "can", "(IIIII)I"⟩
abbrev cX12_looks : ByteArray := prog_14_method_56_code
def yX12_looks : MethodName := ⟨RX12, "looks", "(Z)V"⟩
abbrev cX12_makes : ByteArray := prog_14_method_57_code
def yX12_makes : MethodName := ⟨RX12, "makes", "(IZ)I"⟩
abbrev cX12_plan : ByteArray := prog_14_method_58_code
def yX12_plan : MethodName := ⟨RX12, "plan", "(I)I"⟩
abbrev cX12_mend : ByteArray := prog_14_method_59_code
def yX12_mend : MethodName := ⟨RX12, "mend", "(I)I"⟩
abbrev cX12_order : ByteArray := prog_14_method_60_code
def yX12_order : MethodName := ⟨RX12, "order", "(I)I"⟩
abbrev cX12_isIn : ByteArray := prog_14_method_61_code
def yX12_isIn : MethodName := ⟨RX12, "isIn", "(I)Z"⟩
abbrev cX12_told : ByteArray := prog_14_method_62_code
def yX12_told : MethodName := ⟨RX12, "told", "(II)I"⟩
abbrev cX12_runway : ByteArray := prog_14_method_63_code
def yX12_runway : MethodName := ⟨RX12, "runway", "(I)I"⟩
abbrev cX12_count : ByteArray := prog_14_method_64_code
def yX12_count : MethodName := ⟨RX12, "count", "(I)I"⟩
def RJ9 : String := "java/lang/Math"
def TJ9 : u_T := fun k => match k with
  | _ => ("", "", "", false)
def tyJ9 : Nat → FieldType := fun k => match k with
  | _ => .int
abbrev wsJ90 : List Cond := u_ws RJ9 TJ9 0
theorem nmJ9 : ∀ a, a < 0 → ∀ b, b < 0 → a ≠ b → (TJ9 a).2.1 ≠ (TJ9 b).2.1 := by decide +kernel
theorem tyJ9_ok : ∀ k, k < 0 → parseFieldDescriptor (TJ9 k).2.2.1 = some (tyJ9 k) := by decide +kernel
abbrev cJ9_max_7cf53 : ByteArray := prog_15_method_65_code
def yJ9_max_7cf53 : MethodName := ⟨RJ9, "max", "(II)I"⟩
abbrev cJ9_min_7cf53 : ByteArray := prog_15_method_69_code
def yJ9_min_7cf53 : MethodName := ⟨RJ9, "min", "(II)I"⟩
def RJ0 : String := "java/lang/String"
def TJ0 : u_T := fun k => match k with
  | _ => ("", "", "", false)
def tyJ0 : Nat → FieldType := fun k => match k with
  | _ => .int
abbrev wsJ00 : List Cond := u_ws RJ0 TJ0 0
theorem nmJ0 : ∀ a, a < 0 → ∀ b, b < 0 → a ≠ b → (TJ0 a).2.1 ≠ (TJ0 b).2.1 := by decide +kernel
theorem tyJ0_ok : ∀ k, k < 0 → parseFieldDescriptor (TJ0 k).2.2.1 = some (tyJ0 k) := by decide +kernel
abbrev cJ0_length_8abf5 : ByteArray := prog_16_method_54_code
def yJ0_length_8abf5 : MethodName := ⟨RJ0, "length", "()I"⟩
abbrev cJ0_charAt_5068e : ByteArray := prog_16_method_56_code
def yJ0_charAt_5068e : MethodName := ⟨RJ0, "charAt", "(I)C"⟩
abbrev cJ0_coder_7d493 : ByteArray := prog_16_method_152_code
def yJ0_coder_7d493 : MethodName := ⟨RJ0, "coder", "()B"⟩
abbrev cJ0_isLatin1_aae02 : ByteArray := prog_16_method_154_code
def yJ0_isLatin1_aae02 : MethodName := ⟨RJ0, "isLatin1", "()Z"⟩
abbrev cJ0_checkIndex_df160 : ByteArray := prog_16_method_155_code
def yJ0_checkIndex_df160 : MethodName := ⟨RJ0, "checkIndex", "(II)V"⟩
def RJ1 : String := "java/lang/StringLatin1"
def TJ1 : u_T := fun k => match k with
  | _ => ("", "", "", false)
def tyJ1 : Nat → FieldType := fun k => match k with
  | _ => .int
abbrev wsJ10 : List Cond := u_ws RJ1 TJ1 0
theorem nmJ1 : ∀ a, a < 0 → ∀ b, b < 0 → a ≠ b → (TJ1 a).2.1 ≠ (TJ1 b).2.1 := by decide +kernel
theorem tyJ1_ok : ∀ k, k < 0 → parseFieldDescriptor (TJ1 k).2.2.1 = some (tyJ1 k) := by decide +kernel
abbrev cJ1_charAt_3b067 : ByteArray := prog_17_method_2_code
def yJ1_charAt_3b067 : MethodName := ⟨RJ1, "charAt", "([BI)C"⟩
def RJ2 : String := "java/lang/StringUTF16"
def TJ2 : u_T := fun k => match k with
  | _ => ("", "", "", false)
def tyJ2 : Nat → FieldType := fun k => match k with
  | _ => .int
abbrev wsJ20 : List Cond := u_ws RJ2 TJ2 0
theorem nmJ2 : ∀ a, a < 0 → ∀ b, b < 0 → a ≠ b → (TJ2 a).2.1 ≠ (TJ2 b).2.1 := by decide +kernel
theorem tyJ2_ok : ∀ k, k < 0 → parseFieldDescriptor (TJ2 k).2.2.1 = some (tyJ2 k) := by decide +kernel
abbrev cJ2_getChar_3b067 : ByteArray := prog_18_method_5_code
def yJ2_getChar_3b067 : MethodName := ⟨RJ2, "getChar", "([BI)C"⟩
abbrev cJ2_length_9d52b : ByteArray := prog_18_method_6_code
def yJ2_length_9d52b : MethodName := ⟨RJ2, "length", "([B)I"⟩
abbrev cJ2_charAt_3b067 : ByteArray := prog_18_method_83_code
def yJ2_charAt_3b067 : MethodName := ⟨RJ2, "charAt", "([BI)C"⟩
abbrev cJ2_checkIndex_2214a : ByteArray := prog_18_method_91_code
def yJ2_checkIndex_2214a : MethodName := ⟨RJ2, "checkIndex", "(I[B)V"⟩
def RJ10 : String := "java/lang/System"
def TJ10 : u_T := fun k => match k with
  | _ => ("", "", "", false)
def tyJ10 : Nat → FieldType := fun k => match k with
  | _ => .int
abbrev wsJ100 : List Cond := u_ws RJ10 TJ10 0
theorem nmJ10 : ∀ a, a < 0 → ∀ b, b < 0 → a ≠ b → (TJ10 a).2.1 ≠ (TJ10 b).2.1 := by decide +kernel
theorem tyJ10_ok : ∀ k, k < 0 → parseFieldDescriptor (TJ10 k).2.2.1 = some (tyJ10 k) := by decide +kernel
def RJ7 : String := "java/util/Arrays"
def TJ7 : u_T := fun k => match k with
  | _ => ("", "", "", false)
def tyJ7 : Nat → FieldType := fun k => match k with
  | _ => .int
abbrev wsJ70 : List Cond := u_ws RJ7 TJ7 0
theorem nmJ7 : ∀ a, a < 0 → ∀ b, b < 0 → a ≠ b → (TJ7 a).2.1 ≠ (TJ7 b).2.1 := by decide +kernel
theorem tyJ7_ok : ∀ k, k < 0 → parseFieldDescriptor (TJ7 k).2.2.1 = some (tyJ7 k) := by decide +kernel
abbrev cJ7_fill_53178 : ByteArray := prog_20_method_103_code
def yJ7_fill_53178 : MethodName := ⟨RJ7, "fill", "([II)V"⟩
def RJ3 : String := "jdk/internal/util/Preconditions"
def TJ3 : u_T := fun k => match k with
  | _ => ("", "", "", false)
def tyJ3 : Nat → FieldType := fun k => match k with
  | _ => .int
abbrev wsJ30 : List Cond := u_ws RJ3 TJ3 0
theorem nmJ3 : ∀ a, a < 0 → ∀ b, b < 0 → a ≠ b → (TJ3 a).2.1 ≠ (TJ3 b).2.1 := by decide +kernel
theorem tyJ3_ok : ∀ k, k < 0 → parseFieldDescriptor (TJ3 k).2.2.1 = some (tyJ3 k) := by decide +kernel
abbrev cJ3_checkIndex_8e157 : ByteArray := prog_21_method_11_code
def yJ3_checkIndex_8e157 : MethodName := ⟨RJ3, "checkIndex", "(IILjava/util/function/BiFunction;)I"⟩
def RL : String := "SkyBoxLaw"
abbrev cL_law : ByteArray := code
def yL_law : MethodName := ⟨RL, "law", "([I)Z"⟩
def wsL_law_r1 : List Cond := [Cond.classLink RL 7 RX11, Cond.instantiable RX11 11, Cond.initialized RX11, Cond.classLink RL 10 RX12, Cond.instantiable RX12 85, Cond.initialized RX12, Cond.methodLink RL 9 yX11_init, Cond.instanceMethod yX11_init, Cond.code yX11_init cX11_init 1 none, Cond.methodLink RX11 1 objectInit, Cond.instanceMethod objectInit, Cond.code objectInit ⟨#[0xb1]⟩ 1 none, Cond.classLink RX11 7 RX9, Cond.instantiable RX9 2, Cond.initialized RX9, Cond.fieldLink RX11 10 "SkyBox" "tape" "LSkyBox$Tape;", Cond.classLink RX11 16 RX5, Cond.instantiable RX5 6, Cond.initialized RX5, Cond.fieldLink RX11 21 "SkyBox" "reader" "LSkyBox$Reader;", Cond.classLink RX11 25 RX7, Cond.instantiable RX7 6, Cond.initialized RX7, Cond.fieldLink RX11 28 "SkyBox" "show" "LSkyBox$Show;"]
def wsL_law_r2 : List Cond := [Cond.classLink RX11 32 RX1, Cond.instantiable RX1 4, Cond.initialized RX1, Cond.fieldLink RX11 35 "SkyBox" "facts" "LSkyBox$Facts;", Cond.classLink RX11 39 RX8, Cond.instantiable RX8 3, Cond.initialized RX8, Cond.fieldLink RX11 42 "SkyBox" "sky" "LSkyBox$Sky;", Cond.classLink RX11 46 RX10, Cond.instantiable RX10 8, Cond.initialized RX10, Cond.fieldLink RX11 49 "SkyBox" "text" "LSkyBox$Text;", Cond.fieldLink RX11 53 "SkyBox" "draft" "LSkyBox$Text;", Cond.classLink RX11 56 RX4, Cond.instantiable RX4 8, Cond.initialized RX4, Cond.fieldLink RX11 61 "SkyBox" "planner" "LSkyBox$Planner;", Cond.classLink RX11 65 RX3, Cond.instantiable RX3 7, Cond.initialized RX3, Cond.fieldLink RX11 68 "SkyBox" "planned" "LSkyBox$Flights;", Cond.fieldLink RX11 72 "SkyBox" "isPlanned" "Z", Cond.fieldLink RX11 76 "SkyBox" "faultPlace" "I", Cond.methodLink RX11 9 yX9_init]
def wsL_law_r3 : List Cond := [Cond.instanceMethod yX9_init, Cond.code yX9_init cX9_init 1 none, Cond.methodLink RX9 1 objectInit, Cond.arrayClass .byte, Cond.fieldLink RX9 9 "SkyBox$Tape" "bytes" "[B", Cond.fieldLink RX9 13 "SkyBox$Tape" "size" "I", Cond.methodLink RX11 18 yX5_init, Cond.instanceMethod yX5_init, Cond.code yX5_init cX5_init 2 none, Cond.methodLink RX5 3 objectInit, Cond.arrayClass .int, Cond.fieldLink RX5 9 "SkyBox$Reader" "waiting" "[I", Cond.classLink RX5 13 RX6, Cond.instantiable RX6 5, Cond.initialized RX6, Cond.fieldLink RX5 18 "SkyBox$Reader" "scanner" "LSkyBox$Scanner;", Cond.fieldLink RX5 22 "SkyBox$Reader" "waitingSize" "I", Cond.fieldLink RX5 26 "SkyBox$Reader" "state" "I", Cond.fieldLink RX5 29 "SkyBox$Reader" "side" "I", Cond.fieldLink RX5 32 "SkyBox$Reader" "depth" "I", Cond.methodLink RX5 15 yX6_init, Cond.instanceMethod yX6_init, Cond.code yX6_init cX6_init 2 none, Cond.methodLink RX6 1 objectInit]
def wsL_law_r4 : List Cond := [Cond.fieldLink RX6 7 "SkyBox$Scanner" "tape" "LSkyBox$Tape;", Cond.methodLink RX6 13 yX6_restart, Cond.instanceMethod yX6_restart, Cond.selects RX6 yX6_restart yX6_restart, Cond.code yX6_restart cX6_restart 1 none, Cond.fieldLink RX6 16 "SkyBox$Scanner" "next" "I", Cond.fieldLink RX6 20 "SkyBox$Scanner" "kind" "I", Cond.fieldLink RX6 23 "SkyBox$Scanner" "value" "I", Cond.fieldLink RX6 26 "SkyBox$Scanner" "place" "I", Cond.methodLink RX11 27 yX7_init, Cond.instanceMethod yX7_init, Cond.code yX7_init cX7_init 1 none, Cond.methodLink RX7 3 objectInit, Cond.classLink RX7 9 RX0, Cond.fieldLink RX7 11 "SkyBox$Show" "acts" "[LSkyBox$Act;", Cond.fieldLink RX7 17 "SkyBox$Show" "falls" "[I", Cond.fieldLink RX7 21 "SkyBox$Show" "size" "I", Cond.fieldLink RX7 25 "SkyBox$Show" "fallsMissing" "Z", Cond.fieldLink RX7 29 "SkyBox$Show" "wind" "I", Cond.fieldLink RX7 32 "SkyBox$Show" "line" "I", Cond.methodLink RX11 34 yX1_init, Cond.instanceMethod yX1_init, Cond.code yX1_init cX1_init 1 none, Cond.methodLink RX1 3 objectInit]
def wsL_law_r5 : List Cond := [Cond.fieldLink RX1 11 "SkyBox$Facts" "kinds" "[I", Cond.fieldLink RX1 15 "SkyBox$Facts" "firsts" "[I", Cond.fieldLink RX1 18 "SkyBox$Facts" "seconds" "[I", Cond.fieldLink RX1 21 "SkyBox$Facts" "size" "I", Cond.methodLink RX11 41 yX8_init, Cond.instanceMethod yX8_init, Cond.code yX8_init cX8_init 1 none, Cond.methodLink RX8 3 objectInit, Cond.fieldLink RX8 9 "SkyBox$Sky" "base" "[I", Cond.fieldLink RX8 15 "SkyBox$Sky" "openTill" "[I", Cond.fieldLink RX8 18 "SkyBox$Sky" "ready" "[I", Cond.methodLink RX8 21 yJ7_fill_53178, Cond.static yJ7_fill_53178, Cond.initialized RJ7, Cond.code yJ7_fill_53178 cJ7_fill_53178 4 none, Cond.methodLink RX11 48 yX10_init, Cond.instanceMethod yX10_init, Cond.code yX10_init cX10_init 1 none, Cond.methodLink RX10 5 objectInit, Cond.fieldLink RX10 13 "SkyBox$Text" "kinds" "[I", Cond.fieldLink RX10 17 "SkyBox$Text" "starts" "[I", Cond.fieldLink RX10 20 "SkyBox$Text" "conditions" "[I", Cond.fieldLink RX10 23 "SkyBox$Text" "ends" "[I", Cond.fieldLink RX10 26 "SkyBox$Text" "code" "[I"]
def wsL_law_r6 : List Cond := [Cond.fieldLink RX10 29 "SkyBox$Text" "stack" "[I", Cond.fieldLink RX10 32 "SkyBox$Text" "codeSize" "I", Cond.fieldLink RX10 36 "SkyBox$Text" "size" "I", Cond.methodLink RX11 58 yX4_init, Cond.instanceMethod yX4_init, Cond.code yX4_init cX4_init 4 none, Cond.methodLink RX4 3 objectInit, Cond.fieldLink RX4 11 "SkyBox$Planner" "vars" "[I", Cond.fieldLink RX4 17 "SkyBox$Planner" "lengths" "[I", Cond.arrayClass .boolean, Cond.fieldLink RX4 20 "SkyBox$Planner" "taken" "[Z", Cond.classLink RX4 24 RX3, Cond.fieldLink RX4 27 "SkyBox$Planner" "best" "LSkyBox$Flights;", Cond.fieldLink RX4 31 "SkyBox$Planner" "trial" "LSkyBox$Flights;", Cond.fieldLink RX4 34 "SkyBox$Planner" "show" "LSkyBox$Show;", Cond.fieldLink RX4 38 "SkyBox$Planner" "sky" "LSkyBox$Sky;", Cond.fieldLink RX4 42 "SkyBox$Planner" "text" "LSkyBox$Text;", Cond.methodLink RX4 26 yX3_init, Cond.instanceMethod yX3_init, Cond.code yX3_init cX3_init 1 none, Cond.methodLink RX3 3 objectInit, Cond.fieldLink RX3 9 "SkyBox$Flights" "order" "[I", Cond.fieldLink RX3 15 "SkyBox$Flights" "takeOff" "[I", Cond.fieldLink RX3 18 "SkyBox$Flights" "begin" "[I"]
def wsL_law_r7 : List Cond := [Cond.fieldLink RX3 21 "SkyBox$Flights" "minutes" "[I", Cond.fieldLink RX3 24 "SkyBox$Flights" "landing" "[I", Cond.methodLink RX3 27 yX3_clear, Cond.instanceMethod yX3_clear, Cond.selects RX3 yX3_clear yX3_clear, Cond.code yX3_clear cX3_clear 1 none, Cond.fieldLink RX3 36 "SkyBox$Flights" "size" "I", Cond.fieldLink RX3 40 "SkyBox$Flights" "worth" "I", Cond.methodLink RX3 30 yJ7_fill_53178, Cond.methodLink RX11 67 yX3_init, Cond.methodLink RL 12 yX12_init, Cond.instanceMethod yX12_init, Cond.code yX12_init cX12_init 1 none, Cond.methodLink RX12 7 objectInit, Cond.fieldLink RX12 13 "SkyBoxModel" "tape" "[B", Cond.fieldLink RX12 17 "SkyBoxModel" "text" "[B", Cond.fieldLink RX12 20 "SkyBoxModel" "tKind" "[I", Cond.fieldLink RX12 24 "SkyBoxModel" "tPlace" "[I", Cond.fieldLink RX12 27 "SkyBoxModel" "tValue" "[I", Cond.arrayClass .long, Cond.fieldLink RX12 30 "SkyBoxModel" "tName" "[J", Cond.fieldLink RX12 34 "SkyBoxModel" "keys" "[J", Cond.fieldLink RX12 37 "SkyBoxModel" "place" "I", Cond.fieldLink RX12 40 "SkyBoxModel" "rules" "[I"]
def wsL_law_r8 : List Cond := [Cond.fieldLink RX12 43 "SkyBoxModel" "ruleSort" "[I", Cond.fieldLink RX12 46 "SkyBoxModel" "ruleFrom" "[I", Cond.fieldLink RX12 49 "SkyBoxModel" "ruleTo" "[I", Cond.fieldLink RX12 52 "SkyBoxModel" "relFirst" "[I", Cond.fieldLink RX12 55 "SkyBoxModel" "relLast" "[I", Cond.fieldLink RX12 58 "SkyBoxModel" "relations" "[I", Cond.fieldLink RX12 61 "SkyBoxModel" "relSort" "[I", Cond.fieldLink RX12 64 "SkyBoxModel" "relLeft" "[I", Cond.fieldLink RX12 67 "SkyBoxModel" "relRight" "[I", Cond.fieldLink RX12 70 "SkyBoxModel" "relEnd" "[I", Cond.fieldLink RX12 73 "SkyBoxModel" "relOr" "[Z", Cond.fieldLink RX12 77 "SkyBoxModel" "code" "[I", Cond.fieldLink RX12 80 "SkyBoxModel" "codeInt" "[I", Cond.fieldLink RX12 83 "SkyBoxModel" "waits" "[I", Cond.fieldLink RX12 86 "SkyBoxModel" "kind" "[I", Cond.fieldLink RX12 89 "SkyBoxModel" "pilot" "[I", Cond.fieldLink RX12 92 "SkyBoxModel" "worth" "[I", Cond.fieldLink RX12 95 "SkyBoxModel" "climb" "[I", Cond.fieldLink RX12 98 "SkyBoxModel" "home" "[I", Cond.fieldLink RX12 101 "SkyBoxModel" "fuel" "[I", Cond.fieldLink RX12 104 "SkyBoxModel" "figures" "[I", Cond.fieldLink RX12 107 "SkyBoxModel" "figMinutes" "[I", Cond.fieldLink RX12 110 "SkyBoxModel" "figSpeed" "[I", Cond.fieldLink RX12 113 "SkyBoxModel" "figHeight" "[I"]
def wsL_law_r9 : List Cond := [Cond.fieldLink RX12 116 "SkyBoxModel" "isHigh" "[Z", Cond.fieldLink RX12 119 "SkyBoxModel" "cell" "[I", Cond.fieldLink RX12 122 "SkyBoxModel" "factSort" "[I", Cond.fieldLink RX12 125 "SkyBoxModel" "factA" "[I", Cond.fieldLink RX12 128 "SkyBoxModel" "factB" "[I", Cond.fieldLink RX12 131 "SkyBoxModel" "bases" "[I", Cond.fieldLink RX12 134 "SkyBoxModel" "isShut" "[Z", Cond.fieldLink RX12 137 "SkyBoxModel" "readyAt" "[I", Cond.fieldLink RX12 140 "SkyBoxModel" "variables" "[I", Cond.fieldLink RX12 143 "SkyBoxModel" "pile" "[I", Cond.fieldLink RX12 146 "SkyBoxModel" "row" "[I", Cond.fieldLink RX12 149 "SkyBoxModel" "takesOff" "[I", Cond.fieldLink RX12 152 "SkyBoxModel" "begins" "[I", Cond.fieldLink RX12 155 "SkyBoxModel" "ends" "[I", Cond.fieldLink RX12 158 "SkyBoxModel" "lands" "[I", Cond.fieldLink RX12 161 "SkyBoxModel" "order" "[I", Cond.fieldLink RX12 164 "SkyBoxModel" "pOff" "[I", Cond.fieldLink RX12 167 "SkyBoxModel" "pBegin" "[I", Cond.fieldLink RX12 170 "SkyBoxModel" "pEnd" "[I", Cond.fieldLink RX12 173 "SkyBoxModel" "pLand" "[I", Cond.fieldLink RX12 176 "SkyBoxModel" "bestRow" "[I", Cond.fieldLink RX12 179 "SkyBoxModel" "bestOff" "[I", Cond.fieldLink RX12 182 "SkyBoxModel" "bestBegin" "[I", Cond.fieldLink RX12 185 "SkyBoxModel" "bestEnd" "[I"]
def wsL_law_r10 : List Cond := [Cond.fieldLink RX12 188 "SkyBoxModel" "bestLand" "[I", Cond.fieldLink RX12 191 "SkyBoxModel" "tried" "[I", Cond.fieldLink RX12 198 "SkyBoxModel" "line" "I", Cond.fieldLink RX12 201 "SkyBoxModel" "falls" "I", Cond.methodLink RX12 194 yX12_word, Cond.static yX12_word, Cond.code yX12_word cX12_word 7 (some .long), Cond.methodLink RX12 216 yX12_more, Cond.static yX12_more, Cond.code yX12_more cX12_more 3 (some .long), Cond.constantLong RX12 214 (27), Cond.methodLink RL 13 yX11_feed, Cond.instanceMethod yX11_feed, Cond.selects RX11 yX11_feed yX11_feed, Cond.code yX11_feed cX11_feed 6 (some .int), Cond.fieldLink RX11 88 "SkyBox$Tape" "size" "I", Cond.methodLink RX11 80 yX9_hasRoomFor, Cond.instanceMethod yX9_hasRoomFor, Cond.selects RX9 yX9_hasRoomFor yX9_hasRoomFor, Cond.code yX9_hasRoomFor cX9_hasRoomFor 2 (some .boolean), Cond.methodLink RX11 84 yX9_append, Cond.instanceMethod yX9_append, Cond.selects RX9 yX9_append yX9_append, Cond.code yX9_append cX9_append 3 none]
def wsL_law_r11 : List Cond := [Cond.methodLink RL 17 yX12_feed, Cond.instanceMethod yX12_feed, Cond.selects RX12 yX12_feed yX12_feed, Cond.code yX12_feed cX12_feed 6 (some .int), Cond.fieldLink RX12 204 "SkyBoxModel" "taped" "I", Cond.methodLink RX12 207 yX12_put, Cond.instanceMethod yX12_put, Cond.selects RX12 yX12_put yX12_put, Cond.code yX12_put cX12_put 3 none, Cond.methodLink RL 18 yX11_back, Cond.instanceMethod yX11_back, Cond.selects RX11 yX11_back yX11_back, Cond.code yX11_back cX11_back 2 (some .int), Cond.methodLink RX11 91 yX11_isWithin, Cond.static yX11_isWithin, Cond.code yX11_isWithin cX11_isWithin 3 (some .boolean), Cond.methodLink RL 22 yX12_back, Cond.instanceMethod yX12_back, Cond.selects RX12 yX12_back yX12_back, Cond.code yX12_back cX12_back 2 (some .int), Cond.methodLink RL 23 yX11_read, Cond.instanceMethod yX11_read, Cond.selects RX11 yX11_read yX11_read, Cond.code yX11_read cX11_read 3 (some .int)]
def wsL_law_r12 : List Cond := [Cond.methodLink RX11 95 yX5_compile, Cond.instanceMethod yX5_compile, Cond.selects RX5 yX5_compile yX5_compile, Cond.code yX5_compile cX5_compile 3 (some .int), Cond.fieldLink RX5 45 "SkyBox$Scanner" "kind" "I", Cond.methodLink RX5 38 yX5_start, Cond.instanceMethod yX5_start, Cond.selects RX5 yX5_start yX5_start, Cond.code yX5_start cX5_start 2 none, Cond.methodLink RX5 60 yX10_clear, Cond.instanceMethod yX10_clear, Cond.selects RX10 yX10_clear yX10_clear, Cond.code yX10_clear cX10_clear 1 none, Cond.methodLink RX5 65 yX6_restart, Cond.methodLink RX5 42 yX6_advance, Cond.instanceMethod yX6_advance, Cond.selects RX6 yX6_advance yX6_advance, Cond.code yX6_advance cX6_advance 2 none, Cond.fieldLink RX6 29 "SkyBox$Tape" "size" "I", Cond.methodLink RX6 34 yX9_byteAt, Cond.instanceMethod yX9_byteAt, Cond.selects RX9 yX9_byteAt yX9_byteAt, Cond.code yX9_byteAt cX9_byteAt 2 (some .int), Cond.methodLink RX6 38 yX6_isBlank]
def wsL_law_r13 : List Cond := [Cond.static yX6_isBlank, Cond.code yX6_isBlank cX6_isBlank 1 (some .boolean), Cond.methodLink RX6 42 yX6_isLetter, Cond.static yX6_isLetter, Cond.code yX6_isLetter cX6_isLetter 1 (some .boolean), Cond.methodLink RX6 45 yX6_takeWord, Cond.instanceMethod yX6_takeWord, Cond.selects RX6 yX6_takeWord yX6_takeWord, Cond.code yX6_takeWord cX6_takeWord 2 none, Cond.methodLink RX6 58 yX6_isWord, Cond.instanceMethod yX6_isWord, Cond.selects RX6 yX6_isWord yX6_isWord, Cond.code yX6_isWord cX6_isWord 5 (some .boolean), Cond.methodLink RX6 63 yJ0_length_8abf5, Cond.instanceMethod yJ0_length_8abf5, Cond.selects RJ0 yJ0_length_8abf5 yJ0_length_8abf5, Cond.initialized RJ0, Cond.code yJ0_length_8abf5 cJ0_length_8abf5 1 (some .int), Cond.fieldLink RJ0 9 "java/lang/String" "value" "[B", Cond.methodLink RJ0 335 yJ0_coder_7d493, Cond.instanceMethod yJ0_coder_7d493, Cond.selects RJ0 yJ0_coder_7d493 yJ0_coder_7d493, Cond.code yJ0_coder_7d493 cJ0_coder_7d493 1 (some .byte), Cond.fieldLink RJ0 38 "java/lang/String" "COMPACT_STRINGS" "Z"]
def wsL_law_r14 : List Cond := [Cond.fieldLink RJ0 15 "java/lang/String" "coder" "B", Cond.methodLink RX6 69 yJ0_charAt_5068e, Cond.instanceMethod yJ0_charAt_5068e, Cond.selects RJ0 yJ0_charAt_5068e yJ0_charAt_5068e, Cond.code yJ0_charAt_5068e cJ0_charAt_5068e 2 (some .char), Cond.methodLink RJ0 492 yJ0_isLatin1_aae02, Cond.instanceMethod yJ0_isLatin1_aae02, Cond.selects RJ0 yJ0_isLatin1_aae02 yJ0_isLatin1_aae02, Cond.code yJ0_isLatin1_aae02 cJ0_isLatin1_aae02 1 (some .boolean), Cond.methodLink RJ0 495 yJ1_charAt_3b067, Cond.static yJ1_charAt_3b067, Cond.initialized RJ1, Cond.code yJ1_charAt_3b067 cJ1_charAt_3b067 2 (some .char), Cond.methodLink RJ1 9 yJ0_checkIndex_df160, Cond.static yJ0_checkIndex_df160, Cond.code yJ0_checkIndex_df160 cJ0_checkIndex_df160 2 none, Cond.fieldLink RJ0 1053 "jdk/internal/util/Preconditions" "SIOOBE_FORMATTER" "Ljava/util/function/BiFunction;", Cond.methodLink RJ0 1059 yJ3_checkIndex_8e157, Cond.static yJ3_checkIndex_8e157, Cond.initialized RJ3, Cond.code yJ3_checkIndex_8e157 cJ3_checkIndex_8e157 3 (some .int), Cond.methodLink RJ0 498 yJ2_charAt_3b067, Cond.static yJ2_charAt_3b067, Cond.initialized RJ2]
def wsL_law_r15 : List Cond := [Cond.code yJ2_charAt_3b067 cJ2_charAt_3b067 2 (some .char), Cond.methodLink RJ2 67 yJ2_checkIndex_2214a, Cond.static yJ2_checkIndex_2214a, Cond.code yJ2_checkIndex_2214a cJ2_checkIndex_2214a 2 none, Cond.methodLink RJ2 48 yJ2_length_9d52b, Cond.static yJ2_length_9d52b, Cond.code yJ2_length_9d52b cJ2_length_9d52b 1 (some .int), Cond.methodLink RJ2 414 yJ0_checkIndex_df160, Cond.methodLink RJ2 71 yJ2_getChar_3b067, Cond.static yJ2_getChar_3b067, Cond.code yJ2_getChar_3b067 cJ2_getChar_3b067 2 (some .char), Cond.fieldLink RJ2 44 "java/lang/StringUTF16" "$assertionsDisabled" "Z", Cond.fieldLink RJ2 59 "java/lang/StringUTF16" "HI_BYTE_SHIFT" "I", Cond.fieldLink RJ2 63 "java/lang/StringUTF16" "LO_BYTE_SHIFT" "I", Cond.methodLink RX6 48 yX6_isDigit, Cond.static yX6_isDigit, Cond.code yX6_isDigit cX6_isDigit 1 (some .boolean), Cond.methodLink RX6 51 yX6_takeInt, Cond.instanceMethod yX6_takeInt, Cond.selects RX6 yX6_takeInt yX6_takeInt, Cond.code yX6_takeInt cX6_takeInt 1 none, Cond.methodLink RX6 54 yX6_takeSign, Cond.instanceMethod yX6_takeSign, Cond.selects RX6 yX6_takeSign yX6_takeSign]
def wsL_law_r16 : List Cond := [Cond.code yX6_takeSign cX6_takeSign 3 none, Cond.methodLink RX6 73 yX6_kindOfPair, Cond.static yX6_kindOfPair, Cond.code yX6_kindOfPair cX6_kindOfPair 1 (some .int), Cond.methodLink RX6 76 yX6_kindOfSingle, Cond.static yX6_kindOfSingle, Cond.code yX6_kindOfSingle cX6_kindOfSingle 1 (some .int), Cond.methodLink RX5 48 yX5_goesOnWith, Cond.instanceMethod yX5_goesOnWith, Cond.selects RX5 yX5_goesOnWith yX5_goesOnWith, Cond.code yX5_goesOnWith cX5_goesOnWith 2 (some .boolean), Cond.methodLink RX5 68 yX5_isVar, Cond.static yX5_isVar, Cond.code yX5_isVar cX5_isVar 1 (some .boolean), Cond.methodLink RX5 71 yX5_goesOnBehindUnit, Cond.instanceMethod yX5_goesOnBehindUnit, Cond.selects RX5 yX5_goesOnBehindUnit yX5_goesOnBehindUnit, Cond.code yX5_goesOnBehindUnit cX5_goesOnBehindUnit 2 (some .boolean), Cond.methodLink RX5 74 yX5_isRelation, Cond.static yX5_isRelation, Cond.code yX5_isRelation cX5_isRelation 1 (some .boolean), Cond.methodLink RX5 52 yX5_lacksRoomFor, Cond.instanceMethod yX5_lacksRoomFor, Cond.selects RX5 yX5_lacksRoomFor yX5_lacksRoomFor]
def wsL_law_r17 : List Cond := [Cond.code yX5_lacksRoomFor cX5_lacksRoomFor 4 (some .boolean), Cond.methodLink RX5 77 yX10_isFull, Cond.instanceMethod yX10_isFull, Cond.selects RX10 yX10_isFull yX10_isFull, Cond.code yX10_isFull cX10_isFull 1 (some .boolean), Cond.methodLink RX5 56 yX5_take, Cond.instanceMethod yX5_take, Cond.selects RX5 yX5_take yX5_take, Cond.code yX5_take cX5_take 3 none, Cond.methodLink RX5 81 yX10_openRule, Cond.instanceMethod yX10_openRule, Cond.selects RX10 yX10_openRule yX10_openRule, Cond.code yX10_openRule cX10_openRule 2 none, Cond.methodLink RX5 85 yX5_takeUnit, Cond.instanceMethod yX5_takeUnit, Cond.selects RX5 yX5_takeUnit yX5_takeUnit, Cond.code yX5_takeUnit cX5_takeUnit 3 none, Cond.fieldLink RX5 94 "SkyBox$Scanner" "value" "I", Cond.methodLink RX5 91 yX5_hold, Cond.instanceMethod yX5_hold, Cond.selects RX5 yX5_hold yX5_hold, Cond.code yX5_hold cX5_hold 2 none, Cond.methodLink RX5 97 yX10_emit, Cond.instanceMethod yX10_emit]
def wsL_law_r18 : List Cond := [Cond.selects RX10 yX10_emit yX10_emit, Cond.code yX10_emit cX10_emit 3 none, Cond.methodLink RX5 88 yX5_takeBehindUnit, Cond.instanceMethod yX5_takeBehindUnit, Cond.selects RX5 yX5_takeBehindUnit yX5_takeBehindUnit, Cond.code yX5_takeBehindUnit cX5_takeBehindUnit 3 none, Cond.methodLink RX5 108 Lib.Math.max.name, Cond.static Lib.Math.max.name, Cond.initialized "java/lang/Math", Cond.code Lib.Math.max.name Lib.Math.max.code 2 (some .int), Cond.methodLink RX5 101 yX5_rankOf, Cond.static yX5_rankOf, Cond.code yX5_rankOf cX5_rankOf 1 (some .int), Cond.methodLink RX5 105 yX5_release, Cond.instanceMethod yX5_release, Cond.selects RX5 yX5_release yX5_release, Cond.code yX5_release cX5_release 3 none, Cond.methodLink RX5 114 yX10_closeRule, Cond.instanceMethod yX10_closeRule, Cond.selects RX10 yX10_closeRule yX10_closeRule, Cond.code yX10_closeRule cX10_closeRule 1 none, Cond.methodLink RX5 117 yX10_openCondition, Cond.instanceMethod yX10_openCondition, Cond.selects RX10 yX10_openCondition yX10_openCondition]
def wsL_law_r19 : List Cond := [Cond.code yX10_openCondition cX10_openCondition 1 none, Cond.methodLink RX11 99 yX5_placeReached, Cond.instanceMethod yX5_placeReached, Cond.selects RX5 yX5_placeReached yX5_placeReached, Cond.code yX5_placeReached cX5_placeReached 1 (some .int), Cond.fieldLink RX5 35 "SkyBox$Scanner" "place" "I", Cond.methodLink RL 27 yX12_read, Cond.instanceMethod yX12_read, Cond.selects RX12 yX12_read yX12_read, Cond.code yX12_read cX12_read 2 (some .int), Cond.fieldLink RX12 211 "SkyBoxModel" "size" "I", Cond.fieldLink RX12 245 "SkyBoxModel" "t" "I", Cond.fieldLink RX12 269 "SkyBoxModel" "open" "I", Cond.fieldLink RX12 242 "SkyBoxModel" "fault" "I", Cond.fieldLink RX12 251 "SkyBoxModel" "worst" "I", Cond.fieldLink RX12 272 "SkyBoxModel" "live" "I", Cond.fieldLink RX12 275 "SkyBoxModel" "side" "I", Cond.fieldLink RX12 278 "SkyBoxModel" "codes" "I", Cond.fieldLink RX12 248 "SkyBoxModel" "faultPlace" "I", Cond.methodLink RX12 266 yX12_cut, Cond.instanceMethod yX12_cut, Cond.selects RX12 yX12_cut yX12_cut, Cond.code yX12_cut cX12_cut 8 none, Cond.fieldLink RX12 220 "SkyBoxModel" "tokens" "I"]
def wsL_law_r20 : List Cond := [Cond.methodLink RX12 223 yX12_at, Cond.instanceMethod yX12_at, Cond.selects RX12 yX12_at yX12_at, Cond.code yX12_at cX12_at 2 (some .int), Cond.methodLink RX12 227 yX12_token, Cond.instanceMethod yX12_token, Cond.selects RX12 yX12_token yX12_token, Cond.code yX12_token cX12_token 6 none, Cond.methodLink RX12 231 yX12_isLetter, Cond.static yX12_isLetter, Cond.code yX12_isLetter cX12_isLetter 1 (some .boolean), Cond.methodLink RX12 235 yX12_isDigit, Cond.static yX12_isDigit, Cond.code yX12_isDigit cX12_isDigit 1 (some .boolean), Cond.methodLink RX12 238 yX12_sign, Cond.instanceMethod yX12_sign, Cond.selects RX12 yX12_sign yX12_sign, Cond.code yX12_sign cX12_sign 6 (some .int), Cond.methodLink RX12 260 yX12_is, Cond.instanceMethod yX12_is, Cond.selects RX12 yX12_is yX12_is, Cond.code yX12_is cX12_is 2 (some .boolean), Cond.methodLink RX12 281 yX12_tellRule, Cond.instanceMethod yX12_tellRule]
def wsL_law_r21 : List Cond := [Cond.selects RX12 yX12_tellRule yX12_tellRule, Cond.code yX12_tellRule cX12_tellRule 4 none, Cond.methodLink RX12 257 yX12_fail, Cond.instanceMethod yX12_fail, Cond.selects RX12 yX12_fail yX12_fail, Cond.code yX12_fail cX12_fail 2 none, Cond.methodLink RX12 263 yX12_next, Cond.instanceMethod yX12_next, Cond.selects RX12 yX12_next yX12_next, Cond.code yX12_next cX12_next 1 none, Cond.methodLink RX12 284 yX12_expression, Cond.instanceMethod yX12_expression, Cond.selects RX12 yX12_expression yX12_expression, Cond.code yX12_expression cX12_expression 5 none, Cond.fieldLink RX12 294 "SkyBoxModel" "waiting" "I", Cond.methodLink RX12 297 yX12_emit, Cond.instanceMethod yX12_emit, Cond.selects RX12 yX12_emit yX12_emit, Cond.code yX12_emit cX12_emit 3 none, Cond.methodLink RX12 301 yX12_comesOut, Cond.instanceMethod yX12_comesOut, Cond.selects RX12 yX12_comesOut yX12_comesOut, Cond.code yX12_comesOut cX12_comesOut 3 none, Cond.methodLink RX12 287 yX12_must]
def wsL_law_r22 : List Cond := [Cond.instanceMethod yX12_must, Cond.selects RX12 yX12_must yX12_must, Cond.code yX12_must cX12_must 2 none, Cond.methodLink RX12 290 yX12_relation, Cond.instanceMethod yX12_relation, Cond.selects RX12 yX12_relation yX12_relation, Cond.code yX12_relation cX12_relation 6 none, Cond.methodLink RL 28 yX11_place, Cond.instanceMethod yX11_place, Cond.selects RX11 yX11_place yX11_place, Cond.code yX11_place cX11_place 1 (some .int), Cond.methodLink RL 31 yX12_place, Cond.instanceMethod yX12_place, Cond.selects RX12 yX12_place yX12_place, Cond.code yX12_place cX12_place 1 (some .int), Cond.methodLink RL 32 yX11_act, Cond.instanceMethod yX11_act, Cond.selects RX11 yX11_act yX11_act, Cond.code yX11_act cX11_act 9 (some .int), Cond.fieldLink RX11 103 "SkyBox$Show" "size" "I", Cond.classLink RX11 104 RX0, Cond.instantiable RX0 8, Cond.initialized RX0, Cond.methodLink RX11 106 yX0_init]
def wsL_law_r23 : List Cond := [Cond.instanceMethod yX0_init, Cond.code yX0_init cX0_init 7 none, Cond.methodLink RX0 3 objectInit, Cond.classLink RX0 9 RX2, Cond.fieldLink RX0 11 "SkyBox$Act" "figures" "[LSkyBox$Figure;", Cond.fieldLink RX0 17 "SkyBox$Act" "kind" "I", Cond.fieldLink RX0 21 "SkyBox$Act" "pilot" "I", Cond.fieldLink RX0 24 "SkyBox$Act" "worth" "I", Cond.fieldLink RX0 27 "SkyBox$Act" "climb" "I", Cond.fieldLink RX0 30 "SkyBox$Act" "home" "I", Cond.fieldLink RX0 33 "SkyBox$Act" "fuel" "I", Cond.fieldLink RX0 36 "SkyBox$Act" "size" "I", Cond.methodLink RX11 109 yX7_add, Cond.instanceMethod yX7_add, Cond.selects RX7 yX7_add yX7_add, Cond.code yX7_add cX7_add 2 (some .int), Cond.methodLink RL 36 yX12_act, Cond.instanceMethod yX12_act, Cond.selects RX12 yX12_act yX12_act, Cond.code yX12_act cX12_act 7 (some .int), Cond.fieldLink RX12 304 "SkyBoxModel" "acts" "I", Cond.methodLink RL 37 yX11_figure, Cond.instanceMethod yX11_figure, Cond.selects RX11 yX11_figure yX11_figure]
def wsL_law_r24 : List Cond := [Cond.code yX11_figure cX11_figure 7 (some .int), Cond.fieldLink RX11 117 "SkyBox$Act" "size" "I", Cond.classLink RX11 118 RX2, Cond.instantiable RX2 4, Cond.initialized RX2, Cond.methodLink RX11 113 yX7_actAt, Cond.instanceMethod yX7_actAt, Cond.selects RX7 yX7_actAt yX7_actAt, Cond.code yX7_actAt cX7_actAt 2 (some (.object "SkyBox$Act")), Cond.methodLink RX11 120 yX2_init, Cond.instanceMethod yX2_init, Cond.code yX2_init cX2_init 5 none, Cond.methodLink RX2 1 objectInit, Cond.fieldLink RX2 7 "SkyBox$Figure" "minutes" "I", Cond.fieldLink RX2 13 "SkyBox$Figure" "speed" "I", Cond.fieldLink RX2 16 "SkyBox$Figure" "height" "I", Cond.fieldLink RX2 19 "SkyBox$Figure" "high" "Z", Cond.methodLink RX11 123 yX0_add, Cond.instanceMethod yX0_add, Cond.selects RX0 yX0_add yX0_add, Cond.code yX0_add cX0_add 2 (some .int), Cond.methodLink RL 41 yX12_figure, Cond.instanceMethod yX12_figure, Cond.selects RX12 yX12_figure yX12_figure]
def wsL_law_r25 : List Cond := [Cond.code yX12_figure cX12_figure 7 (some .int), Cond.methodLink RX12 310 yX12_isAct, Cond.instanceMethod yX12_isAct, Cond.selects RX12 yX12_isAct yX12_isAct, Cond.code yX12_isAct cX12_isAct 2 (some .boolean), Cond.methodLink RL 42 yX11_falls, Cond.instanceMethod yX11_falls, Cond.selects RX11 yX11_falls yX11_falls, Cond.code yX11_falls cX11_falls 2 (some .boolean), Cond.methodLink RX11 126 yX7_resetFalls, Cond.instanceMethod yX7_resetFalls, Cond.selects RX7 yX7_resetFalls yX7_resetFalls, Cond.code yX7_resetFalls cX7_resetFalls 2 none, Cond.methodLink RX7 35 yJ7_fill_53178, Cond.methodLink RL 46 yX12_falls, Cond.instanceMethod yX12_falls, Cond.selects RX12 yX12_falls yX12_falls, Cond.code yX12_falls cX12_falls 3 (some .boolean), Cond.methodLink RL 47 yX11_cell, Cond.instanceMethod yX11_cell, Cond.selects RX11 yX11_cell yX11_cell, Cond.code yX11_cell cX11_cell 3 (some .boolean), Cond.fieldLink RX11 130 "SkyBox$Show" "fallsMissing" "Z", Cond.fieldLink RX11 133 "SkyBox$Show" "falls" "[I"]
def wsL_law_r26 : List Cond := [Cond.methodLink RL 51 yX12_cell, Cond.instanceMethod yX12_cell, Cond.selects RX12 yX12_cell yX12_cell, Cond.code yX12_cell cX12_cell 3 (some .boolean), Cond.methodLink RL 52 yX11_ground, Cond.instanceMethod yX11_ground, Cond.selects RX11 yX11_ground yX11_ground, Cond.code yX11_ground cX11_ground 3 (some .boolean), Cond.fieldLink RX11 137 "SkyBox$Show" "wind" "I", Cond.fieldLink RX11 140 "SkyBox$Show" "line" "I", Cond.methodLink RL 55 yX12_ground, Cond.instanceMethod yX12_ground, Cond.selects RX12 yX12_ground yX12_ground, Cond.code yX12_ground cX12_ground 3 (some .boolean), Cond.fieldLink RX12 313 "SkyBoxModel" "wind" "I", Cond.methodLink RL 56 yX11_base, Cond.instanceMethod yX11_base, Cond.selects RX11 yX11_base yX11_base, Cond.code yX11_base cX11_base 3 (some .int), Cond.methodLink RX11 143 yX11_isMinute, Cond.static yX11_isMinute, Cond.code yX11_isMinute cX11_isMinute 1 (some .boolean), Cond.methodLink RX11 146 yX11_isBase, Cond.static yX11_isBase]
def wsL_law_r27 : List Cond := [Cond.code yX11_isBase cX11_isBase 1 (some .boolean), Cond.methodLink RX11 149 yX1_add, Cond.instanceMethod yX1_add, Cond.selects RX1 yX1_add yX1_add, Cond.code yX1_add cX1_add 4 (some .int), Cond.methodLink RL 60 yX12_base, Cond.instanceMethod yX12_base, Cond.selects RX12 yX12_base yX12_base, Cond.code yX12_base cX12_base 3 (some .int), Cond.fieldLink RX12 307 "SkyBoxModel" "facts" "I", Cond.methodLink RX12 316 yX12_isMinute, Cond.static yX12_isMinute, Cond.code yX12_isMinute cX12_isMinute 1 (some .boolean), Cond.methodLink RX12 319 yX12_fact, Cond.instanceMethod yX12_fact, Cond.selects RX12 yX12_fact yX12_fact, Cond.code yX12_fact cX12_fact 4 (some .int), Cond.methodLink RL 61 yX11_birds, Cond.instanceMethod yX11_birds, Cond.selects RX11 yX11_birds yX11_birds, Cond.code yX11_birds cX11_birds 3 (some .int), Cond.methodLink RX11 152 yX11_closeBox, Cond.instanceMethod yX11_closeBox, Cond.selects RX11 yX11_closeBox yX11_closeBox]
def wsL_law_r28 : List Cond := [Cond.code yX11_closeBox cX11_closeBox 3 (some .int), Cond.methodLink RL 64 yX12_birds, Cond.instanceMethod yX12_birds, Cond.selects RX12 yX12_birds yX12_birds, Cond.code yX12_birds cX12_birds 3 (some .int), Cond.methodLink RX12 322 yX12_isSpan, Cond.static yX12_isSpan, Cond.code yX12_isSpan cX12_isSpan 2 (some .boolean), Cond.methodLink RL 65 yX11_ready, Cond.instanceMethod yX11_ready, Cond.selects RX11 yX11_ready yX11_ready, Cond.code yX11_ready cX11_ready 3 (some .int), Cond.methodLink RL 68 yX12_ready, Cond.instanceMethod yX12_ready, Cond.selects RX12 yX12_ready yX12_ready, Cond.code yX12_ready cX12_ready 3 (some .int), Cond.methodLink RL 69 yX11_away, Cond.instanceMethod yX11_away, Cond.selects RX11 yX11_away yX11_away, Cond.code yX11_away cX11_away 3 (some .int), Cond.methodLink RL 72 yX12_away, Cond.instanceMethod yX12_away, Cond.selects RX12 yX12_away yX12_away, Cond.code yX12_away cX12_away 3 (some .int)]
def wsL_law_r29 : List Cond := [Cond.methodLink RL 73 yX11_refused, Cond.instanceMethod yX11_refused, Cond.selects RX11 yX11_refused yX11_refused, Cond.code yX11_refused cX11_refused 5 (some .int), Cond.methodLink RX11 156 yX0_figureAt, Cond.instanceMethod yX0_figureAt, Cond.selects RX0 yX0_figureAt yX0_figureAt, Cond.code yX0_figureAt cX0_figureAt 2 (some (.object "SkyBox$Figure")), Cond.methodLink RX11 160 yX7_refuses, Cond.instanceMethod yX7_refuses, Cond.selects RX7 yX7_refuses yX7_refuses, Cond.code yX7_refuses cX7_refuses 4 (some .boolean), Cond.fieldLink RX7 41 "SkyBox$Figure" "height" "I", Cond.fieldLink RX7 46 "SkyBox$Figure" "speed" "I", Cond.methodLink RL 76 yX12_refused, Cond.instanceMethod yX12_refused, Cond.selects RX12 yX12_refused yX12_refused, Cond.code yX12_refused cX12_refused 3 (some .int), Cond.methodLink RX12 326 yX12_isRefused, Cond.instanceMethod yX12_isRefused, Cond.selects RX12 yX12_isRefused yX12_isRefused, Cond.code yX12_isRefused cX12_isRefused 3 (some .boolean), Cond.methodLink RL 77 yX11_length, Cond.instanceMethod yX11_length]
def wsL_law_r30 : List Cond := [Cond.selects RX11 yX11_length yX11_length, Cond.code yX11_length cX11_length 4 (some .int), Cond.methodLink RX11 164 yX7_minutesInBox, Cond.instanceMethod yX7_minutesInBox, Cond.selects RX7 yX7_minutesInBox yX7_minutesInBox, Cond.code yX7_minutesInBox cX7_minutesInBox 4 (some .int), Cond.methodLink RX7 49 yX7_minutesBelow, Cond.instanceMethod yX7_minutesBelow, Cond.selects RX7 yX7_minutesBelow yX7_minutesBelow, Cond.code yX7_minutesBelow cX7_minutesBelow 7 (some .int), Cond.fieldLink RX7 53 "SkyBox$Act" "size" "I", Cond.fieldLink RX7 58 "SkyBox$Figure" "high" "Z", Cond.fieldLink RX7 65 "SkyBox$Figure" "minutes" "I", Cond.methodLink RX7 54 yX0_figureAt, Cond.methodLink RX7 61 yX7_refuses, Cond.methodLink RL 80 yX12_length, Cond.instanceMethod yX12_length, Cond.selects RX12 yX12_length yX12_length, Cond.code yX12_length cX12_length 3 (some .int), Cond.methodLink RX12 329 yX12_lengthOf, Cond.instanceMethod yX12_lengthOf, Cond.selects RX12 yX12_lengthOf yX12_lengthOf, Cond.code yX12_lengthOf cX12_lengthOf 8 (some .int), Cond.methodLink RL 81 yX11_baseIn]
def wsL_law_r31 : List Cond := [Cond.instanceMethod yX11_baseIn, Cond.selects RX11 yX11_baseIn yX11_baseIn, Cond.code yX11_baseIn cX11_baseIn 3 (some .int), Cond.fieldLink RX11 175 "SkyBox$Sky" "base" "[I", Cond.methodLink RX11 168 yX1_has, Cond.instanceMethod yX1_has, Cond.selects RX1 yX1_has yX1_has, Cond.code yX1_has cX1_has 2 (some .boolean), Cond.methodLink RX11 171 yX8_learn, Cond.instanceMethod yX8_learn, Cond.selects RX8 yX8_learn yX8_learn, Cond.code yX8_learn cX8_learn 4 none, Cond.fieldLink RX8 27 "SkyBox$Facts" "kinds" "[I", Cond.fieldLink RX8 32 "SkyBox$Facts" "firsts" "[I", Cond.fieldLink RX8 35 "SkyBox$Facts" "seconds" "[I", Cond.methodLink RX8 38 yX8_learnOne, Cond.instanceMethod yX8_learnOne, Cond.selects RX8 yX8_learnOne yX8_learnOne, Cond.code yX8_learnOne cX8_learnOne 5 none, Cond.methodLink RX8 42 yX8_carryBaseOn, Cond.instanceMethod yX8_carryBaseOn, Cond.selects RX8 yX8_carryBaseOn yX8_carryBaseOn, Cond.code yX8_carryBaseOn cX8_carryBaseOn 3 none, Cond.methodLink RX8 45 yX8_lookAhead]
def wsL_law_r32 : List Cond := [Cond.instanceMethod yX8_lookAhead, Cond.selects RX8 yX8_lookAhead yX8_lookAhead, Cond.code yX8_lookAhead cX8_lookAhead 2 none, Cond.methodLink RX8 48 Lib.Math.min.name, Cond.static Lib.Math.min.name, Cond.code Lib.Math.min.name Lib.Math.min.code 2 (some .int), Cond.methodLink RL 84 yX12_baseIn, Cond.instanceMethod yX12_baseIn, Cond.selects RX12 yX12_baseIn yX12_baseIn, Cond.code yX12_baseIn cX12_baseIn 3 (some .int), Cond.methodLink RX12 333 yX12_isKnown, Cond.instanceMethod yX12_isKnown, Cond.selects RX12 yX12_isKnown yX12_isKnown, Cond.code yX12_isKnown cX12_isKnown 2 (some .boolean), Cond.methodLink RX12 336 yX12_knows, Cond.instanceMethod yX12_knows, Cond.selects RX12 yX12_knows yX12_knows, Cond.code yX12_knows cX12_knows 4 none, Cond.methodLink RL 85 yX11_plan, Cond.instanceMethod yX11_plan, Cond.selects RX11 yX11_plan yX11_plan, Cond.code yX11_plan cX11_plan 2 (some .int), Cond.methodLink RX11 178 yX3_clear, Cond.methodLink RX11 181 yX11_prepare]
def wsL_law_r33 : List Cond := [Cond.instanceMethod yX11_prepare, Cond.selects RX11 yX11_prepare yX11_prepare, Cond.code yX11_prepare cX11_prepare 2 none, Cond.methodLink RX11 233 yX4_begin, Cond.instanceMethod yX4_begin, Cond.selects RX4 yX4_begin yX4_begin, Cond.code yX4_begin cX4_begin 4 none, Cond.methodLink RX4 46 yX3_clear, Cond.methodLink RX4 49 yX7_actAt, Cond.methodLink RX4 55 yX7_minutesInBox, Cond.methodLink RX11 184 yX4_replace, Cond.instanceMethod yX4_replace, Cond.selects RX4 yX4_replace yX4_replace, Cond.code yX4_replace cX4_replace 2 (some .int), Cond.fieldLink RX4 85 "SkyBox$Flights" "worth" "I", Cond.methodLink RX4 77 yX4_extend, Cond.instanceMethod yX4_extend, Cond.selects RX4 yX4_extend yX4_extend, Cond.code yX4_extend cX4_extend 4 none, Cond.fieldLink RX4 96 "SkyBox$Show" "size" "I", Cond.methodLink RX4 89 yX4_isBetter, Cond.instanceMethod yX4_isBetter, Cond.selects RX4 yX4_isBetter yX4_isBetter, Cond.code yX4_isBetter cX4_isBetter 4 (some .boolean)]
def wsL_law_r34 : List Cond := [Cond.methodLink RX4 109 yX3_sameBegins, Cond.instanceMethod yX3_sameBegins, Cond.selects RX3 yX3_sameBegins yX3_sameBegins, Cond.code yX3_sameBegins cX3_sameBegins 4 (some .int), Cond.methodLink RX4 113 yX3_lastLanding, Cond.instanceMethod yX3_lastLanding, Cond.selects RX3 yX3_lastLanding yX3_lastLanding, Cond.code yX3_lastLanding cX3_lastLanding 3 (some .int), Cond.methodLink RX3 51 Lib.Math.max.name, Cond.methodLink RX4 81 yX3_copy, Cond.instanceMethod yX3_copy, Cond.selects RX3 yX3_copy yX3_copy, Cond.code yX3_copy cX3_copy 2 none, Cond.methodLink RX3 57 arraycopyName, Cond.native arraycopyName, Cond.static arraycopyName, Cond.initialized "java/lang/System", Cond.methodLink RX4 93 yX4_isHopeless, Cond.instanceMethod yX4_isHopeless, Cond.selects RX4 yX4_isHopeless yX4_isHopeless, Cond.code yX4_isHopeless cX4_isHopeless 6 (some .boolean), Cond.fieldLink RX4 117 "SkyBox$Act" "worth" "I", Cond.methodLink RX4 99 yX3_has, Cond.instanceMethod yX3_has]
def wsL_law_r35 : List Cond := [Cond.selects RX3 yX3_has yX3_has, Cond.code yX3_has cX3_has 2 (some .boolean), Cond.methodLink RX4 103 yX4_fly, Cond.instanceMethod yX4_fly, Cond.selects RX4 yX4_fly yX4_fly, Cond.code yX4_fly cX4_fly 7 (some .boolean), Cond.fieldLink RX4 123 "SkyBox$Sky" "ready" "[I", Cond.fieldLink RX4 128 "SkyBox$Act" "climb" "I", Cond.methodLink RX4 131 Lib.Math.max.name, Cond.fieldLink RX4 136 "SkyBox$Sky" "openTill" "[I", Cond.methodLink RX4 63 yX4_describe, Cond.instanceMethod yX4_describe, Cond.selects RX4 yX4_describe yX4_describe, Cond.code yX4_describe cX4_describe 4 none, Cond.fieldLink RX4 183 "SkyBox$Act" "kind" "I", Cond.fieldLink RX4 186 "SkyBox$Act" "pilot" "I", Cond.fieldLink RX4 192 "SkyBox$Show" "wind" "I", Cond.methodLink RX4 164 yX3_lastAct, Cond.instanceMethod yX3_lastAct, Cond.selects RX3 yX3_lastAct yX3_lastAct, Cond.code yX3_lastAct cX3_lastAct 1 (some .int), Cond.methodLink RX4 189 yX4_flownBy, Cond.instanceMethod yX4_flownBy, Cond.selects RX4 yX4_flownBy yX4_flownBy]
def wsL_law_r36 : List Cond := [Cond.code yX4_flownBy cX4_flownBy 5 (some .int), Cond.methodLink RX4 120 yX3_end, Cond.instanceMethod yX3_end, Cond.selects RX3 yX3_end yX3_end, Cond.code yX3_end cX3_end 2 (some .int), Cond.methodLink RX3 43 yX3_lastAct, Cond.methodLink RX3 47 yX3_has, Cond.methodLink RX4 59 yX4_minutesFrom, Cond.instanceMethod yX4_minutesFrom, Cond.selects RX4 yX4_minutesFrom yX4_minutesFrom, Cond.code yX4_minutesFrom cX4_minutesFrom 4 (some .int), Cond.fieldLink RX4 177 "SkyBox$Sky" "base" "[I", Cond.methodLink RX4 139 yX4_flyFrom, Cond.instanceMethod yX4_flyFrom, Cond.selects RX4 yX4_flyFrom yX4_flyFrom, Cond.code yX4_flyFrom cX4_flyFrom 9 (some .boolean), Cond.fieldLink RX4 146 "SkyBox$Act" "home" "I", Cond.fieldLink RX4 153 "SkyBox$Act" "fuel" "I", Cond.fieldLink RX4 156 "SkyBox$Flights" "size" "I", Cond.methodLink RX4 143 yX4_lastFree, Cond.instanceMethod yX4_lastFree, Cond.selects RX4 yX4_lastFree yX4_lastFree, Cond.code yX4_lastFree cX4_lastFree 4 (some .int), Cond.methodLink RX4 180 Lib.Math.min.name]
def wsL_law_r37 : List Cond := [Cond.methodLink RX4 149 yX4_firstFree, Cond.instanceMethod yX4_firstFree, Cond.selects RX4 yX4_firstFree yX4_firstFree, Cond.code yX4_firstFree cX4_firstFree 3 (some .int), Cond.methodLink RX4 67 yX4_describeBegin, Cond.instanceMethod yX4_describeBegin, Cond.selects RX4 yX4_describeBegin yX4_describeBegin, Cond.code yX4_describeBegin cX4_describeBegin 3 none, Cond.methodLink RX4 73 yX10_firstThatHolds, Cond.instanceMethod yX10_firstThatHolds, Cond.selects RX10 yX10_firstThatHolds yX10_firstThatHolds, Cond.code yX10_firstThatHolds cX10_firstThatHolds 5 (some .int), Cond.methodLink RX10 39 yX10_work, Cond.instanceMethod yX10_work, Cond.selects RX10 yX10_work yX10_work, Cond.code yX10_work cX10_work 8 (some .int), Cond.methodLink RX10 49 Lib.Math.max.name, Cond.methodLink RX10 52 yX10_join, Cond.static yX10_join, Cond.code yX10_join cX10_join 3 (some .int), Cond.methodLink RX4 157 yX10_amountOf, Cond.instanceMethod yX10_amountOf, Cond.selects RX10 yX10_amountOf yX10_amountOf, Cond.code yX10_amountOf cX10_amountOf 3 (some .int)]
def wsL_law_r38 : List Cond := [Cond.methodLink RX10 43 Lib.Math.min.name, Cond.methodLink RX4 160 yX3_add, Cond.instanceMethod yX3_add, Cond.selects RX3 yX3_add yX3_add, Cond.code yX3_add cX3_add 7 none, Cond.methodLink RX4 106 yX4_callBack, Cond.instanceMethod yX4_callBack, Cond.selects RX4 yX4_callBack yX4_callBack, Cond.code yX4_callBack cX4_callBack 3 none, Cond.fieldLink RX4 167 "SkyBox$Flights" "takeOff" "[I", Cond.fieldLink RX4 170 "SkyBox$Flights" "landing" "[I", Cond.methodLink RX4 173 yX3_dropLast, Cond.instanceMethod yX3_dropLast, Cond.selects RX3 yX3_dropLast yX3_dropLast, Cond.code yX3_dropLast cX3_dropLast 3 none, Cond.methodLink RL 88 yX12_plan, Cond.instanceMethod yX12_plan, Cond.selects RX12 yX12_plan yX12_plan, Cond.code yX12_plan cX12_plan 2 (some .int), Cond.methodLink RX12 389 yX12_makes, Cond.instanceMethod yX12_makes, Cond.selects RX12 yX12_makes yX12_makes, Cond.code yX12_makes cX12_makes 7 (some .int), Cond.fieldLink RX12 352 "SkyBoxModel" "placed" "I"]
def wsL_law_r39 : List Cond := [Cond.fieldLink RX12 367 "SkyBoxModel" "bestMany" "I", Cond.fieldLink RX12 382 "SkyBoxModel" "isPlanned" "Z", Cond.fieldLink RX12 386 "SkyBoxModel" "many" "I", Cond.fieldLink RX12 370 "SkyBoxModel" "bestWorth" "I", Cond.methodLink RX12 379 yX12_looks, Cond.instanceMethod yX12_looks, Cond.selects RX12 yX12_looks yX12_looks, Cond.code yX12_looks cX12_looks 6 none, Cond.fieldLink RX12 373 "SkyBoxModel" "bestSame" "I", Cond.fieldLink RX12 376 "SkyBoxModel" "bestLast" "I", Cond.methodLink RX12 364 yX12_places, Cond.instanceMethod yX12_places, Cond.selects RX12 yX12_places yX12_places, Cond.code yX12_places cX12_places 8 (some .boolean), Cond.methodLink RX12 355 yX12_isOpen, Cond.instanceMethod yX12_isOpen, Cond.selects RX12 yX12_isOpen yX12_isOpen, Cond.code yX12_isOpen cX12_isOpen 4 (some .boolean), Cond.methodLink RX12 348 yX12_asks, Cond.instanceMethod yX12_asks, Cond.selects RX12 yX12_asks yX12_asks, Cond.code yX12_asks cX12_asks 6 none, Cond.methodLink RX12 358 yX12_heldOf, Cond.instanceMethod yX12_heldOf]
def wsL_law_r40 : List Cond := [Cond.selects RX12 yX12_heldOf yX12_heldOf, Cond.code yX12_heldOf cX12_heldOf 4 (some .int), Cond.methodLink RX12 345 yX12_ruleOf, Cond.instanceMethod yX12_ruleOf, Cond.selects RX12 yX12_ruleOf yX12_ruleOf, Cond.code yX12_ruleOf cX12_ruleOf 3 (some .int), Cond.methodLink RX12 342 yX12_holds, Cond.instanceMethod yX12_holds, Cond.selects RX12 yX12_holds yX12_holds, Cond.code yX12_holds cX12_holds 7 (some .boolean), Cond.methodLink RX12 339 yX12_value, Cond.instanceMethod yX12_value, Cond.selects RX12 yX12_value yX12_value, Cond.code yX12_value cX12_value 7 (some .int), Cond.methodLink RX12 361 yX12_isTaken, Cond.instanceMethod yX12_isTaken, Cond.selects RX12 yX12_isTaken yX12_isTaken, Cond.code yX12_isTaken cX12_isTaken 3 (some .boolean), Cond.methodLink RL 89 yX11_mend, Cond.instanceMethod yX11_mend, Cond.selects RX11 yX11_mend yX11_mend, Cond.code yX11_mend cX11_mend 2 (some .int), Cond.methodLink RL 92 yX12_mend, Cond.instanceMethod yX12_mend]
def wsL_law_r41 : List Cond := [Cond.selects RX12 yX12_mend yX12_mend, Cond.code yX12_mend cX12_mend 2 (some .int), Cond.methodLink RL 93 yX11_order, Cond.instanceMethod yX11_order, Cond.selects RX11 yX11_order yX11_order, Cond.code yX11_order cX11_order 2 (some .int), Cond.fieldLink RX11 188 "SkyBox$Flights" "size" "I", Cond.fieldLink RX11 189 "SkyBox$Flights" "order" "[I", Cond.methodLink RL 96 yX12_order, Cond.instanceMethod yX12_order, Cond.selects RX12 yX12_order yX12_order, Cond.code yX12_order cX12_order 2 (some .int), Cond.methodLink RL 97 yX11_told, Cond.instanceMethod yX11_told, Cond.selects RX11 yX11_told yX11_told, Cond.code yX11_told cX11_told 3 (some .int), Cond.fieldLink RX11 193 "SkyBox$Flights" "takeOff" "[I", Cond.fieldLink RX11 196 "SkyBox$Flights" "begin" "[I", Cond.fieldLink RX11 199 "SkyBox$Flights" "minutes" "[I", Cond.fieldLink RX11 202 "SkyBox$Flights" "landing" "[I", Cond.methodLink RX11 192 yX3_has, Cond.methodLink RL 100 yX12_told, Cond.instanceMethod yX12_told, Cond.selects RX12 yX12_told yX12_told]
def wsL_law_r42 : List Cond := [Cond.code yX12_told cX12_told 3 (some .int), Cond.methodLink RX12 393 yX12_isIn, Cond.instanceMethod yX12_isIn, Cond.selects RX12 yX12_isIn yX12_isIn, Cond.code yX12_isIn cX12_isIn 2 (some .boolean), Cond.methodLink RL 101 yX11_out, Cond.instanceMethod yX11_out, Cond.selects RX11 yX11_out yX11_out, Cond.code yX11_out cX11_out 4 (some .int), Cond.methodLink RX11 205 yX4_outRuleFor, Cond.instanceMethod yX4_outRuleFor, Cond.selects RX4 yX4_outRuleFor yX4_outRuleFor, Cond.code yX4_outRuleFor cX4_outRuleFor 5 (some .int), Cond.methodLink RL 105 yX12_out, Cond.instanceMethod yX12_out, Cond.selects RX12 yX12_out yX12_out, Cond.code yX12_out cX12_out 5 (some .int), Cond.methodLink RL 106 yX11_can, Cond.instanceMethod yX11_can, Cond.selects RX11 yX11_can yX11_can, Cond.code yX11_can cX11_can 7 (some .int), Cond.fieldLink RX11 215 "SkyBox$Planner" "trial" "LSkyBox$Flights;", Cond.fieldLink RX11 218 "SkyBox$Flights" "worth" "I", Cond.methodLink RX11 208 yX11_isOrder]
def wsL_law_r43 : List Cond := [Cond.instanceMethod yX11_isOrder, Cond.selects RX11 yX11_isOrder yX11_isOrder, Cond.code yX11_isOrder cX11_isOrder 5 (some .boolean), Cond.methodLink RX11 226 yX11_isActOrNone, Cond.instanceMethod yX11_isActOrNone, Cond.selects RX11 yX11_isActOrNone yX11_isActOrNone, Cond.code yX11_isActOrNone cX11_isActOrNone 2 (some .boolean), Cond.methodLink RX11 229 yX11_isTwice, Cond.static yX11_isTwice, Cond.code yX11_isTwice cX11_isTwice 2 (some .boolean), Cond.methodLink RX11 212 yX4_fly, Cond.methodLink RL 109 yX12_can, Cond.instanceMethod yX12_can, Cond.selects RX12 yX12_can yX12_can, Cond.code yX12_can cX12_can 12 (some .int), Cond.methodLink RL 110 yX11_runway, Cond.instanceMethod yX11_runway, Cond.selects RX11 yX11_runway yX11_runway, Cond.code yX11_runway cX11_runway 3 (some .int), Cond.methodLink RL 113 yX12_runway, Cond.instanceMethod yX12_runway, Cond.selects RX12 yX12_runway yX12_runway, Cond.code yX12_runway cX12_runway 3 (some .int), Cond.methodLink RL 114 yX11_count]
def wsL_law_r44 : List Cond := [Cond.instanceMethod yX11_count, Cond.selects RX11 yX11_count yX11_count, Cond.code yX11_count cX11_count 2 (some .int), Cond.fieldLink RX11 221 "SkyBox$Facts" "size" "I", Cond.fieldLink RX11 222 "SkyBox$Text" "size" "I", Cond.methodLink RX11 223 yX3_lastLanding, Cond.methodLink RL 117 yX12_count, Cond.instanceMethod yX12_count, Cond.selects RX12 yX12_count yX12_count, Cond.code yX12_count cX12_count 4 (some .int)]
def wsL_law : List Cond := (wsL_law_r1 ++ (wsL_law_r2 ++ (wsL_law_r3 ++ (wsL_law_r4 ++ (wsL_law_r5 ++ (wsL_law_r6 ++ (wsL_law_r7 ++ (wsL_law_r8 ++ (wsL_law_r9 ++ (wsL_law_r10 ++ (wsL_law_r11 ++ (wsL_law_r12 ++ (wsL_law_r13 ++ (wsL_law_r14 ++ (wsL_law_r15 ++ (wsL_law_r16 ++ (wsL_law_r17 ++ (wsL_law_r18 ++ (wsL_law_r19 ++ (wsL_law_r20 ++ (wsL_law_r21 ++ (wsL_law_r22 ++ (wsL_law_r23 ++ (wsL_law_r24 ++ (wsL_law_r25 ++ (wsL_law_r26 ++ (wsL_law_r27 ++ (wsL_law_r28 ++ (wsL_law_r29 ++ (wsL_law_r30 ++ (wsL_law_r31 ++ (wsL_law_r32 ++ (wsL_law_r33 ++ (wsL_law_r34 ++ (wsL_law_r35 ++ (wsL_law_r36 ++ (wsL_law_r37 ++ (wsL_law_r38 ++ (wsL_law_r39 ++ (wsL_law_r40 ++ (wsL_law_r41 ++ (wsL_law_r42 ++ (wsL_law_r43 ++ wsL_law_r44))))))))))))))))))))))))))))))))))))))))))) ++ wsX110 ++ wsX120 ++ wsX90 ++ wsX50 ++ wsX70 ++ wsX10 ++ wsX80 ++ wsX100 ++ wsX40 ++ wsX30 ++ wsX60 ++ wsX00 ++ wsX20 ++ ([] : List Cond)
theorem inlX0 : ∀ w ∈ wsX00, w ∈ wsL_law := fun _ h => List.mem_append_left _ (List.mem_append_left _ (List.mem_append_right _ h))
theorem inlX1 : ∀ w ∈ wsX10, w ∈ wsL_law := fun _ h => List.mem_append_left _ (List.mem_append_left _ (List.mem_append_left _ (List.mem_append_left _ (List.mem_append_left _ (List.mem_append_left _ (List.mem_append_left _ (List.mem_append_left _ (List.mem_append_right _ h))))))))
theorem inlX2 : ∀ w ∈ wsX20, w ∈ wsL_law := fun _ h => List.mem_append_left _ (List.mem_append_right _ h)
theorem inlX3 : ∀ w ∈ wsX30, w ∈ wsL_law := fun _ h => List.mem_append_left _ (List.mem_append_left _ (List.mem_append_left _ (List.mem_append_left _ (List.mem_append_right _ h))))
theorem inlX4 : ∀ w ∈ wsX40, w ∈ wsL_law := fun _ h => List.mem_append_left _ (List.mem_append_left _ (List.mem_append_left _ (List.mem_append_left _ (List.mem_append_left _ (List.mem_append_right _ h)))))
theorem inlX5 : ∀ w ∈ wsX50, w ∈ wsL_law := fun _ h => List.mem_append_left _ (List.mem_append_left _ (List.mem_append_left _ (List.mem_append_left _ (List.mem_append_left _ (List.mem_append_left _ (List.mem_append_left _ (List.mem_append_left _ (List.mem_append_left _ (List.mem_append_left _ (List.mem_append_right _ h))))))))))
theorem inlX6 : ∀ w ∈ wsX60, w ∈ wsL_law := fun _ h => List.mem_append_left _ (List.mem_append_left _ (List.mem_append_left _ (List.mem_append_right _ h)))
theorem inlX7 : ∀ w ∈ wsX70, w ∈ wsL_law := fun _ h => List.mem_append_left _ (List.mem_append_left _ (List.mem_append_left _ (List.mem_append_left _ (List.mem_append_left _ (List.mem_append_left _ (List.mem_append_left _ (List.mem_append_left _ (List.mem_append_left _ (List.mem_append_right _ h)))))))))
theorem inlX8 : ∀ w ∈ wsX80, w ∈ wsL_law := fun _ h => List.mem_append_left _ (List.mem_append_left _ (List.mem_append_left _ (List.mem_append_left _ (List.mem_append_left _ (List.mem_append_left _ (List.mem_append_left _ (List.mem_append_right _ h)))))))
theorem inlX9 : ∀ w ∈ wsX90, w ∈ wsL_law := fun _ h => List.mem_append_left _ (List.mem_append_left _ (List.mem_append_left _ (List.mem_append_left _ (List.mem_append_left _ (List.mem_append_left _ (List.mem_append_left _ (List.mem_append_left _ (List.mem_append_left _ (List.mem_append_left _ (List.mem_append_left _ (List.mem_append_right _ h)))))))))))
theorem inlX10 : ∀ w ∈ wsX100, w ∈ wsL_law := fun _ h => List.mem_append_left _ (List.mem_append_left _ (List.mem_append_left _ (List.mem_append_left _ (List.mem_append_left _ (List.mem_append_left _ (List.mem_append_right _ h))))))
theorem inlX11 : ∀ w ∈ wsX110, w ∈ wsL_law := fun _ h => List.mem_append_left _ (List.mem_append_left _ (List.mem_append_left _ (List.mem_append_left _ (List.mem_append_left _ (List.mem_append_left _ (List.mem_append_left _ (List.mem_append_left _ (List.mem_append_left _ (List.mem_append_left _ (List.mem_append_left _ (List.mem_append_left _ (List.mem_append_left _ (List.mem_append_right _ h)))))))))))))
theorem inlX12 : ∀ w ∈ wsX120, w ∈ wsL_law := fun _ h => List.mem_append_left _ (List.mem_append_left _ (List.mem_append_left _ (List.mem_append_left _ (List.mem_append_left _ (List.mem_append_left _ (List.mem_append_left _ (List.mem_append_left _ (List.mem_append_left _ (List.mem_append_left _ (List.mem_append_left _ (List.mem_append_left _ (List.mem_append_right _ h))))))))))))
abbrev vwCl : List vw_C := [(RX0, TX0, 8), (RX1, TX1, 4), (RX2, TX2, 4), (RX3, TX3, 7), (RX4, TX4, 8), (RX5, TX5, 6), (RX6, TX6, 5), (RX7, TX7, 6), (RX8, TX8, 3), (RX9, TX9, 2), (RX10, TX10, 8), (RX11, TX11, 11), (RX12, TX12, 85)]
abbrev wsX0_init : List Cond := Cond.code yX0_init cX0_init 7 none :: wsL_law
abbrev wsX0_add : List Cond := Cond.code yX0_add cX0_add 2 (some .int) :: wsL_law
abbrev wsX0_figureAt : List Cond := Cond.code yX0_figureAt cX0_figureAt 2 (some (.object "SkyBox$Figure")) :: wsL_law
abbrev wsX1_init : List Cond := Cond.code yX1_init cX1_init 1 none :: wsL_law
abbrev wsX1_add : List Cond := Cond.code yX1_add cX1_add 4 (some .int) :: wsL_law
abbrev wsX1_has : List Cond := Cond.code yX1_has cX1_has 2 (some .boolean) :: wsL_law
abbrev wsX2_init : List Cond := Cond.code yX2_init cX2_init 5 none :: wsL_law
abbrev wsJ7_fill_53178 : List Cond := Cond.code yJ7_fill_53178 cJ7_fill_53178 4 none :: wsL_law
abbrev wsX3_clear : List Cond := Cond.code yX3_clear cX3_clear 1 none :: wsL_law
abbrev wsX3_init : List Cond := Cond.code yX3_init cX3_init 1 none :: wsL_law
abbrev wsX3_has : List Cond := Cond.code yX3_has cX3_has 2 (some .boolean) :: wsL_law
abbrev wsX3_lastAct : List Cond := Cond.code yX3_lastAct cX3_lastAct 1 (some .int) :: wsL_law
abbrev wsX3_end : List Cond := Cond.code yX3_end cX3_end 2 (some .int) :: wsL_law
abbrev wsX3_lastLanding : List Cond := Cond.code yX3_lastLanding cX3_lastLanding 3 (some .int) :: wsL_law
abbrev wsX3_add : List Cond := Cond.code yX3_add cX3_add 7 none :: wsL_law
abbrev wsX3_dropLast : List Cond := Cond.code yX3_dropLast cX3_dropLast 3 none :: wsL_law
abbrev wsX3_sameBegins : List Cond := Cond.code yX3_sameBegins cX3_sameBegins 4 (some .int) :: wsL_law
abbrev wsX3_copy : List Cond := Cond.code yX3_copy cX3_copy 2 none :: wsL_law
abbrev wsX4_init : List Cond := Cond.code yX4_init cX4_init 4 none :: wsL_law
abbrev wsX7_actAt : List Cond := Cond.code yX7_actAt cX7_actAt 2 (some (.object "SkyBox$Act")) :: wsL_law
abbrev wsX7_refuses : List Cond := Cond.code yX7_refuses cX7_refuses 4 (some .boolean) :: wsL_law
abbrev wsX7_minutesBelow : List Cond := Cond.code yX7_minutesBelow cX7_minutesBelow 7 (some .int) :: wsL_law
abbrev wsX7_minutesInBox : List Cond := Cond.code yX7_minutesInBox cX7_minutesInBox 4 (some .int) :: wsL_law
abbrev wsX4_begin : List Cond := Cond.code yX4_begin cX4_begin 4 none :: wsL_law
abbrev wsX4_minutesFrom : List Cond := Cond.code yX4_minutesFrom cX4_minutesFrom 4 (some .int) :: wsL_law
abbrev wsX4_flownBy : List Cond := Cond.code yX4_flownBy cX4_flownBy 5 (some .int) :: wsL_law
abbrev wsX4_describe : List Cond := Cond.code yX4_describe cX4_describe 4 none :: wsL_law
abbrev wsX4_describeBegin : List Cond := Cond.code yX4_describeBegin cX4_describeBegin 3 none :: wsL_law
abbrev wsX10_join : List Cond := Cond.code yX10_join cX10_join 3 (some .int) :: wsL_law
abbrev wsX10_work : List Cond := Cond.code yX10_work cX10_work 8 (some .int) :: wsL_law
abbrev wsX10_firstThatHolds : List Cond := Cond.code yX10_firstThatHolds cX10_firstThatHolds 5 (some .int) :: wsL_law
abbrev wsX4_outRuleFor : List Cond := Cond.code yX4_outRuleFor cX4_outRuleFor 5 (some .int) :: wsL_law
abbrev wsX4_isBetter : List Cond := Cond.code yX4_isBetter cX4_isBetter 4 (some .boolean) :: wsL_law
abbrev wsX4_isHopeless : List Cond := Cond.code yX4_isHopeless cX4_isHopeless 6 (some .boolean) :: wsL_law
abbrev wsX4_lastFree : List Cond := Cond.code yX4_lastFree cX4_lastFree 4 (some .int) :: wsL_law
abbrev wsX4_firstFree : List Cond := Cond.code yX4_firstFree cX4_firstFree 3 (some .int) :: wsL_law
abbrev wsX10_amountOf : List Cond := Cond.code yX10_amountOf cX10_amountOf 3 (some .int) :: wsL_law
abbrev wsX4_flyFrom : List Cond := Cond.code yX4_flyFrom cX4_flyFrom 9 (some .boolean) :: wsL_law
abbrev wsX4_fly : List Cond := Cond.code yX4_fly cX4_fly 7 (some .boolean) :: wsL_law
abbrev wsX4_callBack : List Cond := Cond.code yX4_callBack cX4_callBack 3 none :: wsL_law
abbrev wsX4_extend : List Cond := Cond.code yX4_extend cX4_extend 4 none :: wsL_law
abbrev wsX4_replace : List Cond := Cond.code yX4_replace cX4_replace 2 (some .int) :: wsL_law
abbrev wsX6_restart : List Cond := Cond.code yX6_restart cX6_restart 1 none :: wsL_law
abbrev wsX6_init : List Cond := Cond.code yX6_init cX6_init 2 none :: wsL_law
abbrev wsX5_init : List Cond := Cond.code yX5_init cX5_init 2 none :: wsL_law
abbrev wsX5_placeReached : List Cond := Cond.code yX5_placeReached cX5_placeReached 1 (some .int) :: wsL_law
abbrev wsX10_clear : List Cond := Cond.code yX10_clear cX10_clear 1 none :: wsL_law
abbrev wsX5_start : List Cond := Cond.code yX5_start cX5_start 2 none :: wsL_law
abbrev wsX9_byteAt : List Cond := Cond.code yX9_byteAt cX9_byteAt 2 (some .int) :: wsL_law
abbrev wsX6_isBlank : List Cond := Cond.code yX6_isBlank cX6_isBlank 1 (some .boolean) :: wsL_law
abbrev wsX6_isLetter : List Cond := Cond.code yX6_isLetter cX6_isLetter 1 (some .boolean) :: wsL_law
abbrev wsJ0_coder_7d493 : List Cond := Cond.code yJ0_coder_7d493 cJ0_coder_7d493 1 (some .byte) :: wsL_law
abbrev wsJ0_length_8abf5 : List Cond := Cond.code yJ0_length_8abf5 cJ0_length_8abf5 1 (some .int) :: wsL_law
abbrev wsJ0_isLatin1_aae02 : List Cond := Cond.code yJ0_isLatin1_aae02 cJ0_isLatin1_aae02 1 (some .boolean) :: wsL_law
abbrev wsJ3_checkIndex_8e157 : List Cond := Cond.code yJ3_checkIndex_8e157 cJ3_checkIndex_8e157 3 (some .int) :: wsL_law
abbrev wsJ0_checkIndex_df160 : List Cond := Cond.code yJ0_checkIndex_df160 cJ0_checkIndex_df160 2 none :: wsL_law
abbrev wsJ1_charAt_3b067 : List Cond := Cond.code yJ1_charAt_3b067 cJ1_charAt_3b067 2 (some .char) :: wsL_law
abbrev wsJ2_length_9d52b : List Cond := Cond.code yJ2_length_9d52b cJ2_length_9d52b 1 (some .int) :: wsL_law
abbrev wsJ2_checkIndex_2214a : List Cond := Cond.code yJ2_checkIndex_2214a cJ2_checkIndex_2214a 2 none :: wsL_law
abbrev wsJ2_getChar_3b067 : List Cond := Cond.code yJ2_getChar_3b067 cJ2_getChar_3b067 2 (some .char) :: wsL_law
abbrev wsJ2_charAt_3b067 : List Cond := Cond.code yJ2_charAt_3b067 cJ2_charAt_3b067 2 (some .char) :: wsL_law
abbrev wsJ0_charAt_5068e : List Cond := Cond.code yJ0_charAt_5068e cJ0_charAt_5068e 2 (some .char) :: wsL_law
abbrev wsX6_isWord : List Cond := Cond.code yX6_isWord cX6_isWord 5 (some .boolean) :: wsL_law
abbrev wsX6_takeWord : List Cond := Cond.code yX6_takeWord cX6_takeWord 2 none :: wsL_law
abbrev wsX6_isDigit : List Cond := Cond.code yX6_isDigit cX6_isDigit 1 (some .boolean) :: wsL_law
abbrev wsX6_takeInt : List Cond := Cond.code yX6_takeInt cX6_takeInt 1 none :: wsL_law
abbrev wsX6_kindOfPair : List Cond := Cond.code yX6_kindOfPair cX6_kindOfPair 1 (some .int) :: wsL_law
abbrev wsX6_kindOfSingle : List Cond := Cond.code yX6_kindOfSingle cX6_kindOfSingle 1 (some .int) :: wsL_law
abbrev wsX6_takeSign : List Cond := Cond.code yX6_takeSign cX6_takeSign 3 none :: wsL_law
abbrev wsX6_advance : List Cond := Cond.code yX6_advance cX6_advance 2 none :: wsL_law
abbrev wsX5_isVar : List Cond := Cond.code yX5_isVar cX5_isVar 1 (some .boolean) :: wsL_law
abbrev wsX5_isRelation : List Cond := Cond.code yX5_isRelation cX5_isRelation 1 (some .boolean) :: wsL_law
abbrev wsX5_goesOnBehindUnit : List Cond := Cond.code yX5_goesOnBehindUnit cX5_goesOnBehindUnit 2 (some .boolean) :: wsL_law
abbrev wsX5_goesOnWith : List Cond := Cond.code yX5_goesOnWith cX5_goesOnWith 2 (some .boolean) :: wsL_law
abbrev wsX10_isFull : List Cond := Cond.code yX10_isFull cX10_isFull 1 (some .boolean) :: wsL_law
abbrev wsX5_lacksRoomFor : List Cond := Cond.code yX5_lacksRoomFor cX5_lacksRoomFor 4 (some .boolean) :: wsL_law
abbrev wsX10_openRule : List Cond := Cond.code yX10_openRule cX10_openRule 2 none :: wsL_law
abbrev wsX5_hold : List Cond := Cond.code yX5_hold cX5_hold 2 none :: wsL_law
abbrev wsX10_emit : List Cond := Cond.code yX10_emit cX10_emit 3 none :: wsL_law
abbrev wsX5_takeUnit : List Cond := Cond.code yX5_takeUnit cX5_takeUnit 3 none :: wsL_law
abbrev wsX5_rankOf : List Cond := Cond.code yX5_rankOf cX5_rankOf 1 (some .int) :: wsL_law
abbrev wsX5_release : List Cond := Cond.code yX5_release cX5_release 3 none :: wsL_law
abbrev wsX10_closeRule : List Cond := Cond.code yX10_closeRule cX10_closeRule 1 none :: wsL_law
abbrev wsX10_openCondition : List Cond := Cond.code yX10_openCondition cX10_openCondition 1 none :: wsL_law
abbrev wsX5_takeBehindUnit : List Cond := Cond.code yX5_takeBehindUnit cX5_takeBehindUnit 3 none :: wsL_law
abbrev wsX5_take : List Cond := Cond.code yX5_take cX5_take 3 none :: wsL_law
abbrev wsX5_compile : List Cond := Cond.code yX5_compile cX5_compile 3 (some .int) :: wsL_law
abbrev wsX7_init : List Cond := Cond.code yX7_init cX7_init 1 none :: wsL_law
abbrev wsX7_add : List Cond := Cond.code yX7_add cX7_add 2 (some .int) :: wsL_law
abbrev wsX7_resetFalls : List Cond := Cond.code yX7_resetFalls cX7_resetFalls 2 none :: wsL_law
abbrev wsX8_init : List Cond := Cond.code yX8_init cX8_init 1 none :: wsL_law
abbrev wsX8_learnOne : List Cond := Cond.code yX8_learnOne cX8_learnOne 5 none :: wsL_law
abbrev wsX8_carryBaseOn : List Cond := Cond.code yX8_carryBaseOn cX8_carryBaseOn 3 none :: wsL_law
abbrev wsX8_lookAhead : List Cond := Cond.code yX8_lookAhead cX8_lookAhead 2 none :: wsL_law
abbrev wsX8_learn : List Cond := Cond.code yX8_learn cX8_learn 4 none :: wsL_law
abbrev wsX9_init : List Cond := Cond.code yX9_init cX9_init 1 none :: wsL_law
abbrev wsX9_hasRoomFor : List Cond := Cond.code yX9_hasRoomFor cX9_hasRoomFor 2 (some .boolean) :: wsL_law
abbrev wsX9_append : List Cond := Cond.code yX9_append cX9_append 3 none :: wsL_law
abbrev wsX10_init : List Cond := Cond.code yX10_init cX10_init 1 none :: wsL_law
abbrev wsX11_init : List Cond := Cond.code yX11_init cX11_init 1 none :: wsL_law
abbrev wsX11_feed : List Cond := Cond.code yX11_feed cX11_feed 6 (some .int) :: wsL_law
abbrev wsX11_isWithin : List Cond := Cond.code yX11_isWithin cX11_isWithin 3 (some .boolean) :: wsL_law
abbrev wsX11_back : List Cond := Cond.code yX11_back cX11_back 2 (some .int) :: wsL_law
abbrev wsX11_read : List Cond := Cond.code yX11_read cX11_read 3 (some .int) :: wsL_law
abbrev wsX11_place : List Cond := Cond.code yX11_place cX11_place 1 (some .int) :: wsL_law
abbrev wsX11_act : List Cond := Cond.code yX11_act cX11_act 9 (some .int) :: wsL_law
abbrev wsX11_figure : List Cond := Cond.code yX11_figure cX11_figure 7 (some .int) :: wsL_law
abbrev wsX11_falls : List Cond := Cond.code yX11_falls cX11_falls 2 (some .boolean) :: wsL_law
abbrev wsX11_cell : List Cond := Cond.code yX11_cell cX11_cell 3 (some .boolean) :: wsL_law
abbrev wsX11_ground : List Cond := Cond.code yX11_ground cX11_ground 3 (some .boolean) :: wsL_law
abbrev wsX11_isMinute : List Cond := Cond.code yX11_isMinute cX11_isMinute 1 (some .boolean) :: wsL_law
abbrev wsX11_isBase : List Cond := Cond.code yX11_isBase cX11_isBase 1 (some .boolean) :: wsL_law
abbrev wsX11_base : List Cond := Cond.code yX11_base cX11_base 3 (some .int) :: wsL_law
abbrev wsX11_closeBox : List Cond := Cond.code yX11_closeBox cX11_closeBox 3 (some .int) :: wsL_law
abbrev wsX11_birds : List Cond := Cond.code yX11_birds cX11_birds 3 (some .int) :: wsL_law
abbrev wsX11_ready : List Cond := Cond.code yX11_ready cX11_ready 3 (some .int) :: wsL_law
abbrev wsX11_away : List Cond := Cond.code yX11_away cX11_away 3 (some .int) :: wsL_law
abbrev wsX11_refused : List Cond := Cond.code yX11_refused cX11_refused 5 (some .int) :: wsL_law
abbrev wsX11_length : List Cond := Cond.code yX11_length cX11_length 4 (some .int) :: wsL_law
abbrev wsX11_baseIn : List Cond := Cond.code yX11_baseIn cX11_baseIn 3 (some .int) :: wsL_law
abbrev wsX11_prepare : List Cond := Cond.code yX11_prepare cX11_prepare 2 none :: wsL_law
abbrev wsX11_plan : List Cond := Cond.code yX11_plan cX11_plan 2 (some .int) :: wsL_law
abbrev wsX11_mend : List Cond := Cond.code yX11_mend cX11_mend 2 (some .int) :: wsL_law
abbrev wsX11_order : List Cond := Cond.code yX11_order cX11_order 2 (some .int) :: wsL_law
abbrev wsX11_told : List Cond := Cond.code yX11_told cX11_told 3 (some .int) :: wsL_law
abbrev wsX11_out : List Cond := Cond.code yX11_out cX11_out 4 (some .int) :: wsL_law
abbrev wsX11_isActOrNone : List Cond := Cond.code yX11_isActOrNone cX11_isActOrNone 2 (some .boolean) :: wsL_law
abbrev wsX11_isTwice : List Cond := Cond.code yX11_isTwice cX11_isTwice 2 (some .boolean) :: wsL_law
abbrev wsX11_isOrder : List Cond := Cond.code yX11_isOrder cX11_isOrder 5 (some .boolean) :: wsL_law
abbrev wsX11_can : List Cond := Cond.code yX11_can cX11_can 7 (some .int) :: wsL_law
abbrev wsX11_runway : List Cond := Cond.code yX11_runway cX11_runway 3 (some .int) :: wsL_law
abbrev wsX11_count : List Cond := Cond.code yX11_count cX11_count 2 (some .int) :: wsL_law
abbrev wsX12_more : List Cond := Cond.code yX12_more cX12_more 3 (some .long) :: wsL_law
abbrev wsX12_word : List Cond := Cond.code yX12_word cX12_word 7 (some .long) :: wsL_law
abbrev wsX12_init : List Cond := Cond.code yX12_init cX12_init 1 none :: wsL_law
abbrev wsX12_put : List Cond := Cond.code yX12_put cX12_put 3 none :: wsL_law
abbrev wsX12_feed : List Cond := Cond.code yX12_feed cX12_feed 6 (some .int) :: wsL_law
abbrev wsX12_back : List Cond := Cond.code yX12_back cX12_back 2 (some .int) :: wsL_law
abbrev wsX12_at : List Cond := Cond.code yX12_at cX12_at 2 (some .int) :: wsL_law
abbrev wsX12_isDigit : List Cond := Cond.code yX12_isDigit cX12_isDigit 1 (some .boolean) :: wsL_law
abbrev wsX12_isLetter : List Cond := Cond.code yX12_isLetter cX12_isLetter 1 (some .boolean) :: wsL_law
abbrev wsX12_token : List Cond := Cond.code yX12_token cX12_token 6 none :: wsL_law
abbrev wsX12_sign : List Cond := Cond.code yX12_sign cX12_sign 6 (some .int) :: wsL_law
abbrev wsX12_cut : List Cond := Cond.code yX12_cut cX12_cut 8 none :: wsL_law
abbrev wsX12_is : List Cond := Cond.code yX12_is cX12_is 2 (some .boolean) :: wsL_law
abbrev wsX12_fail : List Cond := Cond.code yX12_fail cX12_fail 2 none :: wsL_law
abbrev wsX12_next : List Cond := Cond.code yX12_next cX12_next 1 none :: wsL_law
abbrev wsX12_must : List Cond := Cond.code yX12_must cX12_must 2 none :: wsL_law
abbrev wsX12_emit : List Cond := Cond.code yX12_emit cX12_emit 3 none :: wsL_law
abbrev wsX12_comesOut : List Cond := Cond.code yX12_comesOut cX12_comesOut 3 none :: wsL_law
abbrev wsX12_expression : List Cond := Cond.code yX12_expression cX12_expression 5 none :: wsL_law
abbrev wsX12_relation : List Cond := Cond.code yX12_relation cX12_relation 6 none :: wsL_law
abbrev wsX12_tellRule : List Cond := Cond.code yX12_tellRule cX12_tellRule 4 none :: wsL_law
abbrev wsX12_read : List Cond := Cond.code yX12_read cX12_read 2 (some .int) :: wsL_law
abbrev wsX12_place : List Cond := Cond.code yX12_place cX12_place 1 (some .int) :: wsL_law
abbrev wsX12_isAct : List Cond := Cond.code yX12_isAct cX12_isAct 2 (some .boolean) :: wsL_law
abbrev wsX12_isMinute : List Cond := Cond.code yX12_isMinute cX12_isMinute 1 (some .boolean) :: wsL_law
abbrev wsX12_isKnown : List Cond := Cond.code yX12_isKnown cX12_isKnown 2 (some .boolean) :: wsL_law
abbrev wsX12_act : List Cond := Cond.code yX12_act cX12_act 7 (some .int) :: wsL_law
abbrev wsX12_figure : List Cond := Cond.code yX12_figure cX12_figure 7 (some .int) :: wsL_law
abbrev wsX12_falls : List Cond := Cond.code yX12_falls cX12_falls 3 (some .boolean) :: wsL_law
abbrev wsX12_cell : List Cond := Cond.code yX12_cell cX12_cell 3 (some .boolean) :: wsL_law
abbrev wsX12_ground : List Cond := Cond.code yX12_ground cX12_ground 3 (some .boolean) :: wsL_law
abbrev wsX12_fact : List Cond := Cond.code yX12_fact cX12_fact 4 (some .int) :: wsL_law
abbrev wsX12_isSpan : List Cond := Cond.code yX12_isSpan cX12_isSpan 2 (some .boolean) :: wsL_law
abbrev wsX12_base : List Cond := Cond.code yX12_base cX12_base 3 (some .int) :: wsL_law
abbrev wsX12_birds : List Cond := Cond.code yX12_birds cX12_birds 3 (some .int) :: wsL_law
abbrev wsX12_ready : List Cond := Cond.code yX12_ready cX12_ready 3 (some .int) :: wsL_law
abbrev wsX12_away : List Cond := Cond.code yX12_away cX12_away 3 (some .int) :: wsL_law
abbrev wsX12_isRefused : List Cond := Cond.code yX12_isRefused cX12_isRefused 3 (some .boolean) :: wsL_law
abbrev wsX12_refused : List Cond := Cond.code yX12_refused cX12_refused 3 (some .int) :: wsL_law
abbrev wsX12_lengthOf : List Cond := Cond.code yX12_lengthOf cX12_lengthOf 8 (some .int) :: wsL_law
abbrev wsX12_length : List Cond := Cond.code yX12_length cX12_length 3 (some .int) :: wsL_law
abbrev wsX12_knows : List Cond := Cond.code yX12_knows cX12_knows 4 none :: wsL_law
abbrev wsX12_baseIn : List Cond := Cond.code yX12_baseIn cX12_baseIn 3 (some .int) :: wsL_law
abbrev wsX12_value : List Cond := Cond.code yX12_value cX12_value 7 (some .int) :: wsL_law
abbrev wsX12_holds : List Cond := Cond.code yX12_holds cX12_holds 7 (some .boolean) :: wsL_law
abbrev wsX12_ruleOf : List Cond := Cond.code yX12_ruleOf cX12_ruleOf 3 (some .int) :: wsL_law
abbrev wsX12_heldOf : List Cond := Cond.code yX12_heldOf cX12_heldOf 4 (some .int) :: wsL_law
abbrev wsX12_asks : List Cond := Cond.code yX12_asks cX12_asks 6 none :: wsL_law
abbrev wsX12_out : List Cond := Cond.code yX12_out cX12_out 5 (some .int) :: wsL_law
abbrev wsX12_isTaken : List Cond := Cond.code yX12_isTaken cX12_isTaken 3 (some .boolean) :: wsL_law
abbrev wsX12_isOpen : List Cond := Cond.code yX12_isOpen cX12_isOpen 4 (some .boolean) :: wsL_law
abbrev wsX12_places : List Cond := Cond.code yX12_places cX12_places 8 (some .boolean) :: wsL_law
abbrev wsX12_can : List Cond := Cond.code yX12_can cX12_can 12 (some .int) :: wsL_law
abbrev wsX12_looks : List Cond := Cond.code yX12_looks cX12_looks 6 none :: wsL_law
abbrev wsX12_makes : List Cond := Cond.code yX12_makes cX12_makes 7 (some .int) :: wsL_law
abbrev wsX12_plan : List Cond := Cond.code yX12_plan cX12_plan 2 (some .int) :: wsL_law
abbrev wsX12_mend : List Cond := Cond.code yX12_mend cX12_mend 2 (some .int) :: wsL_law
abbrev wsX12_order : List Cond := Cond.code yX12_order cX12_order 2 (some .int) :: wsL_law
abbrev wsX12_isIn : List Cond := Cond.code yX12_isIn cX12_isIn 2 (some .boolean) :: wsL_law
abbrev wsX12_told : List Cond := Cond.code yX12_told cX12_told 3 (some .int) :: wsL_law
abbrev wsX12_runway : List Cond := Cond.code yX12_runway cX12_runway 3 (some .int) :: wsL_law
abbrev wsX12_count : List Cond := Cond.code yX12_count cX12_count 4 (some .int) :: wsL_law
abbrev wsJ9_max_7cf53 : List Cond := Cond.code yJ9_max_7cf53 cJ9_max_7cf53 2 (some .int) :: wsL_law
abbrev wsJ9_min_7cf53 : List Cond := Cond.code yJ9_min_7cf53 cJ9_min_7cf53 2 (some .int) :: wsL_law
theorem sg_1 : ∀ w ∈ wsL_law_r1, w ∈ wsL_law := fun _ h => (List.mem_append_left _ (List.mem_append_left _ (List.mem_append_left _ (List.mem_append_left _ (List.mem_append_left _ (List.mem_append_left _ (List.mem_append_left _ (List.mem_append_left _ (List.mem_append_left _ (List.mem_append_left _ (List.mem_append_left _ (List.mem_append_left _ (List.mem_append_left _ (List.mem_append_left _ (List.mem_append_left _ h)))))))))))))))
theorem gw_1 : wsL_law_r1.all goodWord = true := by decide +kernel
theorem sg_2 : ∀ w ∈ wsL_law_r2, w ∈ wsL_law := fun _ h => (List.mem_append_left _ (List.mem_append_left _ (List.mem_append_left _ (List.mem_append_left _ (List.mem_append_left _ (List.mem_append_left _ (List.mem_append_left _ (List.mem_append_left _ (List.mem_append_left _ (List.mem_append_left _ (List.mem_append_left _ (List.mem_append_left _ (List.mem_append_left _ (List.mem_append_left _ (List.mem_append_right _ (List.mem_append_left _ h))))))))))))))))
theorem gw_2 : wsL_law_r2.all goodWord = true := by decide +kernel
theorem sg_3 : ∀ w ∈ wsL_law_r3, w ∈ wsL_law := fun _ h => (List.mem_append_left _ (List.mem_append_left _ (List.mem_append_left _ (List.mem_append_left _ (List.mem_append_left _ (List.mem_append_left _ (List.mem_append_left _ (List.mem_append_left _ (List.mem_append_left _ (List.mem_append_left _ (List.mem_append_left _ (List.mem_append_left _ (List.mem_append_left _ (List.mem_append_left _ (List.mem_append_right _ (List.mem_append_right _ (List.mem_append_left _ h)))))))))))))))))
theorem gw_3 : wsL_law_r3.all goodWord = true := by decide +kernel
theorem sg_4 : ∀ w ∈ wsL_law_r4, w ∈ wsL_law := fun _ h => (List.mem_append_left _ (List.mem_append_left _ (List.mem_append_left _ (List.mem_append_left _ (List.mem_append_left _ (List.mem_append_left _ (List.mem_append_left _ (List.mem_append_left _ (List.mem_append_left _ (List.mem_append_left _ (List.mem_append_left _ (List.mem_append_left _ (List.mem_append_left _ (List.mem_append_left _ (List.mem_append_right _ (List.mem_append_right _ (List.mem_append_right _ (List.mem_append_left _ h))))))))))))))))))
theorem gw_4 : wsL_law_r4.all goodWord = true := by decide +kernel
theorem sg_5 : ∀ w ∈ wsL_law_r5, w ∈ wsL_law := fun _ h => (List.mem_append_left _ (List.mem_append_left _ (List.mem_append_left _ (List.mem_append_left _ (List.mem_append_left _ (List.mem_append_left _ (List.mem_append_left _ (List.mem_append_left _ (List.mem_append_left _ (List.mem_append_left _ (List.mem_append_left _ (List.mem_append_left _ (List.mem_append_left _ (List.mem_append_left _ (List.mem_append_right _ (List.mem_append_right _ (List.mem_append_right _ (List.mem_append_right _ (List.mem_append_left _ h)))))))))))))))))))
theorem gw_5 : wsL_law_r5.all goodWord = true := by decide +kernel
theorem sg_6 : ∀ w ∈ wsL_law_r6, w ∈ wsL_law := fun _ h => (List.mem_append_left _ (List.mem_append_left _ (List.mem_append_left _ (List.mem_append_left _ (List.mem_append_left _ (List.mem_append_left _ (List.mem_append_left _ (List.mem_append_left _ (List.mem_append_left _ (List.mem_append_left _ (List.mem_append_left _ (List.mem_append_left _ (List.mem_append_left _ (List.mem_append_left _ (List.mem_append_right _ (List.mem_append_right _ (List.mem_append_right _ (List.mem_append_right _ (List.mem_append_right _ (List.mem_append_left _ h))))))))))))))))))))
theorem gw_6 : wsL_law_r6.all goodWord = true := by decide +kernel
theorem sg_7 : ∀ w ∈ wsL_law_r7, w ∈ wsL_law := fun _ h => (List.mem_append_left _ (List.mem_append_left _ (List.mem_append_left _ (List.mem_append_left _ (List.mem_append_left _ (List.mem_append_left _ (List.mem_append_left _ (List.mem_append_left _ (List.mem_append_left _ (List.mem_append_left _ (List.mem_append_left _ (List.mem_append_left _ (List.mem_append_left _ (List.mem_append_left _ (List.mem_append_right _ (List.mem_append_right _ (List.mem_append_right _ (List.mem_append_right _ (List.mem_append_right _ (List.mem_append_right _ (List.mem_append_left _ h)))))))))))))))))))))
theorem gw_7 : wsL_law_r7.all goodWord = true := by decide +kernel
theorem sg_8 : ∀ w ∈ wsL_law_r8, w ∈ wsL_law := fun _ h => (List.mem_append_left _ (List.mem_append_left _ (List.mem_append_left _ (List.mem_append_left _ (List.mem_append_left _ (List.mem_append_left _ (List.mem_append_left _ (List.mem_append_left _ (List.mem_append_left _ (List.mem_append_left _ (List.mem_append_left _ (List.mem_append_left _ (List.mem_append_left _ (List.mem_append_left _ (List.mem_append_right _ (List.mem_append_right _ (List.mem_append_right _ (List.mem_append_right _ (List.mem_append_right _ (List.mem_append_right _ (List.mem_append_right _ (List.mem_append_left _ h))))))))))))))))))))))
theorem gw_8 : wsL_law_r8.all goodWord = true := by decide +kernel
theorem sg_9 : ∀ w ∈ wsL_law_r9, w ∈ wsL_law := fun _ h => (List.mem_append_left _ (List.mem_append_left _ (List.mem_append_left _ (List.mem_append_left _ (List.mem_append_left _ (List.mem_append_left _ (List.mem_append_left _ (List.mem_append_left _ (List.mem_append_left _ (List.mem_append_left _ (List.mem_append_left _ (List.mem_append_left _ (List.mem_append_left _ (List.mem_append_left _ (List.mem_append_right _ (List.mem_append_right _ (List.mem_append_right _ (List.mem_append_right _ (List.mem_append_right _ (List.mem_append_right _ (List.mem_append_right _ (List.mem_append_right _ (List.mem_append_left _ h)))))))))))))))))))))))
theorem gw_9 : wsL_law_r9.all goodWord = true := by decide +kernel
theorem sg_10 : ∀ w ∈ wsL_law_r10, w ∈ wsL_law := fun _ h => (List.mem_append_left _ (List.mem_append_left _ (List.mem_append_left _ (List.mem_append_left _ (List.mem_append_left _ (List.mem_append_left _ (List.mem_append_left _ (List.mem_append_left _ (List.mem_append_left _ (List.mem_append_left _ (List.mem_append_left _ (List.mem_append_left _ (List.mem_append_left _ (List.mem_append_left _ (List.mem_append_right _ (List.mem_append_right _ (List.mem_append_right _ (List.mem_append_right _ (List.mem_append_right _ (List.mem_append_right _ (List.mem_append_right _ (List.mem_append_right _ (List.mem_append_right _ (List.mem_append_left _ h))))))))))))))))))))))))
theorem gw_10 : wsL_law_r10.all goodWord = true := by decide +kernel
theorem sg_11 : ∀ w ∈ wsL_law_r11, w ∈ wsL_law := fun _ h => (List.mem_append_left _ (List.mem_append_left _ (List.mem_append_left _ (List.mem_append_left _ (List.mem_append_left _ (List.mem_append_left _ (List.mem_append_left _ (List.mem_append_left _ (List.mem_append_left _ (List.mem_append_left _ (List.mem_append_left _ (List.mem_append_left _ (List.mem_append_left _ (List.mem_append_left _ (List.mem_append_right _ (List.mem_append_right _ (List.mem_append_right _ (List.mem_append_right _ (List.mem_append_right _ (List.mem_append_right _ (List.mem_append_right _ (List.mem_append_right _ (List.mem_append_right _ (List.mem_append_right _ (List.mem_append_left _ h)))))))))))))))))))))))))
theorem gw_11 : wsL_law_r11.all goodWord = true := by decide +kernel
theorem sg_12 : ∀ w ∈ wsL_law_r12, w ∈ wsL_law := fun _ h => (List.mem_append_left _ (List.mem_append_left _ (List.mem_append_left _ (List.mem_append_left _ (List.mem_append_left _ (List.mem_append_left _ (List.mem_append_left _ (List.mem_append_left _ (List.mem_append_left _ (List.mem_append_left _ (List.mem_append_left _ (List.mem_append_left _ (List.mem_append_left _ (List.mem_append_left _ (List.mem_append_right _ (List.mem_append_right _ (List.mem_append_right _ (List.mem_append_right _ (List.mem_append_right _ (List.mem_append_right _ (List.mem_append_right _ (List.mem_append_right _ (List.mem_append_right _ (List.mem_append_right _ (List.mem_append_right _ (List.mem_append_left _ h))))))))))))))))))))))))))
theorem gw_12 : wsL_law_r12.all goodWord = true := by decide +kernel
theorem sg_13 : ∀ w ∈ wsL_law_r13, w ∈ wsL_law := fun _ h => (List.mem_append_left _ (List.mem_append_left _ (List.mem_append_left _ (List.mem_append_left _ (List.mem_append_left _ (List.mem_append_left _ (List.mem_append_left _ (List.mem_append_left _ (List.mem_append_left _ (List.mem_append_left _ (List.mem_append_left _ (List.mem_append_left _ (List.mem_append_left _ (List.mem_append_left _ (List.mem_append_right _ (List.mem_append_right _ (List.mem_append_right _ (List.mem_append_right _ (List.mem_append_right _ (List.mem_append_right _ (List.mem_append_right _ (List.mem_append_right _ (List.mem_append_right _ (List.mem_append_right _ (List.mem_append_right _ (List.mem_append_right _ (List.mem_append_left _ h)))))))))))))))))))))))))))
theorem gw_13 : wsL_law_r13.all goodWord = true := by decide +kernel
theorem sg_14 : ∀ w ∈ wsL_law_r14, w ∈ wsL_law := fun _ h => (List.mem_append_left _ (List.mem_append_left _ (List.mem_append_left _ (List.mem_append_left _ (List.mem_append_left _ (List.mem_append_left _ (List.mem_append_left _ (List.mem_append_left _ (List.mem_append_left _ (List.mem_append_left _ (List.mem_append_left _ (List.mem_append_left _ (List.mem_append_left _ (List.mem_append_left _ (List.mem_append_right _ (List.mem_append_right _ (List.mem_append_right _ (List.mem_append_right _ (List.mem_append_right _ (List.mem_append_right _ (List.mem_append_right _ (List.mem_append_right _ (List.mem_append_right _ (List.mem_append_right _ (List.mem_append_right _ (List.mem_append_right _ (List.mem_append_right _ (List.mem_append_left _ h))))))))))))))))))))))))))))
theorem gw_14 : wsL_law_r14.all goodWord = true := by decide +kernel
theorem sg_15 : ∀ w ∈ wsL_law_r15, w ∈ wsL_law := fun _ h => (List.mem_append_left _ (List.mem_append_left _ (List.mem_append_left _ (List.mem_append_left _ (List.mem_append_left _ (List.mem_append_left _ (List.mem_append_left _ (List.mem_append_left _ (List.mem_append_left _ (List.mem_append_left _ (List.mem_append_left _ (List.mem_append_left _ (List.mem_append_left _ (List.mem_append_left _ (List.mem_append_right _ (List.mem_append_right _ (List.mem_append_right _ (List.mem_append_right _ (List.mem_append_right _ (List.mem_append_right _ (List.mem_append_right _ (List.mem_append_right _ (List.mem_append_right _ (List.mem_append_right _ (List.mem_append_right _ (List.mem_append_right _ (List.mem_append_right _ (List.mem_append_right _ (List.mem_append_left _ h)))))))))))))))))))))))))))))
theorem gw_15 : wsL_law_r15.all goodWord = true := by decide +kernel
theorem sg_16 : ∀ w ∈ wsL_law_r16, w ∈ wsL_law := fun _ h => (List.mem_append_left _ (List.mem_append_left _ (List.mem_append_left _ (List.mem_append_left _ (List.mem_append_left _ (List.mem_append_left _ (List.mem_append_left _ (List.mem_append_left _ (List.mem_append_left _ (List.mem_append_left _ (List.mem_append_left _ (List.mem_append_left _ (List.mem_append_left _ (List.mem_append_left _ (List.mem_append_right _ (List.mem_append_right _ (List.mem_append_right _ (List.mem_append_right _ (List.mem_append_right _ (List.mem_append_right _ (List.mem_append_right _ (List.mem_append_right _ (List.mem_append_right _ (List.mem_append_right _ (List.mem_append_right _ (List.mem_append_right _ (List.mem_append_right _ (List.mem_append_right _ (List.mem_append_right _ (List.mem_append_left _ h))))))))))))))))))))))))))))))
theorem gw_16 : wsL_law_r16.all goodWord = true := by decide +kernel
theorem sg_17 : ∀ w ∈ wsL_law_r17, w ∈ wsL_law := fun _ h => (List.mem_append_left _ (List.mem_append_left _ (List.mem_append_left _ (List.mem_append_left _ (List.mem_append_left _ (List.mem_append_left _ (List.mem_append_left _ (List.mem_append_left _ (List.mem_append_left _ (List.mem_append_left _ (List.mem_append_left _ (List.mem_append_left _ (List.mem_append_left _ (List.mem_append_left _ (List.mem_append_right _ (List.mem_append_right _ (List.mem_append_right _ (List.mem_append_right _ (List.mem_append_right _ (List.mem_append_right _ (List.mem_append_right _ (List.mem_append_right _ (List.mem_append_right _ (List.mem_append_right _ (List.mem_append_right _ (List.mem_append_right _ (List.mem_append_right _ (List.mem_append_right _ (List.mem_append_right _ (List.mem_append_right _ (List.mem_append_left _ h)))))))))))))))))))))))))))))))
theorem gw_17 : wsL_law_r17.all goodWord = true := by decide +kernel
theorem sg_18 : ∀ w ∈ wsL_law_r18, w ∈ wsL_law := fun _ h => (List.mem_append_left _ (List.mem_append_left _ (List.mem_append_left _ (List.mem_append_left _ (List.mem_append_left _ (List.mem_append_left _ (List.mem_append_left _ (List.mem_append_left _ (List.mem_append_left _ (List.mem_append_left _ (List.mem_append_left _ (List.mem_append_left _ (List.mem_append_left _ (List.mem_append_left _ (List.mem_append_right _ (List.mem_append_right _ (List.mem_append_right _ (List.mem_append_right _ (List.mem_append_right _ (List.mem_append_right _ (List.mem_append_right _ (List.mem_append_right _ (List.mem_append_right _ (List.mem_append_right _ (List.mem_append_right _ (List.mem_append_right _ (List.mem_append_right _ (List.mem_append_right _ (List.mem_append_right _ (List.mem_append_right _ (List.mem_append_right _ (List.mem_append_left _ h))))))))))))))))))))))))))))))))
theorem gw_18 : wsL_law_r18.all goodWord = true := by decide +kernel
theorem sg_19 : ∀ w ∈ wsL_law_r19, w ∈ wsL_law := fun _ h => (List.mem_append_left _ (List.mem_append_left _ (List.mem_append_left _ (List.mem_append_left _ (List.mem_append_left _ (List.mem_append_left _ (List.mem_append_left _ (List.mem_append_left _ (List.mem_append_left _ (List.mem_append_left _ (List.mem_append_left _ (List.mem_append_left _ (List.mem_append_left _ (List.mem_append_left _ (List.mem_append_right _ (List.mem_append_right _ (List.mem_append_right _ (List.mem_append_right _ (List.mem_append_right _ (List.mem_append_right _ (List.mem_append_right _ (List.mem_append_right _ (List.mem_append_right _ (List.mem_append_right _ (List.mem_append_right _ (List.mem_append_right _ (List.mem_append_right _ (List.mem_append_right _ (List.mem_append_right _ (List.mem_append_right _ (List.mem_append_right _ (List.mem_append_right _ (List.mem_append_left _ h)))))))))))))))))))))))))))))))))
theorem gw_19 : wsL_law_r19.all goodWord = true := by decide +kernel
theorem sg_20 : ∀ w ∈ wsL_law_r20, w ∈ wsL_law := fun _ h => (List.mem_append_left _ (List.mem_append_left _ (List.mem_append_left _ (List.mem_append_left _ (List.mem_append_left _ (List.mem_append_left _ (List.mem_append_left _ (List.mem_append_left _ (List.mem_append_left _ (List.mem_append_left _ (List.mem_append_left _ (List.mem_append_left _ (List.mem_append_left _ (List.mem_append_left _ (List.mem_append_right _ (List.mem_append_right _ (List.mem_append_right _ (List.mem_append_right _ (List.mem_append_right _ (List.mem_append_right _ (List.mem_append_right _ (List.mem_append_right _ (List.mem_append_right _ (List.mem_append_right _ (List.mem_append_right _ (List.mem_append_right _ (List.mem_append_right _ (List.mem_append_right _ (List.mem_append_right _ (List.mem_append_right _ (List.mem_append_right _ (List.mem_append_right _ (List.mem_append_right _ (List.mem_append_left _ h))))))))))))))))))))))))))))))))))
theorem gw_20 : wsL_law_r20.all goodWord = true := by decide +kernel
theorem sg_21 : ∀ w ∈ wsL_law_r21, w ∈ wsL_law := fun _ h => (List.mem_append_left _ (List.mem_append_left _ (List.mem_append_left _ (List.mem_append_left _ (List.mem_append_left _ (List.mem_append_left _ (List.mem_append_left _ (List.mem_append_left _ (List.mem_append_left _ (List.mem_append_left _ (List.mem_append_left _ (List.mem_append_left _ (List.mem_append_left _ (List.mem_append_left _ (List.mem_append_right _ (List.mem_append_right _ (List.mem_append_right _ (List.mem_append_right _ (List.mem_append_right _ (List.mem_append_right _ (List.mem_append_right _ (List.mem_append_right _ (List.mem_append_right _ (List.mem_append_right _ (List.mem_append_right _ (List.mem_append_right _ (List.mem_append_right _ (List.mem_append_right _ (List.mem_append_right _ (List.mem_append_right _ (List.mem_append_right _ (List.mem_append_right _ (List.mem_append_right _ (List.mem_append_right _ (List.mem_append_left _ h)))))))))))))))))))))))))))))))))))
theorem gw_21 : wsL_law_r21.all goodWord = true := by decide +kernel
theorem sg_22 : ∀ w ∈ wsL_law_r22, w ∈ wsL_law := fun _ h => (List.mem_append_left _ (List.mem_append_left _ (List.mem_append_left _ (List.mem_append_left _ (List.mem_append_left _ (List.mem_append_left _ (List.mem_append_left _ (List.mem_append_left _ (List.mem_append_left _ (List.mem_append_left _ (List.mem_append_left _ (List.mem_append_left _ (List.mem_append_left _ (List.mem_append_left _ (List.mem_append_right _ (List.mem_append_right _ (List.mem_append_right _ (List.mem_append_right _ (List.mem_append_right _ (List.mem_append_right _ (List.mem_append_right _ (List.mem_append_right _ (List.mem_append_right _ (List.mem_append_right _ (List.mem_append_right _ (List.mem_append_right _ (List.mem_append_right _ (List.mem_append_right _ (List.mem_append_right _ (List.mem_append_right _ (List.mem_append_right _ (List.mem_append_right _ (List.mem_append_right _ (List.mem_append_right _ (List.mem_append_right _ (List.mem_append_left _ h))))))))))))))))))))))))))))))))))))
theorem gw_22 : wsL_law_r22.all goodWord = true := by decide +kernel
theorem sg_23 : ∀ w ∈ wsL_law_r23, w ∈ wsL_law := fun _ h => (List.mem_append_left _ (List.mem_append_left _ (List.mem_append_left _ (List.mem_append_left _ (List.mem_append_left _ (List.mem_append_left _ (List.mem_append_left _ (List.mem_append_left _ (List.mem_append_left _ (List.mem_append_left _ (List.mem_append_left _ (List.mem_append_left _ (List.mem_append_left _ (List.mem_append_left _ (List.mem_append_right _ (List.mem_append_right _ (List.mem_append_right _ (List.mem_append_right _ (List.mem_append_right _ (List.mem_append_right _ (List.mem_append_right _ (List.mem_append_right _ (List.mem_append_right _ (List.mem_append_right _ (List.mem_append_right _ (List.mem_append_right _ (List.mem_append_right _ (List.mem_append_right _ (List.mem_append_right _ (List.mem_append_right _ (List.mem_append_right _ (List.mem_append_right _ (List.mem_append_right _ (List.mem_append_right _ (List.mem_append_right _ (List.mem_append_right _ (List.mem_append_left _ h)))))))))))))))))))))))))))))))))))))
theorem gw_23 : wsL_law_r23.all goodWord = true := by decide +kernel
theorem sg_24 : ∀ w ∈ wsL_law_r24, w ∈ wsL_law := fun _ h => (List.mem_append_left _ (List.mem_append_left _ (List.mem_append_left _ (List.mem_append_left _ (List.mem_append_left _ (List.mem_append_left _ (List.mem_append_left _ (List.mem_append_left _ (List.mem_append_left _ (List.mem_append_left _ (List.mem_append_left _ (List.mem_append_left _ (List.mem_append_left _ (List.mem_append_left _ (List.mem_append_right _ (List.mem_append_right _ (List.mem_append_right _ (List.mem_append_right _ (List.mem_append_right _ (List.mem_append_right _ (List.mem_append_right _ (List.mem_append_right _ (List.mem_append_right _ (List.mem_append_right _ (List.mem_append_right _ (List.mem_append_right _ (List.mem_append_right _ (List.mem_append_right _ (List.mem_append_right _ (List.mem_append_right _ (List.mem_append_right _ (List.mem_append_right _ (List.mem_append_right _ (List.mem_append_right _ (List.mem_append_right _ (List.mem_append_right _ (List.mem_append_right _ (List.mem_append_left _ h))))))))))))))))))))))))))))))))))))))
theorem gw_24 : wsL_law_r24.all goodWord = true := by decide +kernel
theorem sg_25 : ∀ w ∈ wsL_law_r25, w ∈ wsL_law := fun _ h => (List.mem_append_left _ (List.mem_append_left _ (List.mem_append_left _ (List.mem_append_left _ (List.mem_append_left _ (List.mem_append_left _ (List.mem_append_left _ (List.mem_append_left _ (List.mem_append_left _ (List.mem_append_left _ (List.mem_append_left _ (List.mem_append_left _ (List.mem_append_left _ (List.mem_append_left _ (List.mem_append_right _ (List.mem_append_right _ (List.mem_append_right _ (List.mem_append_right _ (List.mem_append_right _ (List.mem_append_right _ (List.mem_append_right _ (List.mem_append_right _ (List.mem_append_right _ (List.mem_append_right _ (List.mem_append_right _ (List.mem_append_right _ (List.mem_append_right _ (List.mem_append_right _ (List.mem_append_right _ (List.mem_append_right _ (List.mem_append_right _ (List.mem_append_right _ (List.mem_append_right _ (List.mem_append_right _ (List.mem_append_right _ (List.mem_append_right _ (List.mem_append_right _ (List.mem_append_right _ (List.mem_append_left _ h)))))))))))))))))))))))))))))))))))))))
theorem gw_25 : wsL_law_r25.all goodWord = true := by decide +kernel
theorem sg_26 : ∀ w ∈ wsL_law_r26, w ∈ wsL_law := fun _ h => (List.mem_append_left _ (List.mem_append_left _ (List.mem_append_left _ (List.mem_append_left _ (List.mem_append_left _ (List.mem_append_left _ (List.mem_append_left _ (List.mem_append_left _ (List.mem_append_left _ (List.mem_append_left _ (List.mem_append_left _ (List.mem_append_left _ (List.mem_append_left _ (List.mem_append_left _ (List.mem_append_right _ (List.mem_append_right _ (List.mem_append_right _ (List.mem_append_right _ (List.mem_append_right _ (List.mem_append_right _ (List.mem_append_right _ (List.mem_append_right _ (List.mem_append_right _ (List.mem_append_right _ (List.mem_append_right _ (List.mem_append_right _ (List.mem_append_right _ (List.mem_append_right _ (List.mem_append_right _ (List.mem_append_right _ (List.mem_append_right _ (List.mem_append_right _ (List.mem_append_right _ (List.mem_append_right _ (List.mem_append_right _ (List.mem_append_right _ (List.mem_append_right _ (List.mem_append_right _ (List.mem_append_right _ (List.mem_append_left _ h))))))))))))))))))))))))))))))))))))))))
theorem gw_26 : wsL_law_r26.all goodWord = true := by decide +kernel
theorem sg_27 : ∀ w ∈ wsL_law_r27, w ∈ wsL_law := fun _ h => (List.mem_append_left _ (List.mem_append_left _ (List.mem_append_left _ (List.mem_append_left _ (List.mem_append_left _ (List.mem_append_left _ (List.mem_append_left _ (List.mem_append_left _ (List.mem_append_left _ (List.mem_append_left _ (List.mem_append_left _ (List.mem_append_left _ (List.mem_append_left _ (List.mem_append_left _ (List.mem_append_right _ (List.mem_append_right _ (List.mem_append_right _ (List.mem_append_right _ (List.mem_append_right _ (List.mem_append_right _ (List.mem_append_right _ (List.mem_append_right _ (List.mem_append_right _ (List.mem_append_right _ (List.mem_append_right _ (List.mem_append_right _ (List.mem_append_right _ (List.mem_append_right _ (List.mem_append_right _ (List.mem_append_right _ (List.mem_append_right _ (List.mem_append_right _ (List.mem_append_right _ (List.mem_append_right _ (List.mem_append_right _ (List.mem_append_right _ (List.mem_append_right _ (List.mem_append_right _ (List.mem_append_right _ (List.mem_append_right _ (List.mem_append_left _ h)))))))))))))))))))))))))))))))))))))))))
theorem gw_27 : wsL_law_r27.all goodWord = true := by decide +kernel
theorem sg_28 : ∀ w ∈ wsL_law_r28, w ∈ wsL_law := fun _ h => (List.mem_append_left _ (List.mem_append_left _ (List.mem_append_left _ (List.mem_append_left _ (List.mem_append_left _ (List.mem_append_left _ (List.mem_append_left _ (List.mem_append_left _ (List.mem_append_left _ (List.mem_append_left _ (List.mem_append_left _ (List.mem_append_left _ (List.mem_append_left _ (List.mem_append_left _ (List.mem_append_right _ (List.mem_append_right _ (List.mem_append_right _ (List.mem_append_right _ (List.mem_append_right _ (List.mem_append_right _ (List.mem_append_right _ (List.mem_append_right _ (List.mem_append_right _ (List.mem_append_right _ (List.mem_append_right _ (List.mem_append_right _ (List.mem_append_right _ (List.mem_append_right _ (List.mem_append_right _ (List.mem_append_right _ (List.mem_append_right _ (List.mem_append_right _ (List.mem_append_right _ (List.mem_append_right _ (List.mem_append_right _ (List.mem_append_right _ (List.mem_append_right _ (List.mem_append_right _ (List.mem_append_right _ (List.mem_append_right _ (List.mem_append_right _ (List.mem_append_left _ h))))))))))))))))))))))))))))))))))))))))))
theorem gw_28 : wsL_law_r28.all goodWord = true := by decide +kernel
theorem sg_29 : ∀ w ∈ wsL_law_r29, w ∈ wsL_law := fun _ h => (List.mem_append_left _ (List.mem_append_left _ (List.mem_append_left _ (List.mem_append_left _ (List.mem_append_left _ (List.mem_append_left _ (List.mem_append_left _ (List.mem_append_left _ (List.mem_append_left _ (List.mem_append_left _ (List.mem_append_left _ (List.mem_append_left _ (List.mem_append_left _ (List.mem_append_left _ (List.mem_append_right _ (List.mem_append_right _ (List.mem_append_right _ (List.mem_append_right _ (List.mem_append_right _ (List.mem_append_right _ (List.mem_append_right _ (List.mem_append_right _ (List.mem_append_right _ (List.mem_append_right _ (List.mem_append_right _ (List.mem_append_right _ (List.mem_append_right _ (List.mem_append_right _ (List.mem_append_right _ (List.mem_append_right _ (List.mem_append_right _ (List.mem_append_right _ (List.mem_append_right _ (List.mem_append_right _ (List.mem_append_right _ (List.mem_append_right _ (List.mem_append_right _ (List.mem_append_right _ (List.mem_append_right _ (List.mem_append_right _ (List.mem_append_right _ (List.mem_append_right _ (List.mem_append_left _ h)))))))))))))))))))))))))))))))))))))))))))
theorem gw_29 : wsL_law_r29.all goodWord = true := by decide +kernel
theorem sg_30 : ∀ w ∈ wsL_law_r30, w ∈ wsL_law := fun _ h => (List.mem_append_left _ (List.mem_append_left _ (List.mem_append_left _ (List.mem_append_left _ (List.mem_append_left _ (List.mem_append_left _ (List.mem_append_left _ (List.mem_append_left _ (List.mem_append_left _ (List.mem_append_left _ (List.mem_append_left _ (List.mem_append_left _ (List.mem_append_left _ (List.mem_append_left _ (List.mem_append_right _ (List.mem_append_right _ (List.mem_append_right _ (List.mem_append_right _ (List.mem_append_right _ (List.mem_append_right _ (List.mem_append_right _ (List.mem_append_right _ (List.mem_append_right _ (List.mem_append_right _ (List.mem_append_right _ (List.mem_append_right _ (List.mem_append_right _ (List.mem_append_right _ (List.mem_append_right _ (List.mem_append_right _ (List.mem_append_right _ (List.mem_append_right _ (List.mem_append_right _ (List.mem_append_right _ (List.mem_append_right _ (List.mem_append_right _ (List.mem_append_right _ (List.mem_append_right _ (List.mem_append_right _ (List.mem_append_right _ (List.mem_append_right _ (List.mem_append_right _ (List.mem_append_right _ (List.mem_append_left _ h))))))))))))))))))))))))))))))))))))))))))))
theorem gw_30 : wsL_law_r30.all goodWord = true := by decide +kernel
theorem sg_31 : ∀ w ∈ wsL_law_r31, w ∈ wsL_law := fun _ h => (List.mem_append_left _ (List.mem_append_left _ (List.mem_append_left _ (List.mem_append_left _ (List.mem_append_left _ (List.mem_append_left _ (List.mem_append_left _ (List.mem_append_left _ (List.mem_append_left _ (List.mem_append_left _ (List.mem_append_left _ (List.mem_append_left _ (List.mem_append_left _ (List.mem_append_left _ (List.mem_append_right _ (List.mem_append_right _ (List.mem_append_right _ (List.mem_append_right _ (List.mem_append_right _ (List.mem_append_right _ (List.mem_append_right _ (List.mem_append_right _ (List.mem_append_right _ (List.mem_append_right _ (List.mem_append_right _ (List.mem_append_right _ (List.mem_append_right _ (List.mem_append_right _ (List.mem_append_right _ (List.mem_append_right _ (List.mem_append_right _ (List.mem_append_right _ (List.mem_append_right _ (List.mem_append_right _ (List.mem_append_right _ (List.mem_append_right _ (List.mem_append_right _ (List.mem_append_right _ (List.mem_append_right _ (List.mem_append_right _ (List.mem_append_right _ (List.mem_append_right _ (List.mem_append_right _ (List.mem_append_right _ (List.mem_append_left _ h)))))))))))))))))))))))))))))))))))))))))))))
theorem gw_31 : wsL_law_r31.all goodWord = true := by decide +kernel
theorem sg_32 : ∀ w ∈ wsL_law_r32, w ∈ wsL_law := fun _ h => (List.mem_append_left _ (List.mem_append_left _ (List.mem_append_left _ (List.mem_append_left _ (List.mem_append_left _ (List.mem_append_left _ (List.mem_append_left _ (List.mem_append_left _ (List.mem_append_left _ (List.mem_append_left _ (List.mem_append_left _ (List.mem_append_left _ (List.mem_append_left _ (List.mem_append_left _ (List.mem_append_right _ (List.mem_append_right _ (List.mem_append_right _ (List.mem_append_right _ (List.mem_append_right _ (List.mem_append_right _ (List.mem_append_right _ (List.mem_append_right _ (List.mem_append_right _ (List.mem_append_right _ (List.mem_append_right _ (List.mem_append_right _ (List.mem_append_right _ (List.mem_append_right _ (List.mem_append_right _ (List.mem_append_right _ (List.mem_append_right _ (List.mem_append_right _ (List.mem_append_right _ (List.mem_append_right _ (List.mem_append_right _ (List.mem_append_right _ (List.mem_append_right _ (List.mem_append_right _ (List.mem_append_right _ (List.mem_append_right _ (List.mem_append_right _ (List.mem_append_right _ (List.mem_append_right _ (List.mem_append_right _ (List.mem_append_right _ (List.mem_append_left _ h))))))))))))))))))))))))))))))))))))))))))))))
theorem gw_32 : wsL_law_r32.all goodWord = true := by decide +kernel
theorem sg_33 : ∀ w ∈ wsL_law_r33, w ∈ wsL_law := fun _ h => (List.mem_append_left _ (List.mem_append_left _ (List.mem_append_left _ (List.mem_append_left _ (List.mem_append_left _ (List.mem_append_left _ (List.mem_append_left _ (List.mem_append_left _ (List.mem_append_left _ (List.mem_append_left _ (List.mem_append_left _ (List.mem_append_left _ (List.mem_append_left _ (List.mem_append_left _ (List.mem_append_right _ (List.mem_append_right _ (List.mem_append_right _ (List.mem_append_right _ (List.mem_append_right _ (List.mem_append_right _ (List.mem_append_right _ (List.mem_append_right _ (List.mem_append_right _ (List.mem_append_right _ (List.mem_append_right _ (List.mem_append_right _ (List.mem_append_right _ (List.mem_append_right _ (List.mem_append_right _ (List.mem_append_right _ (List.mem_append_right _ (List.mem_append_right _ (List.mem_append_right _ (List.mem_append_right _ (List.mem_append_right _ (List.mem_append_right _ (List.mem_append_right _ (List.mem_append_right _ (List.mem_append_right _ (List.mem_append_right _ (List.mem_append_right _ (List.mem_append_right _ (List.mem_append_right _ (List.mem_append_right _ (List.mem_append_right _ (List.mem_append_right _ (List.mem_append_left _ h)))))))))))))))))))))))))))))))))))))))))))))))
theorem gw_33 : wsL_law_r33.all goodWord = true := by decide +kernel
theorem sg_34 : ∀ w ∈ wsL_law_r34, w ∈ wsL_law := fun _ h => (List.mem_append_left _ (List.mem_append_left _ (List.mem_append_left _ (List.mem_append_left _ (List.mem_append_left _ (List.mem_append_left _ (List.mem_append_left _ (List.mem_append_left _ (List.mem_append_left _ (List.mem_append_left _ (List.mem_append_left _ (List.mem_append_left _ (List.mem_append_left _ (List.mem_append_left _ (List.mem_append_right _ (List.mem_append_right _ (List.mem_append_right _ (List.mem_append_right _ (List.mem_append_right _ (List.mem_append_right _ (List.mem_append_right _ (List.mem_append_right _ (List.mem_append_right _ (List.mem_append_right _ (List.mem_append_right _ (List.mem_append_right _ (List.mem_append_right _ (List.mem_append_right _ (List.mem_append_right _ (List.mem_append_right _ (List.mem_append_right _ (List.mem_append_right _ (List.mem_append_right _ (List.mem_append_right _ (List.mem_append_right _ (List.mem_append_right _ (List.mem_append_right _ (List.mem_append_right _ (List.mem_append_right _ (List.mem_append_right _ (List.mem_append_right _ (List.mem_append_right _ (List.mem_append_right _ (List.mem_append_right _ (List.mem_append_right _ (List.mem_append_right _ (List.mem_append_right _ (List.mem_append_left _ h))))))))))))))))))))))))))))))))))))))))))))))))
theorem gw_34 : wsL_law_r34.all goodWord = true := by decide +kernel
theorem sg_35 : ∀ w ∈ wsL_law_r35, w ∈ wsL_law := fun _ h => (List.mem_append_left _ (List.mem_append_left _ (List.mem_append_left _ (List.mem_append_left _ (List.mem_append_left _ (List.mem_append_left _ (List.mem_append_left _ (List.mem_append_left _ (List.mem_append_left _ (List.mem_append_left _ (List.mem_append_left _ (List.mem_append_left _ (List.mem_append_left _ (List.mem_append_left _ (List.mem_append_right _ (List.mem_append_right _ (List.mem_append_right _ (List.mem_append_right _ (List.mem_append_right _ (List.mem_append_right _ (List.mem_append_right _ (List.mem_append_right _ (List.mem_append_right _ (List.mem_append_right _ (List.mem_append_right _ (List.mem_append_right _ (List.mem_append_right _ (List.mem_append_right _ (List.mem_append_right _ (List.mem_append_right _ (List.mem_append_right _ (List.mem_append_right _ (List.mem_append_right _ (List.mem_append_right _ (List.mem_append_right _ (List.mem_append_right _ (List.mem_append_right _ (List.mem_append_right _ (List.mem_append_right _ (List.mem_append_right _ (List.mem_append_right _ (List.mem_append_right _ (List.mem_append_right _ (List.mem_append_right _ (List.mem_append_right _ (List.mem_append_right _ (List.mem_append_right _ (List.mem_append_right _ (List.mem_append_left _ h)))))))))))))))))))))))))))))))))))))))))))))))))
theorem gw_35 : wsL_law_r35.all goodWord = true := by decide +kernel
theorem sg_36 : ∀ w ∈ wsL_law_r36, w ∈ wsL_law := fun _ h => (List.mem_append_left _ (List.mem_append_left _ (List.mem_append_left _ (List.mem_append_left _ (List.mem_append_left _ (List.mem_append_left _ (List.mem_append_left _ (List.mem_append_left _ (List.mem_append_left _ (List.mem_append_left _ (List.mem_append_left _ (List.mem_append_left _ (List.mem_append_left _ (List.mem_append_left _ (List.mem_append_right _ (List.mem_append_right _ (List.mem_append_right _ (List.mem_append_right _ (List.mem_append_right _ (List.mem_append_right _ (List.mem_append_right _ (List.mem_append_right _ (List.mem_append_right _ (List.mem_append_right _ (List.mem_append_right _ (List.mem_append_right _ (List.mem_append_right _ (List.mem_append_right _ (List.mem_append_right _ (List.mem_append_right _ (List.mem_append_right _ (List.mem_append_right _ (List.mem_append_right _ (List.mem_append_right _ (List.mem_append_right _ (List.mem_append_right _ (List.mem_append_right _ (List.mem_append_right _ (List.mem_append_right _ (List.mem_append_right _ (List.mem_append_right _ (List.mem_append_right _ (List.mem_append_right _ (List.mem_append_right _ (List.mem_append_right _ (List.mem_append_right _ (List.mem_append_right _ (List.mem_append_right _ (List.mem_append_right _ (List.mem_append_left _ h))))))))))))))))))))))))))))))))))))))))))))))))))
theorem gw_36 : wsL_law_r36.all goodWord = true := by decide +kernel
theorem sg_37 : ∀ w ∈ wsL_law_r37, w ∈ wsL_law := fun _ h => (List.mem_append_left _ (List.mem_append_left _ (List.mem_append_left _ (List.mem_append_left _ (List.mem_append_left _ (List.mem_append_left _ (List.mem_append_left _ (List.mem_append_left _ (List.mem_append_left _ (List.mem_append_left _ (List.mem_append_left _ (List.mem_append_left _ (List.mem_append_left _ (List.mem_append_left _ (List.mem_append_right _ (List.mem_append_right _ (List.mem_append_right _ (List.mem_append_right _ (List.mem_append_right _ (List.mem_append_right _ (List.mem_append_right _ (List.mem_append_right _ (List.mem_append_right _ (List.mem_append_right _ (List.mem_append_right _ (List.mem_append_right _ (List.mem_append_right _ (List.mem_append_right _ (List.mem_append_right _ (List.mem_append_right _ (List.mem_append_right _ (List.mem_append_right _ (List.mem_append_right _ (List.mem_append_right _ (List.mem_append_right _ (List.mem_append_right _ (List.mem_append_right _ (List.mem_append_right _ (List.mem_append_right _ (List.mem_append_right _ (List.mem_append_right _ (List.mem_append_right _ (List.mem_append_right _ (List.mem_append_right _ (List.mem_append_right _ (List.mem_append_right _ (List.mem_append_right _ (List.mem_append_right _ (List.mem_append_right _ (List.mem_append_right _ (List.mem_append_left _ h)))))))))))))))))))))))))))))))))))))))))))))))))))
theorem gw_37 : wsL_law_r37.all goodWord = true := by decide +kernel
theorem sg_38 : ∀ w ∈ wsL_law_r38, w ∈ wsL_law := fun _ h => (List.mem_append_left _ (List.mem_append_left _ (List.mem_append_left _ (List.mem_append_left _ (List.mem_append_left _ (List.mem_append_left _ (List.mem_append_left _ (List.mem_append_left _ (List.mem_append_left _ (List.mem_append_left _ (List.mem_append_left _ (List.mem_append_left _ (List.mem_append_left _ (List.mem_append_left _ (List.mem_append_right _ (List.mem_append_right _ (List.mem_append_right _ (List.mem_append_right _ (List.mem_append_right _ (List.mem_append_right _ (List.mem_append_right _ (List.mem_append_right _ (List.mem_append_right _ (List.mem_append_right _ (List.mem_append_right _ (List.mem_append_right _ (List.mem_append_right _ (List.mem_append_right _ (List.mem_append_right _ (List.mem_append_right _ (List.mem_append_right _ (List.mem_append_right _ (List.mem_append_right _ (List.mem_append_right _ (List.mem_append_right _ (List.mem_append_right _ (List.mem_append_right _ (List.mem_append_right _ (List.mem_append_right _ (List.mem_append_right _ (List.mem_append_right _ (List.mem_append_right _ (List.mem_append_right _ (List.mem_append_right _ (List.mem_append_right _ (List.mem_append_right _ (List.mem_append_right _ (List.mem_append_right _ (List.mem_append_right _ (List.mem_append_right _ (List.mem_append_right _ (List.mem_append_left _ h))))))))))))))))))))))))))))))))))))))))))))))))))))
theorem gw_38 : wsL_law_r38.all goodWord = true := by decide +kernel
theorem sg_39 : ∀ w ∈ wsL_law_r39, w ∈ wsL_law := fun _ h => (List.mem_append_left _ (List.mem_append_left _ (List.mem_append_left _ (List.mem_append_left _ (List.mem_append_left _ (List.mem_append_left _ (List.mem_append_left _ (List.mem_append_left _ (List.mem_append_left _ (List.mem_append_left _ (List.mem_append_left _ (List.mem_append_left _ (List.mem_append_left _ (List.mem_append_left _ (List.mem_append_right _ (List.mem_append_right _ (List.mem_append_right _ (List.mem_append_right _ (List.mem_append_right _ (List.mem_append_right _ (List.mem_append_right _ (List.mem_append_right _ (List.mem_append_right _ (List.mem_append_right _ (List.mem_append_right _ (List.mem_append_right _ (List.mem_append_right _ (List.mem_append_right _ (List.mem_append_right _ (List.mem_append_right _ (List.mem_append_right _ (List.mem_append_right _ (List.mem_append_right _ (List.mem_append_right _ (List.mem_append_right _ (List.mem_append_right _ (List.mem_append_right _ (List.mem_append_right _ (List.mem_append_right _ (List.mem_append_right _ (List.mem_append_right _ (List.mem_append_right _ (List.mem_append_right _ (List.mem_append_right _ (List.mem_append_right _ (List.mem_append_right _ (List.mem_append_right _ (List.mem_append_right _ (List.mem_append_right _ (List.mem_append_right _ (List.mem_append_right _ (List.mem_append_right _ (List.mem_append_left _ h)))))))))))))))))))))))))))))))))))))))))))))))))))))
theorem gw_39 : wsL_law_r39.all goodWord = true := by decide +kernel
theorem sg_40 : ∀ w ∈ wsL_law_r40, w ∈ wsL_law := fun _ h => (List.mem_append_left _ (List.mem_append_left _ (List.mem_append_left _ (List.mem_append_left _ (List.mem_append_left _ (List.mem_append_left _ (List.mem_append_left _ (List.mem_append_left _ (List.mem_append_left _ (List.mem_append_left _ (List.mem_append_left _ (List.mem_append_left _ (List.mem_append_left _ (List.mem_append_left _ (List.mem_append_right _ (List.mem_append_right _ (List.mem_append_right _ (List.mem_append_right _ (List.mem_append_right _ (List.mem_append_right _ (List.mem_append_right _ (List.mem_append_right _ (List.mem_append_right _ (List.mem_append_right _ (List.mem_append_right _ (List.mem_append_right _ (List.mem_append_right _ (List.mem_append_right _ (List.mem_append_right _ (List.mem_append_right _ (List.mem_append_right _ (List.mem_append_right _ (List.mem_append_right _ (List.mem_append_right _ (List.mem_append_right _ (List.mem_append_right _ (List.mem_append_right _ (List.mem_append_right _ (List.mem_append_right _ (List.mem_append_right _ (List.mem_append_right _ (List.mem_append_right _ (List.mem_append_right _ (List.mem_append_right _ (List.mem_append_right _ (List.mem_append_right _ (List.mem_append_right _ (List.mem_append_right _ (List.mem_append_right _ (List.mem_append_right _ (List.mem_append_right _ (List.mem_append_right _ (List.mem_append_right _ (List.mem_append_left _ h))))))))))))))))))))))))))))))))))))))))))))))))))))))
theorem gw_40 : wsL_law_r40.all goodWord = true := by decide +kernel
theorem sg_41 : ∀ w ∈ wsL_law_r41, w ∈ wsL_law := fun _ h => (List.mem_append_left _ (List.mem_append_left _ (List.mem_append_left _ (List.mem_append_left _ (List.mem_append_left _ (List.mem_append_left _ (List.mem_append_left _ (List.mem_append_left _ (List.mem_append_left _ (List.mem_append_left _ (List.mem_append_left _ (List.mem_append_left _ (List.mem_append_left _ (List.mem_append_left _ (List.mem_append_right _ (List.mem_append_right _ (List.mem_append_right _ (List.mem_append_right _ (List.mem_append_right _ (List.mem_append_right _ (List.mem_append_right _ (List.mem_append_right _ (List.mem_append_right _ (List.mem_append_right _ (List.mem_append_right _ (List.mem_append_right _ (List.mem_append_right _ (List.mem_append_right _ (List.mem_append_right _ (List.mem_append_right _ (List.mem_append_right _ (List.mem_append_right _ (List.mem_append_right _ (List.mem_append_right _ (List.mem_append_right _ (List.mem_append_right _ (List.mem_append_right _ (List.mem_append_right _ (List.mem_append_right _ (List.mem_append_right _ (List.mem_append_right _ (List.mem_append_right _ (List.mem_append_right _ (List.mem_append_right _ (List.mem_append_right _ (List.mem_append_right _ (List.mem_append_right _ (List.mem_append_right _ (List.mem_append_right _ (List.mem_append_right _ (List.mem_append_right _ (List.mem_append_right _ (List.mem_append_right _ (List.mem_append_right _ (List.mem_append_left _ h)))))))))))))))))))))))))))))))))))))))))))))))))))))))
theorem gw_41 : wsL_law_r41.all goodWord = true := by decide +kernel
theorem sg_42 : ∀ w ∈ wsL_law_r42, w ∈ wsL_law := fun _ h => (List.mem_append_left _ (List.mem_append_left _ (List.mem_append_left _ (List.mem_append_left _ (List.mem_append_left _ (List.mem_append_left _ (List.mem_append_left _ (List.mem_append_left _ (List.mem_append_left _ (List.mem_append_left _ (List.mem_append_left _ (List.mem_append_left _ (List.mem_append_left _ (List.mem_append_left _ (List.mem_append_right _ (List.mem_append_right _ (List.mem_append_right _ (List.mem_append_right _ (List.mem_append_right _ (List.mem_append_right _ (List.mem_append_right _ (List.mem_append_right _ (List.mem_append_right _ (List.mem_append_right _ (List.mem_append_right _ (List.mem_append_right _ (List.mem_append_right _ (List.mem_append_right _ (List.mem_append_right _ (List.mem_append_right _ (List.mem_append_right _ (List.mem_append_right _ (List.mem_append_right _ (List.mem_append_right _ (List.mem_append_right _ (List.mem_append_right _ (List.mem_append_right _ (List.mem_append_right _ (List.mem_append_right _ (List.mem_append_right _ (List.mem_append_right _ (List.mem_append_right _ (List.mem_append_right _ (List.mem_append_right _ (List.mem_append_right _ (List.mem_append_right _ (List.mem_append_right _ (List.mem_append_right _ (List.mem_append_right _ (List.mem_append_right _ (List.mem_append_right _ (List.mem_append_right _ (List.mem_append_right _ (List.mem_append_right _ (List.mem_append_right _ (List.mem_append_left _ h))))))))))))))))))))))))))))))))))))))))))))))))))))))))
theorem gw_42 : wsL_law_r42.all goodWord = true := by decide +kernel
theorem sg_43 : ∀ w ∈ wsL_law_r43, w ∈ wsL_law := fun _ h => (List.mem_append_left _ (List.mem_append_left _ (List.mem_append_left _ (List.mem_append_left _ (List.mem_append_left _ (List.mem_append_left _ (List.mem_append_left _ (List.mem_append_left _ (List.mem_append_left _ (List.mem_append_left _ (List.mem_append_left _ (List.mem_append_left _ (List.mem_append_left _ (List.mem_append_left _ (List.mem_append_right _ (List.mem_append_right _ (List.mem_append_right _ (List.mem_append_right _ (List.mem_append_right _ (List.mem_append_right _ (List.mem_append_right _ (List.mem_append_right _ (List.mem_append_right _ (List.mem_append_right _ (List.mem_append_right _ (List.mem_append_right _ (List.mem_append_right _ (List.mem_append_right _ (List.mem_append_right _ (List.mem_append_right _ (List.mem_append_right _ (List.mem_append_right _ (List.mem_append_right _ (List.mem_append_right _ (List.mem_append_right _ (List.mem_append_right _ (List.mem_append_right _ (List.mem_append_right _ (List.mem_append_right _ (List.mem_append_right _ (List.mem_append_right _ (List.mem_append_right _ (List.mem_append_right _ (List.mem_append_right _ (List.mem_append_right _ (List.mem_append_right _ (List.mem_append_right _ (List.mem_append_right _ (List.mem_append_right _ (List.mem_append_right _ (List.mem_append_right _ (List.mem_append_right _ (List.mem_append_right _ (List.mem_append_right _ (List.mem_append_right _ (List.mem_append_right _ (List.mem_append_left _ h)))))))))))))))))))))))))))))))))))))))))))))))))))))))))
theorem gw_43 : wsL_law_r43.all goodWord = true := by decide +kernel
theorem sg_44 : ∀ w ∈ wsL_law_r44, w ∈ wsL_law := fun _ h => (List.mem_append_left _ (List.mem_append_left _ (List.mem_append_left _ (List.mem_append_left _ (List.mem_append_left _ (List.mem_append_left _ (List.mem_append_left _ (List.mem_append_left _ (List.mem_append_left _ (List.mem_append_left _ (List.mem_append_left _ (List.mem_append_left _ (List.mem_append_left _ (List.mem_append_left _ (List.mem_append_right _ (List.mem_append_right _ (List.mem_append_right _ (List.mem_append_right _ (List.mem_append_right _ (List.mem_append_right _ (List.mem_append_right _ (List.mem_append_right _ (List.mem_append_right _ (List.mem_append_right _ (List.mem_append_right _ (List.mem_append_right _ (List.mem_append_right _ (List.mem_append_right _ (List.mem_append_right _ (List.mem_append_right _ (List.mem_append_right _ (List.mem_append_right _ (List.mem_append_right _ (List.mem_append_right _ (List.mem_append_right _ (List.mem_append_right _ (List.mem_append_right _ (List.mem_append_right _ (List.mem_append_right _ (List.mem_append_right _ (List.mem_append_right _ (List.mem_append_right _ (List.mem_append_right _ (List.mem_append_right _ (List.mem_append_right _ (List.mem_append_right _ (List.mem_append_right _ (List.mem_append_right _ (List.mem_append_right _ (List.mem_append_right _ (List.mem_append_right _ (List.mem_append_right _ (List.mem_append_right _ (List.mem_append_right _ (List.mem_append_right _ (List.mem_append_right _ (List.mem_append_right _ h)))))))))))))))))))))))))))))))))))))))))))))))))))))))))
theorem gw_44 : wsL_law_r44.all goodWord = true := by decide +kernel
theorem gw_wsX110 : List.all wsX110 goodWord = true := by decide +kernel
theorem gw_wsX120 : List.all wsX120 goodWord = true := by decide +kernel
theorem gw_wsX90 : List.all wsX90 goodWord = true := by decide +kernel
theorem gw_wsX50 : List.all wsX50 goodWord = true := by decide +kernel
theorem gw_wsX70 : List.all wsX70 goodWord = true := by decide +kernel
theorem gw_wsX10 : List.all wsX10 goodWord = true := by decide +kernel
theorem gw_wsX80 : List.all wsX80 goodWord = true := by decide +kernel
theorem gw_wsX100 : List.all wsX100 goodWord = true := by decide +kernel
theorem gw_wsX40 : List.all wsX40 goodWord = true := by decide +kernel
theorem gw_wsX30 : List.all wsX30 goodWord = true := by decide +kernel
theorem gw_wsX60 : List.all wsX60 goodWord = true := by decide +kernel
theorem gw_wsX00 : List.all wsX00 goodWord = true := by decide +kernel
theorem gw_wsX20 : List.all wsX20 goodWord = true := by decide +kernel
theorem goodApp {a b : List Cond} (ha : ∀ w ∈ a, goodWord w = true) (hb : ∀ w ∈ b, goodWord w = true) : ∀ w ∈ a ++ b, goodWord w = true := fun w h => (List.mem_append.mp h).elim (ha w) (hb w)
theorem goodAll {a : List Cond} (h : a.all goodWord = true) : ∀ w ∈ a, goodWord w = true := fun w hw => List.all_eq_true.mp h w hw
theorem gwL : ∀ w ∈ wsL_law, goodWord w = true := (goodApp (goodApp (goodApp (goodApp (goodApp (goodApp (goodApp (goodApp (goodApp (goodApp (goodApp (goodApp (goodApp (goodApp (goodApp (goodAll gw_1) (goodApp (goodAll gw_2) (goodApp (goodAll gw_3) (goodApp (goodAll gw_4) (goodApp (goodAll gw_5) (goodApp (goodAll gw_6) (goodApp (goodAll gw_7) (goodApp (goodAll gw_8) (goodApp (goodAll gw_9) (goodApp (goodAll gw_10) (goodApp (goodAll gw_11) (goodApp (goodAll gw_12) (goodApp (goodAll gw_13) (goodApp (goodAll gw_14) (goodApp (goodAll gw_15) (goodApp (goodAll gw_16) (goodApp (goodAll gw_17) (goodApp (goodAll gw_18) (goodApp (goodAll gw_19) (goodApp (goodAll gw_20) (goodApp (goodAll gw_21) (goodApp (goodAll gw_22) (goodApp (goodAll gw_23) (goodApp (goodAll gw_24) (goodApp (goodAll gw_25) (goodApp (goodAll gw_26) (goodApp (goodAll gw_27) (goodApp (goodAll gw_28) (goodApp (goodAll gw_29) (goodApp (goodAll gw_30) (goodApp (goodAll gw_31) (goodApp (goodAll gw_32) (goodApp (goodAll gw_33) (goodApp (goodAll gw_34) (goodApp (goodAll gw_35) (goodApp (goodAll gw_36) (goodApp (goodAll gw_37) (goodApp (goodAll gw_38) (goodApp (goodAll gw_39) (goodApp (goodAll gw_40) (goodApp (goodAll gw_41) (goodApp (goodAll gw_42) (goodApp (goodAll gw_43) (goodAll gw_44)))))))))))))))))))))))))))))))))))))))))))) (goodAll gw_wsX110)) (goodAll gw_wsX120)) (goodAll gw_wsX90)) (goodAll gw_wsX50)) (goodAll gw_wsX70)) (goodAll gw_wsX10)) (goodAll gw_wsX80)) (goodAll gw_wsX100)) (goodAll gw_wsX40)) (goodAll gw_wsX30)) (goodAll gw_wsX60)) (goodAll gw_wsX00)) (goodAll gw_wsX20)) (fun _ h => by cases h))
theorem gIn {c : Cond} {ws : List Cond} (h : ∀ w ∈ ws, w ∈ wsL_law) : GoodIn (c :: wsL_law) ws := fun w hw => ⟨List.mem_cons_of_mem _ (h w hw), good_of_word (gwL w (h w hw))⟩
theorem gCode {c y : Cond} (h : y ∈ wsL_law) : GoodIn (c :: wsL_law) (y :: wsL_law) := gIn (fun w hw => (List.mem_cons.mp hw).elim (fun e => by rw [e]; exact h) id)
theorem gV {c : Cond} {own C : String} {idx maxL : Nat} {y : MethodName} {bytes : ByteArray} {ret : Option FieldType} (h1 : Cond.methodLink own idx y ∈ wsL_law) (h2 : Cond.instanceMethod y ∈ wsL_law) (h3 : Cond.selects C y y ∈ wsL_law) (h4 : Cond.initialized C ∈ wsL_law) (h5 : Cond.code y bytes maxL ret ∈ wsL_law) : GoodIn (c :: wsL_law) (wsV own idx C y (Cond.code y bytes maxL ret :: wsL_law)) := gIn (fun w hw => by
  rcases List.mem_append.mp hw with h | h
  · simp only [List.mem_cons, List.not_mem_nil, or_false] at h
    rcases h with rfl | rfl | rfl | rfl <;> assumption
  · exact (List.mem_cons.mp h).elim (fun e => by rw [e]; exact h5) id)
theorem gS {c : Cond} {own : String} {idx maxL : Nat} {y : MethodName} {bytes : ByteArray} {ret : Option FieldType} (h1 : Cond.methodLink own idx y ∈ wsL_law) (h2 : Cond.static y ∈ wsL_law) (h4 : Cond.initialized own ∈ wsL_law) (h5 : Cond.code y bytes maxL ret ∈ wsL_law) : GoodIn (c :: wsL_law) (wsS own idx y (Cond.code y bytes maxL ret :: wsL_law)) := gIn (fun w hw => by
  rcases List.mem_append.mp hw with h | h
  · simp only [List.mem_cons, List.not_mem_nil, or_false] at h
    rcases h with rfl | rfl | rfl <;> assumption
  · exact (List.mem_cons.mp h).elim (fun e => by rw [e]; exact h5) id)
theorem gSO {c : Cond} {own : String} {idx maxL : Nat} {y : MethodName} {bytes : ByteArray} {ret : Option FieldType} (h1 : Cond.methodLink own idx y ∈ wsL_law) (h2 : Cond.static y ∈ wsL_law) (h4 : Cond.initialized y.cls ∈ wsL_law) (h5 : Cond.code y bytes maxL ret ∈ wsL_law) : GoodIn (c :: wsL_law) (va_wsS own idx y (Cond.code y bytes maxL ret :: wsL_law)) := gIn (fun w hw => by
  rcases List.mem_append.mp hw with h | h
  · simp only [List.mem_cons, List.not_mem_nil, or_false] at h
    rcases h with rfl | rfl | rfl <;> assumption
  · exact (List.mem_cons.mp h).elim (fun e => by rw [e]; exact h5) id)
theorem iwX11 {c : Cond} : ∀ w ∈ wsX110, w ∈ c :: wsL_law := fun w h => List.mem_cons_of_mem _ (inlX11 w h)
theorem iwX12 {c : Cond} : ∀ w ∈ wsX120, w ∈ c :: wsL_law := fun w h => List.mem_cons_of_mem _ (inlX12 w h)
theorem iwX9 {c : Cond} : ∀ w ∈ wsX90, w ∈ c :: wsL_law := fun w h => List.mem_cons_of_mem _ (inlX9 w h)
theorem iwX5 {c : Cond} : ∀ w ∈ wsX50, w ∈ c :: wsL_law := fun w h => List.mem_cons_of_mem _ (inlX5 w h)
theorem iwX7 {c : Cond} : ∀ w ∈ wsX70, w ∈ c :: wsL_law := fun w h => List.mem_cons_of_mem _ (inlX7 w h)
theorem iwX1 {c : Cond} : ∀ w ∈ wsX10, w ∈ c :: wsL_law := fun w h => List.mem_cons_of_mem _ (inlX1 w h)
theorem iwX8 {c : Cond} : ∀ w ∈ wsX80, w ∈ c :: wsL_law := fun w h => List.mem_cons_of_mem _ (inlX8 w h)
theorem iwX10 {c : Cond} : ∀ w ∈ wsX100, w ∈ c :: wsL_law := fun w h => List.mem_cons_of_mem _ (inlX10 w h)
theorem iwX4 {c : Cond} : ∀ w ∈ wsX40, w ∈ c :: wsL_law := fun w h => List.mem_cons_of_mem _ (inlX4 w h)
theorem iwX3 {c : Cond} : ∀ w ∈ wsX30, w ∈ c :: wsL_law := fun w h => List.mem_cons_of_mem _ (inlX3 w h)
theorem iwX6 {c : Cond} : ∀ w ∈ wsX60, w ∈ c :: wsL_law := fun w h => List.mem_cons_of_mem _ (inlX6 w h)
theorem iwX0 {c : Cond} : ∀ w ∈ wsX00, w ∈ c :: wsL_law := fun w h => List.mem_cons_of_mem _ (inlX0 w h)
theorem iwX2 {c : Cond} : ∀ w ∈ wsX20, w ∈ c :: wsL_law := fun w h => List.mem_cons_of_mem _ (inlX2 w h)
