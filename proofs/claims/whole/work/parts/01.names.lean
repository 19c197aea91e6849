/-! ===== BEGIN words of one list among another's, by their places ===== -/
theorem goodIn_r {big : List Cond} (ws : List Cond) (ps : List Nat) (hp : ws = ps.filterMap (fun i => big[i]?)) (h : ws.all goodWord = true) : GoodIn big ws := by
  intro w hw
  have h1 := List.all_eq_true.mp h w hw
  rw [hp] at hw
  obtain ⟨i, -, hi⟩ := List.mem_filterMap.mp hw
  have hm : w ∈ big := by first | exact List.mem_of_getElem? hi | exact List.getElem?_mem hi
  exact ⟨hm, good_of_word h1⟩
theorem goodIn_app {big a b : List Cond} (ha : GoodIn big a) (hb : GoodIn big b) : GoodIn big (a ++ b) := fun w h => (List.mem_append.mp h).elim (ha w) (hb w)
theorem goodIn_ca {big a b : List Cond} {c : Cond} (ha : GoodIn big (c :: a)) (hb : GoodIn big b) : GoodIn big (c :: (a ++ b)) := fun w h => (List.mem_cons.mp h).elim (fun e => ha w (List.mem_cons.mpr (Or.inl e))) (fun h => (List.mem_append.mp h).elim (fun h => ha w (List.mem_cons.mpr (Or.inr h))) (hb w))
theorem goodIn_sub {big ws : List Cond} (hm : ∀ w ∈ ws, w ∈ big) (h : ws.all goodWord = true) : GoodIn big ws := fun w hw => ⟨hm w hw, good_of_word (List.all_eq_true.mp h w hw)⟩
/-! ===== END ===== -/

/-! ===== BEGIN printed: names, fields, word lists, decode rows ===== -/
def RX0 : String := "GateHalls$Hall"
def TX0 : u_T := fun k => match k with
  | 0 => ("GateHalls$Hall", "number", "I", true)
  | 1 => ("GateHalls$Hall", "kind", "I", true)
  | 2 => ("GateHalls$Hall", "fee", "I", true)
  | 3 => ("GateHalls$Hall", "gifts", "I", false)
  | 4 => ("GateHalls$Hall", "passes", "I", false)
  | 5 => ("GateHalls$Hall", "asks", "I", false)
  | 6 => ("GateHalls$Hall", "paid", "I", false)
  | 7 => ("GateHalls$Hall", "inside", "I", false)
  | _ => ("GateHalls$Hall", "most", "I", false)
def tyX0 : Nat → FieldType := fun k => match k with
  | 0 => .int
  | 1 => .int
  | 2 => .int
  | 3 => .int
  | 4 => .int
  | 5 => .int
  | 6 => .int
  | 7 => .int
  | _ => .int
abbrev wsX00 : List Cond := u_ws RX0 TX0 9
theorem nmX0 : ∀ a, a < 9 → ∀ b, b < 9 → a ≠ b → (TX0 a).2.1 ≠ (TX0 b).2.1 := by decide +kernel
theorem tyX0_ok : ∀ k, k < 9 → parseFieldDescriptor (TX0 k).2.2.1 = some (tyX0 k) := by decide +kernel
abbrev cX0_init : ByteArray := prog_2_method_1_code
def yX0_init : MethodName := ⟨RX0, "<init>", "(III)V"⟩
abbrev cX0_enter : ByteArray := prog_2_method_2_code
def yX0_enter : MethodName := ⟨RX0, "enter", "()V"⟩
abbrev cX0_guardIsInTheWay : ByteArray := prog_2_method_3_code
def yX0_guardIsInTheWay : MethodName := ⟨RX0, "guardIsInTheWay", "()Z"⟩
abbrev cX0_charge : ByteArray := prog_2_method_4_code
def yX0_charge : MethodName := ⟨RX0, "charge", "()I"⟩
abbrev cX0_mark : ByteArray := prog_2_method_5_code
def yX0_mark : MethodName := ⟨RX0, "mark", "()I"⟩
abbrev cX0_fact : ByteArray := prog_2_method_6_code
def yX0_fact : MethodName := ⟨RX0, "fact", "(I)I"⟩
def RX1 : String := "GateHalls"
def TX1 : u_T := fun k => match k with
  | 0 => ("GateHalls", "halls", "[LGateHalls$Hall;", true)
  | 1 => ("GateHalls", "parents", "[I", true)
  | 2 => ("GateHalls", "purse", "I", false)
  | 3 => ("GateHalls", "hallsMade", "I", false)
  | 4 => ("GateHalls", "path", "[I", true)
  | 5 => ("GateHalls", "passed", "[LGateHalls$Hall;", true)
  | 6 => ("GateHalls", "depth", "I", false)
  | 7 => ("GateHalls", "deepest", "I", false)
  | 8 => ("GateHalls", "marks", "[I", true)
  | 9 => ("GateHalls", "marksLeft", "I", false)
  | 10 => ("GateHalls", "latestFailure", "I", false)
  | _ => ("GateHalls", "walksBegun", "I", false)
def tyX1 : Nat → FieldType := fun k => match k with
  | 0 => .array (.object "GateHalls$Hall")
  | 1 => .array .int
  | 2 => .int
  | 3 => .int
  | 4 => .array .int
  | 5 => .array (.object "GateHalls$Hall")
  | 6 => .int
  | 7 => .int
  | 8 => .array .int
  | 9 => .int
  | 10 => .int
  | _ => .int
abbrev wsX10 : List Cond := u_ws RX1 TX1 12
theorem nmX1 : ∀ a, a < 12 → ∀ b, b < 12 → a ≠ b → (TX1 a).2.1 ≠ (TX1 b).2.1 := by decide +kernel
theorem tyX1_ok : ∀ k, k < 12 → parseFieldDescriptor (TX1 k).2.2.1 = some (tyX1 k) := by decide +kernel
abbrev cX1_init : ByteArray := prog_1_method_1_code
def yX1_init : MethodName := ⟨RX1, "<init>", "()V"⟩
abbrev cX1_hall : ByteArray := prog_1_method_2_code
def yX1_hall : MethodName := ⟨RX1, "hall", "(III)I"⟩
abbrev cX1_share : ByteArray := prog_1_method_3_code
def yX1_share : MethodName := ⟨RX1, "share", "(II)I"⟩
abbrev cX1_parent : ByteArray := prog_1_method_4_code
def yX1_parent : MethodName := ⟨RX1, "parent", "(II)I"⟩
abbrev cX1_fill : ByteArray := prog_1_method_5_code
def yX1_fill : MethodName := ⟨RX1, "fill", "(I)I"⟩
abbrev cX1_walk : ByteArray := prog_1_method_6_code
def yX1_walk : MethodName := ⟨RX1, "walk", "(III)I"⟩
abbrev cX1_seek : ByteArray := prog_1_method_7_code
def yX1_seek : MethodName := ⟨RX1, "seek", "(J)I"⟩
abbrev cX1_told : ByteArray := prog_1_method_8_code
def yX1_told : MethodName := ⟨RX1, "told", "(II)I"⟩
abbrev cX1_gifts : ByteArray := prog_1_method_9_code
def yX1_gifts : MethodName := ⟨RX1, "gifts", "(I)I"⟩
abbrev cX1_trace : ByteArray := prog_1_method_10_code
def yX1_trace : MethodName := ⟨RX1, "trace", "(I)I"⟩
abbrev cX1_count : ByteArray := prog_1_method_11_code
def yX1_count : MethodName := ⟨RX1, "count", "(I)I"⟩
abbrev cX1_isPlace : ByteArray := prog_1_method_12_code
def yX1_isPlace : MethodName := ⟨RX1, "isPlace", "(I)Z"⟩
abbrev cX1_hallAt : ByteArray := prog_1_method_13_code
def yX1_hallAt : MethodName := ⟨RX1, "hallAt", "(I)LGateHalls$Hall;"⟩
abbrev cX1_placesWithHall : ByteArray := prog_1_method_14_code
def yX1_placesWithHall : MethodName := ⟨RX1, "placesWithHall", "()I"⟩
abbrev cX1_seekPartner : ByteArray := prog_1_method_15_code
def yX1_seekPartner : MethodName := ⟨RX1, "seekPartner", "(ILGateHalls$Hall;J)I"⟩
abbrev cX1_walkTo : ByteArray := prog_1_method_16_code
def yX1_walkTo : MethodName := ⟨RX1, "walkTo", "(IIII)I"⟩
abbrev cX1_findPath : ByteArray := prog_1_method_17_code
def yX1_findPath : MethodName := ⟨RX1, "findPath", "(I)I"⟩
abbrev cX1_passPath : ByteArray := prog_1_method_18_code
def yX1_passPath : MethodName := ⟨RX1, "passPath", "(I)I"⟩
abbrev cX1_passInto : ByteArray := prog_1_method_19_code
def yX1_passInto : MethodName := ⟨RX1, "passInto", "(LGateHalls$Hall;)I"⟩
abbrev cX1_leaveUntil : ByteArray := prog_1_method_20_code
def yX1_leaveUntil : MethodName := ⟨RX1, "leaveUntil", "(I)V"⟩
abbrev cX1_leaveMark : ByteArray := prog_1_method_21_code
def yX1_leaveMark : MethodName := ⟨RX1, "leaveMark", "(I)V"⟩
abbrev cX1_innermost : ByteArray := prog_1_method_22_code
def yX1_innermost : MethodName := ⟨RX1, "innermost", "()LGateHalls$Hall;"⟩
abbrev cX1_doDeed : ByteArray := prog_1_method_23_code
def yX1_doDeed : MethodName := ⟨RX1, "doDeed", "(III)I"⟩
abbrev cX1_takeGifts : ByteArray := prog_1_method_24_code
def yX1_takeGifts : MethodName := ⟨RX1, "takeGifts", "(LGateHalls$Hall;)I"⟩
abbrev cX1_addToPurse : ByteArray := prog_1_method_25_code
def yX1_addToPurse : MethodName := ⟨RX1, "addToPurse", "(I)I"⟩
abbrev cX1_divideGifts : ByteArray := prog_1_method_26_code
def yX1_divideGifts : MethodName := ⟨RX1, "divideGifts", "(LGateHalls$Hall;I)I"⟩
abbrev cX1_walkOn : ByteArray := prog_1_method_27_code
def yX1_walkOn : MethodName := ⟨RX1, "walkOn", "(II)I"⟩
def RX2 : String := "GateHallsModel"
def TX2 : u_T := fun k => match k with
  | 0 => ("GateHallsModel", "halls", "I", false)
  | 1 => ("GateHallsModel", "kinds", "[I", true)
  | 2 => ("GateHallsModel", "fees", "[I", true)
  | 3 => ("GateHallsModel", "gifts", "[I", true)
  | 4 => ("GateHallsModel", "passes", "[I", true)
  | 5 => ("GateHallsModel", "asks", "[I", true)
  | 6 => ("GateHallsModel", "paid", "[I", true)
  | 7 => ("GateHallsModel", "inside", "[I", true)
  | 8 => ("GateHallsModel", "mosts", "[I", true)
  | 9 => ("GateHallsModel", "places", "[I", true)
  | 10 => ("GateHallsModel", "parents", "[I", true)
  | 11 => ("GateHallsModel", "purse", "I", false)
  | 12 => ("GateHallsModel", "traces", "I", false)
  | 13 => ("GateHallsModel", "traced", "[I", true)
  | 14 => ("GateHallsModel", "failure", "I", false)
  | 15 => ("GateHallsModel", "walks", "I", false)
  | 16 => ("GateHallsModel", "deepest", "I", false)
  | 17 => ("GateHallsModel", "within", "I", false)
  | 18 => ("GateHallsModel", "row", "[I", true)
  | _ => ("GateHallsModel", "path", "[I", true)
def tyX2 : Nat → FieldType := fun k => match k with
  | 0 => .int
  | 1 => .array .int
  | 2 => .array .int
  | 3 => .array .int
  | 4 => .array .int
  | 5 => .array .int
  | 6 => .array .int
  | 7 => .array .int
  | 8 => .array .int
  | 9 => .array .int
  | 10 => .array .int
  | 11 => .int
  | 12 => .int
  | 13 => .array .int
  | 14 => .int
  | 15 => .int
  | 16 => .int
  | 17 => .int
  | 18 => .array .int
  | _ => .array .int
abbrev wsX20 : List Cond := u_ws RX2 TX2 20
theorem nmX2 : ∀ a, a < 20 → ∀ b, b < 20 → a ≠ b → (TX2 a).2.1 ≠ (TX2 b).2.1 := by decide +kernel
theorem tyX2_ok : ∀ k, k < 20 → parseFieldDescriptor (TX2 k).2.2.1 = some (tyX2 k) := by decide +kernel
abbrev cX2_init : ByteArray := prog_4_method_1_code
def yX2_init : MethodName := ⟨RX2, "<init>", "()V"⟩
abbrev cX2_in : ByteArray := prog_4_method_2_code
def yX2_in : MethodName := ⟨RX2, "in", "(III)Z"⟩
abbrev cX2_ten : ByteArray := prog_4_method_3_code
def yX2_ten : MethodName := ⟨RX2, "ten", "(I)I"⟩
abbrev cX2_hall : ByteArray := prog_4_method_4_code
def yX2_hall : MethodName := ⟨RX2, "hall", "(III)I"⟩
abbrev cX2_share : ByteArray := prog_4_method_5_code
def yX2_share : MethodName := ⟨RX2, "share", "(II)I"⟩
abbrev cX2_parent : ByteArray := prog_4_method_6_code
def yX2_parent : MethodName := ⟨RX2, "parent", "(II)I"⟩
abbrev cX2_fill : ByteArray := prog_4_method_7_code
def yX2_fill : MethodName := ⟨RX2, "fill", "(I)I"⟩
abbrev cX2_leave : ByteArray := prog_4_method_8_code
def yX2_leave : MethodName := ⟨RX2, "leave", "(I)V"⟩
abbrev cX2_charge : ByteArray := prog_4_method_9_code
def yX2_charge : MethodName := ⟨RX2, "charge", "(I)I"⟩
abbrev cX2_pass : ByteArray := prog_4_method_10_code
def yX2_pass : MethodName := ⟨RX2, "pass", "(I)I"⟩
abbrev cX2_leaveTo : ByteArray := prog_4_method_11_code
def yX2_leaveTo : MethodName := ⟨RX2, "leaveTo", "(I)V"⟩
abbrev cX2_goTo : ByteArray := prog_4_method_12_code
def yX2_goTo : MethodName := ⟨RX2, "goTo", "(I)I"⟩
abbrev cX2_rich : ByteArray := prog_4_method_13_code
def yX2_rich : MethodName := ⟨RX2, "rich", "(J)I"⟩
abbrev cX2_goesOn : ByteArray := prog_4_method_14_code
def yX2_goesOn : MethodName := ⟨RX2, "goesOn", "(I)I"⟩
abbrev cX2_does : ByteArray := prog_4_method_15_code
def yX2_does : MethodName := ⟨RX2, "does", "(II)I"⟩
abbrev cX2_walk : ByteArray := prog_4_method_16_code
def yX2_walk : MethodName := ⟨RX2, "walk", "(III)I"⟩
abbrev cX2_seek : ByteArray := prog_4_method_17_code
def yX2_seek : MethodName := ⟨RX2, "seek", "(J)I"⟩
abbrev cX2_told : ByteArray := prog_4_method_18_code
def yX2_told : MethodName := ⟨RX2, "told", "(II)I"⟩
abbrev cX2_gifts : ByteArray := prog_4_method_19_code
def yX2_gifts : MethodName := ⟨RX2, "gifts", "(I)I"⟩
abbrev cX2_trace : ByteArray := prog_4_method_20_code
def yX2_trace : MethodName := ⟨RX2, "trace", "(I)I"⟩
abbrev cX2_count : ByteArray := prog_4_method_21_code
def yX2_count : MethodName := ⟨RX2, "count", "(I)I"⟩
def RJ9 : String := "java/lang/Math"
def TJ9 : u_T := fun k => match k with
  | _ => ("", "", "", false)
def tyJ9 : Nat → FieldType := fun k => match k with
  | _ => .int
abbrev wsJ90 : List Cond := u_ws RJ9 TJ9 0
theorem nmJ9 : ∀ a, a < 0 → ∀ b, b < 0 → a ≠ b → (TJ9 a).2.1 ≠ (TJ9 b).2.1 := by decide +kernel
theorem tyJ9_ok : ∀ k, k < 0 → parseFieldDescriptor (TJ9 k).2.2.1 = some (tyJ9 k) := by decide +kernel
abbrev cJ9_floorMod_7cf53 : ByteArray := prog_5_method_50_code
def yJ9_floorMod_7cf53 : MethodName := ⟨RJ9, "floorMod", "(II)I"⟩
abbrev cJ9_max_7cf53 : ByteArray := prog_5_method_65_code
def yJ9_max_7cf53 : MethodName := ⟨RJ9, "max", "(II)I"⟩
abbrev cJ9_min_7cf53 : ByteArray := prog_5_method_69_code
def yJ9_min_7cf53 : MethodName := ⟨RJ9, "min", "(II)I"⟩
def RJ7 : String := "java/util/Arrays"
def TJ7 : u_T := fun k => match k with
  | _ => ("", "", "", false)
def tyJ7 : Nat → FieldType := fun k => match k with
  | _ => .int
abbrev wsJ70 : List Cond := u_ws RJ7 TJ7 0
theorem nmJ7 : ∀ a, a < 0 → ∀ b, b < 0 → a ≠ b → (TJ7 a).2.1 ≠ (TJ7 b).2.1 := by decide +kernel
theorem tyJ7_ok : ∀ k, k < 0 → parseFieldDescriptor (TJ7 k).2.2.1 = some (tyJ7 k) := by decide +kernel
abbrev cJ7_fill_53178 : ByteArray := prog_6_method_103_code
def yJ7_fill_53178 : MethodName := ⟨RJ7, "fill", "([II)V"⟩
def RL : String := "GateHallsLaw"
abbrev cL_law : ByteArray := code
def yL_law : MethodName := ⟨RL, "law", "([I)Z"⟩
def wsX0_init : List Cond := .code yX0_init cX0_init 4 none :: ([.methodLink RX0 3 objectInit, .instanceMethod objectInit, .code objectInit ⟨#[0xb1]⟩ 1 none, .fieldLink RX0 9 "GateHalls$Hall" "number" "I", .fieldLink RX0 15 "GateHalls$Hall" "kind" "I", .fieldLink RX0 18 "GateHalls$Hall" "fee" "I"] ++ wsX00)
def wsX0_enter : List Cond := .code yX0_enter cX0_enter 1 none :: ([.fieldLink RX0 21 "GateHalls$Hall" "passes" "I", .fieldLink RX0 24 "GateHalls$Hall" "inside" "I", .fieldLink RX0 27 "GateHalls$Hall" "most" "I", .methodLink RX0 30 Lib.Math.max.name, .static Lib.Math.max.name, .initialized "java/lang/Math", .code Lib.Math.max.name Lib.Math.max.code 2 (some .int)] ++ wsX00)
def wsX0_guardIsInTheWay : List Cond := .code yX0_guardIsInTheWay cX0_guardIsInTheWay 1 (some .boolean) :: ([.fieldLink RX0 15 "GateHalls$Hall" "kind" "I", .fieldLink RX0 21 "GateHalls$Hall" "passes" "I"] ++ wsX00)
def wsX0_charge : List Cond := .code yX0_charge cX0_charge 2 (some .int) :: ([.fieldLink RX0 15 "GateHalls$Hall" "kind" "I", .fieldLink RX0 18 "GateHalls$Hall" "fee" "I", .fieldLink RX0 21 "GateHalls$Hall" "passes" "I"] ++ wsX00)
def wsX0_mark : List Cond := .code yX0_mark cX0_mark 1 (some .int) :: ([.fieldLink RX0 9 "GateHalls$Hall" "number" "I"] ++ wsX00)
def wsX0_fact : List Cond := .code yX0_fact cX0_fact 2 (some .int) :: ([.fieldLink RX0 9 "GateHalls$Hall" "number" "I", .fieldLink RX0 15 "GateHalls$Hall" "kind" "I", .fieldLink RX0 18 "GateHalls$Hall" "fee" "I", .fieldLink RX0 21 "GateHalls$Hall" "passes" "I", .fieldLink RX0 36 "GateHalls$Hall" "asks" "I", .fieldLink RX0 39 "GateHalls$Hall" "paid" "I", .fieldLink RX0 24 "GateHalls$Hall" "inside" "I", .fieldLink RX0 27 "GateHalls$Hall" "most" "I"] ++ wsX00)
def wsJ7_fill_53178 : List Cond := .code yJ7_fill_53178 cJ7_fill_53178 4 none :: ([])
def wsX1_init : List Cond := .code yX1_init cX1_init 1 none :: ([.methodLink RX1 1 objectInit, .instanceMethod objectInit, .code objectInit ⟨#[0xb1]⟩ 1 none, .classLink RX1 9 RX0, .fieldLink RX1 11 "GateHalls" "halls" "[LGateHalls$Hall;", .arrayClass .int, .fieldLink RX1 15 "GateHalls" "parents" "[I", .fieldLink RX1 19 "GateHalls" "path" "[I", .fieldLink RX1 22 "GateHalls" "passed" "[LGateHalls$Hall;", .fieldLink RX1 25 "GateHalls" "marks" "[I", .methodLink RX1 28 yJ7_fill_53178, .static yJ7_fill_53178, .initialized RJ7, .code yJ7_fill_53178 cJ7_fill_53178 4 none] ++ wsX10)
def wsX1_isPlace : List Cond := .code yX1_isPlace cX1_isPlace 1 (some .boolean) :: ([])
def wsX1_hall : List Cond := .code yX1_hall cX1_hall 5 (some .int) :: ([.fieldLink RX1 38 "GateHalls" "hallsMade" "I", .fieldLink RX1 11 "GateHalls" "halls" "[LGateHalls$Hall;", .classLink RX1 9 RX0, .instantiable RX0 9, .initialized RX0, .methodLink RX1 34 yX1_isPlace, .static yX1_isPlace, .initialized RX1, .code yX1_isPlace cX1_isPlace 1 (some .boolean), .instanceMethod yX0_init, .code yX0_init cX0_init 4 none, .methodLink RX0 3 objectInit, .instanceMethod objectInit, .code objectInit ⟨#[0xb1]⟩ 1 none, .fieldLink RX0 9 "GateHalls$Hall" "number" "I", .fieldLink RX0 15 "GateHalls$Hall" "kind" "I", .fieldLink RX0 18 "GateHalls$Hall" "fee" "I"] ++ wsX10 ++ wsX00)
def wsX1_share : List Cond := .code yX1_share cX1_share 3 (some .int) :: ([.fieldLink RX1 11 "GateHalls" "halls" "[LGateHalls$Hall;", .methodLink RX1 34 yX1_isPlace, .static yX1_isPlace, .initialized RX1, .code yX1_isPlace cX1_isPlace 1 (some .boolean)] ++ wsX10)
def wsX1_parent : List Cond := .code yX1_parent cX1_parent 4 (some .int) :: ([.fieldLink RX1 15 "GateHalls" "parents" "[I", .methodLink RX1 34 yX1_isPlace, .static yX1_isPlace, .initialized RX1, .code yX1_isPlace cX1_isPlace 1 (some .boolean)] ++ wsX10)
def wsX1_fill : List Cond := .code yX1_fill cX1_fill 2 (some .int) :: ([.fieldLink RX1 45 "GateHalls" "purse" "I", .constant RX1 48 (1000000), .methodLink RX1 49 Lib.Math.min.name, .static Lib.Math.min.name, .initialized "java/lang/Math", .code Lib.Math.min.name Lib.Math.min.code 2 (some .int)] ++ wsX10)
def wsX1_innermost : List Cond := .code yX1_innermost cX1_innermost 1 (some (.object "GateHalls$Hall")) :: ([.fieldLink RX1 96 "GateHalls" "depth" "I", .fieldLink RX1 22 "GateHalls" "passed" "[LGateHalls$Hall;"] ++ wsX10)
def wsX1_addToPurse : List Cond := .code yX1_addToPurse cX1_addToPurse 4 (some .int) :: ([.fieldLink RX1 45 "GateHalls" "purse" "I", .constantLong RX1 159 (1000000)] ++ wsX10)
def wsX1_takeGifts : List Cond := .code yX1_takeGifts cX1_takeGifts 3 (some .int) :: ([.methodLink RX1 156 yX1_addToPurse, .instanceMethod yX1_addToPurse, .selects RX1 yX1_addToPurse yX1_addToPurse, .initialized RX1, .code yX1_addToPurse cX1_addToPurse 4 (some .int), .fieldLink RX1 45 "GateHalls" "purse" "I", .constantLong RX1 159 (1000000)] ++ wsX00 ++ wsX10)
def wsX1_divideGifts : List Cond := .code yX1_divideGifts cX1_divideGifts 2 (some .int) :: ([] ++ wsX00)
def wsJ9_floorMod_7cf53 : List Cond := .code yJ9_floorMod_7cf53 cJ9_floorMod_7cf53 3 (some .int) :: ([])
def wsX1_findPath : List Cond := .code yX1_findPath cX1_findPath 4 (some .int) :: ([.fieldLink RX1 19 "GateHalls" "path" "[I", .fieldLink RX1 15 "GateHalls" "parents" "[I", .methodLink RX1 34 yX1_isPlace, .static yX1_isPlace, .initialized RX1, .code yX1_isPlace cX1_isPlace 1 (some .boolean)] ++ wsX10)
def wsX1_hallAt : List Cond := .code yX1_hallAt cX1_hallAt 2 (some (.object "GateHalls$Hall")) :: ([.fieldLink RX1 11 "GateHalls" "halls" "[LGateHalls$Hall;", .methodLink RX1 34 yX1_isPlace, .static yX1_isPlace, .initialized RX1, .code yX1_isPlace cX1_isPlace 1 (some .boolean)] ++ wsX10)
def wsX1_leaveMark : List Cond := .code yX1_leaveMark cX1_leaveMark 2 none :: ([.fieldLink RX1 55 "GateHalls" "marksLeft" "I", .fieldLink RX1 25 "GateHalls" "marks" "[I"] ++ wsX10)
def wsX1_passInto_r1 : List Cond := [Cond.fieldLink RX1 96 "GateHalls" "depth" "I", Cond.fieldLink RX1 22 "GateHalls" "passed" "[LGateHalls$Hall;", Cond.fieldLink RX1 58 "GateHalls" "deepest" "I", Cond.methodLink RX1 117 Lib.Math.max.name, Cond.static Lib.Math.max.name, Cond.initialized "java/lang/Math", Cond.code Lib.Math.max.name Lib.Math.max.code 2 (some .int), Cond.fieldLink RX1 45 "GateHalls" "purse" "I", Cond.instanceMethod yX0_enter, Cond.initialized RX0, Cond.selects RX0 yX0_enter yX0_enter, Cond.code yX0_enter cX0_enter 1 none, Cond.fieldLink RX0 21 "GateHalls$Hall" "passes" "I", Cond.fieldLink RX0 24 "GateHalls$Hall" "inside" "I", Cond.fieldLink RX0 27 "GateHalls$Hall" "most" "I", Cond.methodLink RX0 30 Lib.Math.max.name, Cond.instanceMethod yX0_mark, Cond.selects RX0 yX0_mark yX0_mark, Cond.code yX0_mark cX0_mark 1 (some .int), Cond.fieldLink RX0 9 "GateHalls$Hall" "number" "I", Cond.methodLink RX1 123 yX1_leaveMark, Cond.instanceMethod yX1_leaveMark, Cond.selects RX1 yX1_leaveMark yX1_leaveMark, Cond.initialized RX1]
def wsX1_passInto_r2 : List Cond := [Cond.code yX1_leaveMark cX1_leaveMark 2 none, Cond.fieldLink RX1 55 "GateHalls" "marksLeft" "I", Cond.fieldLink RX1 25 "GateHalls" "marks" "[I", Cond.instanceMethod yX0_guardIsInTheWay, Cond.selects RX0 yX0_guardIsInTheWay yX0_guardIsInTheWay, Cond.code yX0_guardIsInTheWay cX0_guardIsInTheWay 1 (some .boolean), Cond.fieldLink RX0 15 "GateHalls$Hall" "kind" "I", Cond.instanceMethod yX0_charge, Cond.selects RX0 yX0_charge yX0_charge, Cond.code yX0_charge cX0_charge 2 (some .int), Cond.fieldLink RX0 18 "GateHalls$Hall" "fee" "I"]
def wsX1_passInto : List Cond := .code yX1_passInto cX1_passInto 3 (some .int) :: ((wsX1_passInto_r1 ++ wsX1_passInto_r2) ++ wsX10 ++ wsX00)
def wsX1_passPath_r1 : List Cond := [Cond.methodLink RX1 49 Lib.Math.min.name, Cond.static Lib.Math.min.name, Cond.initialized "java/lang/Math", Cond.code Lib.Math.min.name Lib.Math.min.code 2 (some .int), Cond.fieldLink RX1 19 "GateHalls" "path" "[I", Cond.methodLink RX1 75 yX1_hallAt, Cond.instanceMethod yX1_hallAt, Cond.selects RX1 yX1_hallAt yX1_hallAt, Cond.initialized RX1, Cond.code yX1_hallAt cX1_hallAt 2 (some (.object "GateHalls$Hall")), Cond.fieldLink RX1 11 "GateHalls" "halls" "[LGateHalls$Hall;", Cond.methodLink RX1 34 yX1_isPlace, Cond.static yX1_isPlace, Cond.code yX1_isPlace cX1_isPlace 1 (some .boolean), Cond.methodLink RX1 110 yX1_passInto, Cond.instanceMethod yX1_passInto, Cond.selects RX1 yX1_passInto yX1_passInto, Cond.code yX1_passInto cX1_passInto 3 (some .int), Cond.fieldLink RX1 96 "GateHalls" "depth" "I", Cond.fieldLink RX1 22 "GateHalls" "passed" "[LGateHalls$Hall;", Cond.fieldLink RX1 58 "GateHalls" "deepest" "I", Cond.methodLink RX1 117 Lib.Math.max.name, Cond.static Lib.Math.max.name, Cond.code Lib.Math.max.name Lib.Math.max.code 2 (some .int)]
def wsX1_passPath_r2 : List Cond := [Cond.fieldLink RX1 45 "GateHalls" "purse" "I", Cond.instanceMethod yX0_enter, Cond.initialized RX0, Cond.selects RX0 yX0_enter yX0_enter, Cond.code yX0_enter cX0_enter 1 none, Cond.fieldLink RX0 21 "GateHalls$Hall" "passes" "I", Cond.fieldLink RX0 24 "GateHalls$Hall" "inside" "I", Cond.fieldLink RX0 27 "GateHalls$Hall" "most" "I", Cond.methodLink RX0 30 Lib.Math.max.name, Cond.instanceMethod yX0_mark, Cond.selects RX0 yX0_mark yX0_mark, Cond.code yX0_mark cX0_mark 1 (some .int), Cond.fieldLink RX0 9 "GateHalls$Hall" "number" "I", Cond.methodLink RX1 123 yX1_leaveMark, Cond.instanceMethod yX1_leaveMark, Cond.selects RX1 yX1_leaveMark yX1_leaveMark, Cond.code yX1_leaveMark cX1_leaveMark 2 none, Cond.fieldLink RX1 55 "GateHalls" "marksLeft" "I", Cond.fieldLink RX1 25 "GateHalls" "marks" "[I", Cond.instanceMethod yX0_guardIsInTheWay, Cond.selects RX0 yX0_guardIsInTheWay yX0_guardIsInTheWay, Cond.code yX0_guardIsInTheWay cX0_guardIsInTheWay 1 (some .boolean), Cond.fieldLink RX0 15 "GateHalls$Hall" "kind" "I", Cond.instanceMethod yX0_charge]
def wsX1_passPath_r3 : List Cond := [Cond.selects RX0 yX0_charge yX0_charge, Cond.code yX0_charge cX0_charge 2 (some .int), Cond.fieldLink RX0 18 "GateHalls$Hall" "fee" "I"]
def wsX1_passPath : List Cond := .code yX1_passPath cX1_passPath 5 (some .int) :: ((wsX1_passPath_r1 ++ (wsX1_passPath_r2 ++ wsX1_passPath_r3)) ++ wsX10 ++ wsX00)
def wsX1_leaveUntil : List Cond := .code yX1_leaveUntil cX1_leaveUntil 3 none :: ([.fieldLink RX1 96 "GateHalls" "depth" "I", .fieldLink RX1 22 "GateHalls" "passed" "[LGateHalls$Hall;", .instanceMethod yX0_mark, .initialized RX0, .selects RX0 yX0_mark yX0_mark, .code yX0_mark cX0_mark 1 (some .int), .fieldLink RX0 9 "GateHalls$Hall" "number" "I", .methodLink RX1 123 yX1_leaveMark, .instanceMethod yX1_leaveMark, .selects RX1 yX1_leaveMark yX1_leaveMark, .initialized RX1, .code yX1_leaveMark cX1_leaveMark 2 none, .fieldLink RX1 55 "GateHalls" "marksLeft" "I", .fieldLink RX1 25 "GateHalls" "marks" "[I"] ++ wsX10 ++ wsX00)
def wsX1_doDeed_r1 : List Cond := [Cond.fieldLink RX1 11 "GateHalls" "halls" "[LGateHalls$Hall;", Cond.fieldLink RX1 96 "GateHalls" "depth" "I", Cond.methodLink RX1 139 yX1_innermost, Cond.instanceMethod yX1_innermost, Cond.selects RX1 yX1_innermost yX1_innermost, Cond.initialized RX1, Cond.code yX1_innermost cX1_innermost 1 (some (.object "GateHalls$Hall")), Cond.fieldLink RX1 22 "GateHalls" "passed" "[LGateHalls$Hall;", Cond.methodLink RX1 143 yX1_takeGifts, Cond.instanceMethod yX1_takeGifts, Cond.selects RX1 yX1_takeGifts yX1_takeGifts, Cond.code yX1_takeGifts cX1_takeGifts 3 (some .int), Cond.methodLink RX1 156 yX1_addToPurse, Cond.instanceMethod yX1_addToPurse, Cond.selects RX1 yX1_addToPurse yX1_addToPurse, Cond.code yX1_addToPurse cX1_addToPurse 4 (some .int), Cond.fieldLink RX1 45 "GateHalls" "purse" "I", Cond.constantLong RX1 159 (1000000), Cond.methodLink RX1 146 yX1_divideGifts, Cond.static yX1_divideGifts, Cond.code yX1_divideGifts cX1_divideGifts 2 (some .int), Cond.methodLink RX1 150 yJ9_floorMod_7cf53, Cond.static yJ9_floorMod_7cf53, Cond.initialized RJ9]
def wsX1_doDeed_r2 : List Cond := [Cond.code yJ9_floorMod_7cf53 cJ9_floorMod_7cf53 3 (some .int), Cond.methodLink RX1 153 yX1_walkOn, Cond.instanceMethod yX1_walkOn, Cond.selects RX1 yX1_walkOn yX1_walkOn, Cond.code yX1_walkOn cX1_walkOn 4 (some .int), Cond.methodLink RX1 61 yX1_walkTo, Cond.instanceMethod yX1_walkTo, Cond.selects RX1 yX1_walkTo yX1_walkTo, Cond.code yX1_walkTo cX1_walkTo 8 (some .int), Cond.fieldLink RX1 90 "GateHalls" "walksBegun" "I", Cond.methodLink RX1 93 yX1_findPath, Cond.instanceMethod yX1_findPath, Cond.selects RX1 yX1_findPath yX1_findPath, Cond.code yX1_findPath cX1_findPath 4 (some .int), Cond.fieldLink RX1 19 "GateHalls" "path" "[I", Cond.fieldLink RX1 15 "GateHalls" "parents" "[I", Cond.methodLink RX1 34 yX1_isPlace, Cond.static yX1_isPlace, Cond.code yX1_isPlace cX1_isPlace 1 (some .boolean), Cond.methodLink RX1 99 yX1_passPath, Cond.instanceMethod yX1_passPath, Cond.selects RX1 yX1_passPath yX1_passPath, Cond.code yX1_passPath cX1_passPath 5 (some .int), Cond.methodLink RX1 49 Lib.Math.min.name]
def wsX1_doDeed_r3 : List Cond := [Cond.static Lib.Math.min.name, Cond.initialized "java/lang/Math", Cond.code Lib.Math.min.name Lib.Math.min.code 2 (some .int), Cond.methodLink RX1 75 yX1_hallAt, Cond.instanceMethod yX1_hallAt, Cond.selects RX1 yX1_hallAt yX1_hallAt, Cond.code yX1_hallAt cX1_hallAt 2 (some (.object "GateHalls$Hall")), Cond.methodLink RX1 110 yX1_passInto, Cond.instanceMethod yX1_passInto, Cond.selects RX1 yX1_passInto yX1_passInto, Cond.code yX1_passInto cX1_passInto 3 (some .int), Cond.fieldLink RX1 58 "GateHalls" "deepest" "I", Cond.methodLink RX1 117 Lib.Math.max.name, Cond.static Lib.Math.max.name, Cond.code Lib.Math.max.name Lib.Math.max.code 2 (some .int), Cond.instanceMethod yX0_enter, Cond.initialized RX0, Cond.selects RX0 yX0_enter yX0_enter, Cond.code yX0_enter cX0_enter 1 none, Cond.fieldLink RX0 21 "GateHalls$Hall" "passes" "I", Cond.fieldLink RX0 24 "GateHalls$Hall" "inside" "I", Cond.fieldLink RX0 27 "GateHalls$Hall" "most" "I", Cond.methodLink RX0 30 Lib.Math.max.name, Cond.instanceMethod yX0_mark]
def wsX1_doDeed_r4 : List Cond := [Cond.selects RX0 yX0_mark yX0_mark, Cond.code yX0_mark cX0_mark 1 (some .int), Cond.fieldLink RX0 9 "GateHalls$Hall" "number" "I", Cond.methodLink RX1 123 yX1_leaveMark, Cond.instanceMethod yX1_leaveMark, Cond.selects RX1 yX1_leaveMark yX1_leaveMark, Cond.code yX1_leaveMark cX1_leaveMark 2 none, Cond.fieldLink RX1 55 "GateHalls" "marksLeft" "I", Cond.fieldLink RX1 25 "GateHalls" "marks" "[I", Cond.instanceMethod yX0_guardIsInTheWay, Cond.selects RX0 yX0_guardIsInTheWay yX0_guardIsInTheWay, Cond.code yX0_guardIsInTheWay cX0_guardIsInTheWay 1 (some .boolean), Cond.fieldLink RX0 15 "GateHalls$Hall" "kind" "I", Cond.instanceMethod yX0_charge, Cond.selects RX0 yX0_charge yX0_charge, Cond.code yX0_charge cX0_charge 2 (some .int), Cond.fieldLink RX0 18 "GateHalls$Hall" "fee" "I", Cond.methodLink RX1 102 yX1_doDeed, Cond.instanceMethod yX1_doDeed, Cond.selects RX1 yX1_doDeed yX1_doDeed, Cond.methodLink RX1 106 yX1_leaveUntil, Cond.instanceMethod yX1_leaveUntil, Cond.selects RX1 yX1_leaveUntil yX1_leaveUntil, Cond.code yX1_leaveUntil cX1_leaveUntil 3 none]
def wsX1_doDeed : List Cond := .code yX1_doDeed cX1_doDeed 5 (some .int) :: ((wsX1_doDeed_r1 ++ (wsX1_doDeed_r2 ++ (wsX1_doDeed_r3 ++ wsX1_doDeed_r4))) ++ wsX00 ++ wsX10)
def wsX1_walkOn_r1 : List Cond := [Cond.methodLink RX1 150 yJ9_floorMod_7cf53, Cond.static yJ9_floorMod_7cf53, Cond.initialized RJ9, Cond.code yJ9_floorMod_7cf53 cJ9_floorMod_7cf53 3 (some .int), Cond.methodLink RX1 61 yX1_walkTo, Cond.instanceMethod yX1_walkTo, Cond.selects RX1 yX1_walkTo yX1_walkTo, Cond.initialized RX1, Cond.code yX1_doDeed cX1_doDeed 5 (some .int), Cond.fieldLink RX1 11 "GateHalls" "halls" "[LGateHalls$Hall;", Cond.fieldLink RX1 96 "GateHalls" "depth" "I", Cond.methodLink RX1 139 yX1_innermost, Cond.instanceMethod yX1_innermost, Cond.selects RX1 yX1_innermost yX1_innermost, Cond.code yX1_innermost cX1_innermost 1 (some (.object "GateHalls$Hall")), Cond.fieldLink RX1 22 "GateHalls" "passed" "[LGateHalls$Hall;", Cond.methodLink RX1 143 yX1_takeGifts, Cond.instanceMethod yX1_takeGifts, Cond.selects RX1 yX1_takeGifts yX1_takeGifts, Cond.code yX1_takeGifts cX1_takeGifts 3 (some .int), Cond.methodLink RX1 156 yX1_addToPurse, Cond.instanceMethod yX1_addToPurse, Cond.selects RX1 yX1_addToPurse yX1_addToPurse, Cond.code yX1_addToPurse cX1_addToPurse 4 (some .int)]
def wsX1_walkOn_r2 : List Cond := [Cond.fieldLink RX1 45 "GateHalls" "purse" "I", Cond.constantLong RX1 159 (1000000), Cond.methodLink RX1 146 yX1_divideGifts, Cond.static yX1_divideGifts, Cond.code yX1_divideGifts cX1_divideGifts 2 (some .int), Cond.methodLink RX1 153 yX1_walkOn, Cond.instanceMethod yX1_walkOn, Cond.selects RX1 yX1_walkOn yX1_walkOn, Cond.code yX1_walkTo cX1_walkTo 8 (some .int), Cond.fieldLink RX1 90 "GateHalls" "walksBegun" "I", Cond.methodLink RX1 93 yX1_findPath, Cond.instanceMethod yX1_findPath, Cond.selects RX1 yX1_findPath yX1_findPath, Cond.code yX1_findPath cX1_findPath 4 (some .int), Cond.fieldLink RX1 19 "GateHalls" "path" "[I", Cond.fieldLink RX1 15 "GateHalls" "parents" "[I", Cond.methodLink RX1 34 yX1_isPlace, Cond.static yX1_isPlace, Cond.code yX1_isPlace cX1_isPlace 1 (some .boolean), Cond.methodLink RX1 99 yX1_passPath, Cond.instanceMethod yX1_passPath, Cond.selects RX1 yX1_passPath yX1_passPath, Cond.code yX1_passPath cX1_passPath 5 (some .int), Cond.methodLink RX1 49 Lib.Math.min.name]
def wsX1_walkOn_r3 : List Cond := [Cond.static Lib.Math.min.name, Cond.initialized "java/lang/Math", Cond.code Lib.Math.min.name Lib.Math.min.code 2 (some .int), Cond.methodLink RX1 75 yX1_hallAt, Cond.instanceMethod yX1_hallAt, Cond.selects RX1 yX1_hallAt yX1_hallAt, Cond.code yX1_hallAt cX1_hallAt 2 (some (.object "GateHalls$Hall")), Cond.methodLink RX1 110 yX1_passInto, Cond.instanceMethod yX1_passInto, Cond.selects RX1 yX1_passInto yX1_passInto, Cond.code yX1_passInto cX1_passInto 3 (some .int), Cond.fieldLink RX1 58 "GateHalls" "deepest" "I", Cond.methodLink RX1 117 Lib.Math.max.name, Cond.static Lib.Math.max.name, Cond.code Lib.Math.max.name Lib.Math.max.code 2 (some .int), Cond.instanceMethod yX0_enter, Cond.initialized RX0, Cond.selects RX0 yX0_enter yX0_enter, Cond.code yX0_enter cX0_enter 1 none, Cond.fieldLink RX0 21 "GateHalls$Hall" "passes" "I", Cond.fieldLink RX0 24 "GateHalls$Hall" "inside" "I", Cond.fieldLink RX0 27 "GateHalls$Hall" "most" "I", Cond.methodLink RX0 30 Lib.Math.max.name, Cond.instanceMethod yX0_mark]
def wsX1_walkOn_r4 : List Cond := [Cond.selects RX0 yX0_mark yX0_mark, Cond.code yX0_mark cX0_mark 1 (some .int), Cond.fieldLink RX0 9 "GateHalls$Hall" "number" "I", Cond.methodLink RX1 123 yX1_leaveMark, Cond.instanceMethod yX1_leaveMark, Cond.selects RX1 yX1_leaveMark yX1_leaveMark, Cond.code yX1_leaveMark cX1_leaveMark 2 none, Cond.fieldLink RX1 55 "GateHalls" "marksLeft" "I", Cond.fieldLink RX1 25 "GateHalls" "marks" "[I", Cond.instanceMethod yX0_guardIsInTheWay, Cond.selects RX0 yX0_guardIsInTheWay yX0_guardIsInTheWay, Cond.code yX0_guardIsInTheWay cX0_guardIsInTheWay 1 (some .boolean), Cond.fieldLink RX0 15 "GateHalls$Hall" "kind" "I", Cond.instanceMethod yX0_charge, Cond.selects RX0 yX0_charge yX0_charge, Cond.code yX0_charge cX0_charge 2 (some .int), Cond.fieldLink RX0 18 "GateHalls$Hall" "fee" "I", Cond.methodLink RX1 102 yX1_doDeed, Cond.instanceMethod yX1_doDeed, Cond.selects RX1 yX1_doDeed yX1_doDeed, Cond.methodLink RX1 106 yX1_leaveUntil, Cond.instanceMethod yX1_leaveUntil, Cond.selects RX1 yX1_leaveUntil yX1_leaveUntil, Cond.code yX1_leaveUntil cX1_leaveUntil 3 none]
def wsX1_walkOn : List Cond := .code yX1_walkOn cX1_walkOn 4 (some .int) :: ((wsX1_walkOn_r1 ++ (wsX1_walkOn_r2 ++ (wsX1_walkOn_r3 ++ wsX1_walkOn_r4))) ++ wsX00 ++ wsX10)
def wsX1_walkTo_r1 : List Cond := [Cond.fieldLink RX1 90 "GateHalls" "walksBegun" "I", Cond.fieldLink RX1 96 "GateHalls" "depth" "I", Cond.methodLink RX1 93 yX1_findPath, Cond.instanceMethod yX1_findPath, Cond.selects RX1 yX1_findPath yX1_findPath, Cond.initialized RX1, Cond.code yX1_findPath cX1_findPath 4 (some .int), Cond.fieldLink RX1 19 "GateHalls" "path" "[I", Cond.fieldLink RX1 15 "GateHalls" "parents" "[I", Cond.methodLink RX1 34 yX1_isPlace, Cond.static yX1_isPlace, Cond.code yX1_isPlace cX1_isPlace 1 (some .boolean), Cond.methodLink RX1 99 yX1_passPath, Cond.instanceMethod yX1_passPath, Cond.selects RX1 yX1_passPath yX1_passPath, Cond.code yX1_passPath cX1_passPath 5 (some .int), Cond.methodLink RX1 49 Lib.Math.min.name, Cond.static Lib.Math.min.name, Cond.initialized "java/lang/Math", Cond.code Lib.Math.min.name Lib.Math.min.code 2 (some .int), Cond.methodLink RX1 75 yX1_hallAt, Cond.instanceMethod yX1_hallAt, Cond.selects RX1 yX1_hallAt yX1_hallAt, Cond.code yX1_hallAt cX1_hallAt 2 (some (.object "GateHalls$Hall"))]
def wsX1_walkTo_r2 : List Cond := [Cond.fieldLink RX1 11 "GateHalls" "halls" "[LGateHalls$Hall;", Cond.methodLink RX1 110 yX1_passInto, Cond.instanceMethod yX1_passInto, Cond.selects RX1 yX1_passInto yX1_passInto, Cond.code yX1_passInto cX1_passInto 3 (some .int), Cond.fieldLink RX1 22 "GateHalls" "passed" "[LGateHalls$Hall;", Cond.fieldLink RX1 58 "GateHalls" "deepest" "I", Cond.methodLink RX1 117 Lib.Math.max.name, Cond.static Lib.Math.max.name, Cond.code Lib.Math.max.name Lib.Math.max.code 2 (some .int), Cond.fieldLink RX1 45 "GateHalls" "purse" "I", Cond.instanceMethod yX0_enter, Cond.initialized RX0, Cond.selects RX0 yX0_enter yX0_enter, Cond.code yX0_enter cX0_enter 1 none, Cond.fieldLink RX0 21 "GateHalls$Hall" "passes" "I", Cond.fieldLink RX0 24 "GateHalls$Hall" "inside" "I", Cond.fieldLink RX0 27 "GateHalls$Hall" "most" "I", Cond.methodLink RX0 30 Lib.Math.max.name, Cond.instanceMethod yX0_mark, Cond.selects RX0 yX0_mark yX0_mark, Cond.code yX0_mark cX0_mark 1 (some .int), Cond.fieldLink RX0 9 "GateHalls$Hall" "number" "I", Cond.methodLink RX1 123 yX1_leaveMark]
def wsX1_walkTo_r3 : List Cond := [Cond.instanceMethod yX1_leaveMark, Cond.selects RX1 yX1_leaveMark yX1_leaveMark, Cond.code yX1_leaveMark cX1_leaveMark 2 none, Cond.fieldLink RX1 55 "GateHalls" "marksLeft" "I", Cond.fieldLink RX1 25 "GateHalls" "marks" "[I", Cond.instanceMethod yX0_guardIsInTheWay, Cond.selects RX0 yX0_guardIsInTheWay yX0_guardIsInTheWay, Cond.code yX0_guardIsInTheWay cX0_guardIsInTheWay 1 (some .boolean), Cond.fieldLink RX0 15 "GateHalls$Hall" "kind" "I", Cond.instanceMethod yX0_charge, Cond.selects RX0 yX0_charge yX0_charge, Cond.code yX0_charge cX0_charge 2 (some .int), Cond.fieldLink RX0 18 "GateHalls$Hall" "fee" "I", Cond.methodLink RX1 102 yX1_doDeed, Cond.instanceMethod yX1_doDeed, Cond.selects RX1 yX1_doDeed yX1_doDeed, Cond.methodLink RX1 106 yX1_leaveUntil, Cond.instanceMethod yX1_leaveUntil, Cond.selects RX1 yX1_leaveUntil yX1_leaveUntil, Cond.code yX1_leaveUntil cX1_leaveUntil 3 none, Cond.code yX1_doDeed cX1_doDeed 5 (some .int), Cond.methodLink RX1 139 yX1_innermost, Cond.instanceMethod yX1_innermost, Cond.selects RX1 yX1_innermost yX1_innermost]
def wsX1_walkTo_r4 : List Cond := [Cond.code yX1_innermost cX1_innermost 1 (some (.object "GateHalls$Hall")), Cond.methodLink RX1 143 yX1_takeGifts, Cond.instanceMethod yX1_takeGifts, Cond.selects RX1 yX1_takeGifts yX1_takeGifts, Cond.code yX1_takeGifts cX1_takeGifts 3 (some .int), Cond.methodLink RX1 156 yX1_addToPurse, Cond.instanceMethod yX1_addToPurse, Cond.selects RX1 yX1_addToPurse yX1_addToPurse, Cond.code yX1_addToPurse cX1_addToPurse 4 (some .int), Cond.constantLong RX1 159 (1000000), Cond.methodLink RX1 146 yX1_divideGifts, Cond.static yX1_divideGifts, Cond.code yX1_divideGifts cX1_divideGifts 2 (some .int), Cond.methodLink RX1 150 yJ9_floorMod_7cf53, Cond.static yJ9_floorMod_7cf53, Cond.initialized RJ9, Cond.code yJ9_floorMod_7cf53 cJ9_floorMod_7cf53 3 (some .int), Cond.methodLink RX1 153 yX1_walkOn, Cond.instanceMethod yX1_walkOn, Cond.selects RX1 yX1_walkOn yX1_walkOn, Cond.code yX1_walkOn cX1_walkOn 4 (some .int), Cond.methodLink RX1 61 yX1_walkTo, Cond.instanceMethod yX1_walkTo, Cond.selects RX1 yX1_walkTo yX1_walkTo]
def wsX1_walkTo : List Cond := .code yX1_walkTo cX1_walkTo 8 (some .int) :: ((wsX1_walkTo_r1 ++ (wsX1_walkTo_r2 ++ (wsX1_walkTo_r3 ++ wsX1_walkTo_r4))) ++ wsX00 ++ wsX10)
def wsX1_walk_r1 : List Cond := [Cond.fieldLink RX1 55 "GateHalls" "marksLeft" "I", Cond.fieldLink RX1 58 "GateHalls" "deepest" "I", Cond.fieldLink RX1 65 "GateHalls" "latestFailure" "I", Cond.methodLink RX1 34 yX1_isPlace, Cond.static yX1_isPlace, Cond.initialized RX1, Cond.code yX1_isPlace cX1_isPlace 1 (some .boolean), Cond.methodLink RX1 61 yX1_walkTo, Cond.instanceMethod yX1_walkTo, Cond.selects RX1 yX1_walkTo yX1_walkTo, Cond.code yX1_walkTo cX1_walkTo 8 (some .int), Cond.fieldLink RX1 90 "GateHalls" "walksBegun" "I", Cond.fieldLink RX1 96 "GateHalls" "depth" "I", Cond.methodLink RX1 93 yX1_findPath, Cond.instanceMethod yX1_findPath, Cond.selects RX1 yX1_findPath yX1_findPath, Cond.code yX1_findPath cX1_findPath 4 (some .int), Cond.fieldLink RX1 19 "GateHalls" "path" "[I", Cond.fieldLink RX1 15 "GateHalls" "parents" "[I", Cond.methodLink RX1 99 yX1_passPath, Cond.instanceMethod yX1_passPath, Cond.selects RX1 yX1_passPath yX1_passPath, Cond.code yX1_passPath cX1_passPath 5 (some .int), Cond.methodLink RX1 49 Lib.Math.min.name]
def wsX1_walk_r2 : List Cond := [Cond.static Lib.Math.min.name, Cond.initialized "java/lang/Math", Cond.code Lib.Math.min.name Lib.Math.min.code 2 (some .int), Cond.methodLink RX1 75 yX1_hallAt, Cond.instanceMethod yX1_hallAt, Cond.selects RX1 yX1_hallAt yX1_hallAt, Cond.code yX1_hallAt cX1_hallAt 2 (some (.object "GateHalls$Hall")), Cond.fieldLink RX1 11 "GateHalls" "halls" "[LGateHalls$Hall;", Cond.methodLink RX1 110 yX1_passInto, Cond.instanceMethod yX1_passInto, Cond.selects RX1 yX1_passInto yX1_passInto, Cond.code yX1_passInto cX1_passInto 3 (some .int), Cond.fieldLink RX1 22 "GateHalls" "passed" "[LGateHalls$Hall;", Cond.methodLink RX1 117 Lib.Math.max.name, Cond.static Lib.Math.max.name, Cond.code Lib.Math.max.name Lib.Math.max.code 2 (some .int), Cond.fieldLink RX1 45 "GateHalls" "purse" "I", Cond.instanceMethod yX0_enter, Cond.initialized RX0, Cond.selects RX0 yX0_enter yX0_enter, Cond.code yX0_enter cX0_enter 1 none, Cond.fieldLink RX0 21 "GateHalls$Hall" "passes" "I", Cond.fieldLink RX0 24 "GateHalls$Hall" "inside" "I", Cond.fieldLink RX0 27 "GateHalls$Hall" "most" "I"]
def wsX1_walk_r3 : List Cond := [Cond.methodLink RX0 30 Lib.Math.max.name, Cond.instanceMethod yX0_mark, Cond.selects RX0 yX0_mark yX0_mark, Cond.code yX0_mark cX0_mark 1 (some .int), Cond.fieldLink RX0 9 "GateHalls$Hall" "number" "I", Cond.methodLink RX1 123 yX1_leaveMark, Cond.instanceMethod yX1_leaveMark, Cond.selects RX1 yX1_leaveMark yX1_leaveMark, Cond.code yX1_leaveMark cX1_leaveMark 2 none, Cond.fieldLink RX1 25 "GateHalls" "marks" "[I", Cond.instanceMethod yX0_guardIsInTheWay, Cond.selects RX0 yX0_guardIsInTheWay yX0_guardIsInTheWay, Cond.code yX0_guardIsInTheWay cX0_guardIsInTheWay 1 (some .boolean), Cond.fieldLink RX0 15 "GateHalls$Hall" "kind" "I", Cond.instanceMethod yX0_charge, Cond.selects RX0 yX0_charge yX0_charge, Cond.code yX0_charge cX0_charge 2 (some .int), Cond.fieldLink RX0 18 "GateHalls$Hall" "fee" "I", Cond.methodLink RX1 102 yX1_doDeed, Cond.instanceMethod yX1_doDeed, Cond.selects RX1 yX1_doDeed yX1_doDeed, Cond.methodLink RX1 106 yX1_leaveUntil, Cond.instanceMethod yX1_leaveUntil, Cond.selects RX1 yX1_leaveUntil yX1_leaveUntil]
def wsX1_walk_r4 : List Cond := [Cond.code yX1_leaveUntil cX1_leaveUntil 3 none, Cond.code yX1_doDeed cX1_doDeed 5 (some .int), Cond.methodLink RX1 139 yX1_innermost, Cond.instanceMethod yX1_innermost, Cond.selects RX1 yX1_innermost yX1_innermost, Cond.code yX1_innermost cX1_innermost 1 (some (.object "GateHalls$Hall")), Cond.methodLink RX1 143 yX1_takeGifts, Cond.instanceMethod yX1_takeGifts, Cond.selects RX1 yX1_takeGifts yX1_takeGifts, Cond.code yX1_takeGifts cX1_takeGifts 3 (some .int), Cond.methodLink RX1 156 yX1_addToPurse, Cond.instanceMethod yX1_addToPurse, Cond.selects RX1 yX1_addToPurse yX1_addToPurse, Cond.code yX1_addToPurse cX1_addToPurse 4 (some .int), Cond.constantLong RX1 159 (1000000), Cond.methodLink RX1 146 yX1_divideGifts, Cond.static yX1_divideGifts, Cond.code yX1_divideGifts cX1_divideGifts 2 (some .int), Cond.methodLink RX1 150 yJ9_floorMod_7cf53, Cond.static yJ9_floorMod_7cf53, Cond.initialized RJ9, Cond.code yJ9_floorMod_7cf53 cJ9_floorMod_7cf53 3 (some .int), Cond.methodLink RX1 153 yX1_walkOn, Cond.instanceMethod yX1_walkOn]
def wsX1_walk_r5 : List Cond := [Cond.selects RX1 yX1_walkOn yX1_walkOn, Cond.code yX1_walkOn cX1_walkOn 4 (some .int)]
def wsX1_walk : List Cond := .code yX1_walk cX1_walk 4 (some .int) :: ((wsX1_walk_r1 ++ (wsX1_walk_r2 ++ (wsX1_walk_r3 ++ (wsX1_walk_r4 ++ wsX1_walk_r5)))) ++ wsX10 ++ wsX00)
def wsX1_seekPartner : List Cond := .code yX1_seekPartner cX1_seekPartner 7 (some .int) :: ([.methodLink RX1 75 yX1_hallAt, .instanceMethod yX1_hallAt, .selects RX1 yX1_hallAt yX1_hallAt, .initialized RX1, .code yX1_hallAt cX1_hallAt 2 (some (.object "GateHalls$Hall")), .fieldLink RX1 11 "GateHalls" "halls" "[LGateHalls$Hall;", .methodLink RX1 34 yX1_isPlace, .static yX1_isPlace, .code yX1_isPlace cX1_isPlace 1 (some .boolean)] ++ wsX00 ++ wsX10)
def wsX1_seek : List Cond := .code yX1_seek cX1_seek 6 (some .int) :: ([.fieldLink RX1 11 "GateHalls" "halls" "[LGateHalls$Hall;", .methodLink RX1 71 yX1_seekPartner, .instanceMethod yX1_seekPartner, .selects RX1 yX1_seekPartner yX1_seekPartner, .initialized RX1, .code yX1_seekPartner cX1_seekPartner 7 (some .int), .methodLink RX1 75 yX1_hallAt, .instanceMethod yX1_hallAt, .selects RX1 yX1_hallAt yX1_hallAt, .code yX1_hallAt cX1_hallAt 2 (some (.object "GateHalls$Hall")), .methodLink RX1 34 yX1_isPlace, .static yX1_isPlace, .code yX1_isPlace cX1_isPlace 1 (some .boolean)] ++ wsX10 ++ wsX00)
def wsX1_told : List Cond := .code yX1_told cX1_told 4 (some .int) :: ([.methodLink RX1 75 yX1_hallAt, .instanceMethod yX1_hallAt, .selects RX1 yX1_hallAt yX1_hallAt, .initialized RX1, .code yX1_hallAt cX1_hallAt 2 (some (.object "GateHalls$Hall")), .fieldLink RX1 11 "GateHalls" "halls" "[LGateHalls$Hall;", .methodLink RX1 34 yX1_isPlace, .static yX1_isPlace, .code yX1_isPlace cX1_isPlace 1 (some .boolean), .instanceMethod yX0_fact, .initialized RX0, .selects RX0 yX0_fact yX0_fact, .code yX0_fact cX0_fact 2 (some .int), .fieldLink RX0 9 "GateHalls$Hall" "number" "I", .fieldLink RX0 15 "GateHalls$Hall" "kind" "I", .fieldLink RX0 18 "GateHalls$Hall" "fee" "I", .fieldLink RX0 21 "GateHalls$Hall" "passes" "I", .fieldLink RX0 36 "GateHalls$Hall" "asks" "I", .fieldLink RX0 39 "GateHalls$Hall" "paid" "I", .fieldLink RX0 24 "GateHalls$Hall" "inside" "I", .fieldLink RX0 27 "GateHalls$Hall" "most" "I"] ++ wsX10 ++ wsX00)
def wsX1_gifts : List Cond := .code yX1_gifts cX1_gifts 3 (some .int) :: ([.methodLink RX1 75 yX1_hallAt, .instanceMethod yX1_hallAt, .selects RX1 yX1_hallAt yX1_hallAt, .initialized RX1, .code yX1_hallAt cX1_hallAt 2 (some (.object "GateHalls$Hall")), .fieldLink RX1 11 "GateHalls" "halls" "[LGateHalls$Hall;", .methodLink RX1 34 yX1_isPlace, .static yX1_isPlace, .code yX1_isPlace cX1_isPlace 1 (some .boolean)] ++ wsX00 ++ wsX10)
def wsX1_trace : List Cond := .code yX1_trace cX1_trace 2 (some .int) :: ([.fieldLink RX1 55 "GateHalls" "marksLeft" "I", .fieldLink RX1 25 "GateHalls" "marks" "[I"] ++ wsX10)
def wsX1_placesWithHall : List Cond := .code yX1_placesWithHall cX1_placesWithHall 3 (some .int) :: ([.fieldLink RX1 11 "GateHalls" "halls" "[LGateHalls$Hall;"] ++ wsX10)
def wsX1_count : List Cond := .code yX1_count cX1_count 2 (some .int) :: ([.fieldLink RX1 45 "GateHalls" "purse" "I", .fieldLink RX1 38 "GateHalls" "hallsMade" "I", .fieldLink RX1 65 "GateHalls" "latestFailure" "I", .fieldLink RX1 90 "GateHalls" "walksBegun" "I", .fieldLink RX1 58 "GateHalls" "deepest" "I", .methodLink RX1 86 yX1_placesWithHall, .instanceMethod yX1_placesWithHall, .selects RX1 yX1_placesWithHall yX1_placesWithHall, .initialized RX1, .code yX1_placesWithHall cX1_placesWithHall 3 (some .int), .fieldLink RX1 11 "GateHalls" "halls" "[LGateHalls$Hall;"] ++ wsX10)
def wsX2_init : List Cond := .code yX2_init cX2_init 1 none :: ([.methodLink RX2 1 objectInit, .instanceMethod objectInit, .code objectInit ⟨#[0xb1]⟩ 1 none, .arrayClass .int, .fieldLink RX2 7 "GateHallsModel" "kinds" "[I", .fieldLink RX2 13 "GateHallsModel" "fees" "[I", .fieldLink RX2 16 "GateHallsModel" "gifts" "[I", .fieldLink RX2 19 "GateHallsModel" "passes" "[I", .fieldLink RX2 22 "GateHallsModel" "asks" "[I", .fieldLink RX2 25 "GateHallsModel" "paid" "[I", .fieldLink RX2 28 "GateHallsModel" "inside" "[I", .fieldLink RX2 31 "GateHallsModel" "mosts" "[I", .fieldLink RX2 34 "GateHallsModel" "places" "[I", .fieldLink RX2 37 "GateHallsModel" "parents" "[I", .fieldLink RX2 40 "GateHallsModel" "traced" "[I", .fieldLink RX2 43 "GateHallsModel" "row" "[I", .fieldLink RX2 46 "GateHallsModel" "path" "[I"] ++ wsX20)
def wsX2_in : List Cond := .code yX2_in cX2_in 3 (some .boolean) :: ([])
def wsX2_ten : List Cond := .code yX2_ten cX2_ten 2 (some .int) :: ([])
def wsX2_hall : List Cond := .code yX2_hall cX2_hall 4 (some .int) :: ([.fieldLink RX2 7 "GateHallsModel" "kinds" "[I", .fieldLink RX2 53 "GateHallsModel" "halls" "I", .fieldLink RX2 13 "GateHallsModel" "fees" "[I", .fieldLink RX2 34 "GateHallsModel" "places" "[I", .methodLink RX2 49 yX2_in, .static yX2_in, .initialized RX2, .code yX2_in cX2_in 3 (some .boolean)] ++ wsX20)
def wsX2_share : List Cond := .code yX2_share cX2_share 3 (some .int) :: ([.fieldLink RX2 34 "GateHallsModel" "places" "[I", .methodLink RX2 49 yX2_in, .static yX2_in, .initialized RX2, .code yX2_in cX2_in 3 (some .boolean)] ++ wsX20)
def wsX2_parent : List Cond := .code yX2_parent cX2_parent 4 (some .int) :: ([.fieldLink RX2 37 "GateHallsModel" "parents" "[I", .methodLink RX2 49 yX2_in, .static yX2_in, .initialized RX2, .code yX2_in cX2_in 3 (some .boolean)] ++ wsX20)
def wsX2_fill : List Cond := .code yX2_fill cX2_fill 2 (some .int) :: ([.fieldLink RX2 57 "GateHallsModel" "purse" "I", .constant RX2 60 (1000000), .methodLink RX2 49 yX2_in, .static yX2_in, .initialized RX2, .code yX2_in cX2_in 3 (some .boolean)] ++ wsX20)
def wsX2_leave : List Cond := .code yX2_leave cX2_leave 2 none :: ([.fieldLink RX2 61 "GateHallsModel" "traces" "I", .fieldLink RX2 40 "GateHallsModel" "traced" "[I"] ++ wsX20)
def wsX2_charge : List Cond := .code yX2_charge cX2_charge 2 (some .int) :: ([.fieldLink RX2 7 "GateHallsModel" "kinds" "[I", .fieldLink RX2 13 "GateHallsModel" "fees" "[I", .fieldLink RX2 19 "GateHallsModel" "passes" "[I"] ++ wsX20)
def wsX2_pass : List Cond := .code yX2_pass cX2_pass 2 (some .int) :: ([.fieldLink RX2 19 "GateHallsModel" "passes" "[I", .fieldLink RX2 28 "GateHallsModel" "inside" "[I", .fieldLink RX2 31 "GateHallsModel" "mosts" "[I", .fieldLink RX2 43 "GateHallsModel" "row" "[I", .fieldLink RX2 68 "GateHallsModel" "within" "I", .fieldLink RX2 71 "GateHallsModel" "deepest" "I", .fieldLink RX2 7 "GateHallsModel" "kinds" "[I", .fieldLink RX2 57 "GateHallsModel" "purse" "I", .fieldLink RX2 25 "GateHallsModel" "paid" "[I", .methodLink RX2 64 yX2_leave, .instanceMethod yX2_leave, .selects RX2 yX2_leave yX2_leave, .initialized RX2, .code yX2_leave cX2_leave 2 none, .fieldLink RX2 61 "GateHallsModel" "traces" "I", .fieldLink RX2 40 "GateHallsModel" "traced" "[I", .methodLink RX2 74 yX2_charge, .instanceMethod yX2_charge, .selects RX2 yX2_charge yX2_charge, .code yX2_charge cX2_charge 2 (some .int), .fieldLink RX2 13 "GateHallsModel" "fees" "[I"] ++ wsX20)
def wsX2_leaveTo : List Cond := .code yX2_leaveTo cX2_leaveTo 2 none :: ([.fieldLink RX2 68 "GateHallsModel" "within" "I", .fieldLink RX2 28 "GateHallsModel" "inside" "[I", .fieldLink RX2 43 "GateHallsModel" "row" "[I", .methodLink RX2 64 yX2_leave, .instanceMethod yX2_leave, .selects RX2 yX2_leave yX2_leave, .initialized RX2, .code yX2_leave cX2_leave 2 none, .fieldLink RX2 61 "GateHallsModel" "traces" "I", .fieldLink RX2 40 "GateHallsModel" "traced" "[I"] ++ wsX20)
def wsX2_goTo_r1 : List Cond := [Cond.fieldLink RX2 78 "GateHallsModel" "walks" "I", Cond.fieldLink RX2 46 "GateHallsModel" "path" "[I", Cond.fieldLink RX2 37 "GateHallsModel" "parents" "[I", Cond.fieldLink RX2 34 "GateHallsModel" "places" "[I", Cond.methodLink RX2 81 yX2_pass, Cond.instanceMethod yX2_pass, Cond.selects RX2 yX2_pass yX2_pass, Cond.initialized RX2, Cond.code yX2_pass cX2_pass 2 (some .int), Cond.fieldLink RX2 19 "GateHallsModel" "passes" "[I", Cond.fieldLink RX2 28 "GateHallsModel" "inside" "[I", Cond.fieldLink RX2 31 "GateHallsModel" "mosts" "[I", Cond.fieldLink RX2 43 "GateHallsModel" "row" "[I", Cond.fieldLink RX2 68 "GateHallsModel" "within" "I", Cond.fieldLink RX2 71 "GateHallsModel" "deepest" "I", Cond.fieldLink RX2 7 "GateHallsModel" "kinds" "[I", Cond.fieldLink RX2 57 "GateHallsModel" "purse" "I", Cond.fieldLink RX2 25 "GateHallsModel" "paid" "[I", Cond.methodLink RX2 64 yX2_leave, Cond.instanceMethod yX2_leave, Cond.selects RX2 yX2_leave yX2_leave, Cond.code yX2_leave cX2_leave 2 none, Cond.fieldLink RX2 61 "GateHallsModel" "traces" "I", Cond.fieldLink RX2 40 "GateHallsModel" "traced" "[I"]
def wsX2_goTo_r2 : List Cond := [Cond.methodLink RX2 74 yX2_charge, Cond.instanceMethod yX2_charge, Cond.selects RX2 yX2_charge yX2_charge, Cond.code yX2_charge cX2_charge 2 (some .int), Cond.fieldLink RX2 13 "GateHallsModel" "fees" "[I"]
def wsX2_goTo : List Cond := .code yX2_goTo cX2_goTo 7 (some .int) :: ((wsX2_goTo_r1 ++ wsX2_goTo_r2) ++ wsX20)
def wsX2_rich : List Cond := .code yX2_rich cX2_rich 5 (some .int) :: ([.fieldLink RX2 57 "GateHallsModel" "purse" "I", .constantLong RX2 84 (1000000)] ++ wsX20)
def wsX2_goesOn_r1 : List Cond := [Cond.fieldLink RX2 68 "GateHallsModel" "within" "I", Cond.methodLink RX2 86 yX2_ten, Cond.static yX2_ten, Cond.initialized RX2, Cond.code yX2_ten cX2_ten 2 (some .int), Cond.methodLink RX2 89 yX2_goTo, Cond.instanceMethod yX2_goTo, Cond.selects RX2 yX2_goTo yX2_goTo, Cond.code yX2_goTo cX2_goTo 7 (some .int), Cond.fieldLink RX2 78 "GateHallsModel" "walks" "I", Cond.fieldLink RX2 46 "GateHallsModel" "path" "[I", Cond.fieldLink RX2 37 "GateHallsModel" "parents" "[I", Cond.fieldLink RX2 34 "GateHallsModel" "places" "[I", Cond.methodLink RX2 81 yX2_pass, Cond.instanceMethod yX2_pass, Cond.selects RX2 yX2_pass yX2_pass, Cond.code yX2_pass cX2_pass 2 (some .int), Cond.fieldLink RX2 19 "GateHallsModel" "passes" "[I", Cond.fieldLink RX2 28 "GateHallsModel" "inside" "[I", Cond.fieldLink RX2 31 "GateHallsModel" "mosts" "[I", Cond.fieldLink RX2 43 "GateHallsModel" "row" "[I", Cond.fieldLink RX2 71 "GateHallsModel" "deepest" "I", Cond.fieldLink RX2 7 "GateHallsModel" "kinds" "[I", Cond.fieldLink RX2 57 "GateHallsModel" "purse" "I"]
def wsX2_goesOn_r2 : List Cond := [Cond.fieldLink RX2 25 "GateHallsModel" "paid" "[I", Cond.methodLink RX2 64 yX2_leave, Cond.instanceMethod yX2_leave, Cond.selects RX2 yX2_leave yX2_leave, Cond.code yX2_leave cX2_leave 2 none, Cond.fieldLink RX2 61 "GateHallsModel" "traces" "I", Cond.fieldLink RX2 40 "GateHallsModel" "traced" "[I", Cond.methodLink RX2 74 yX2_charge, Cond.instanceMethod yX2_charge, Cond.selects RX2 yX2_charge yX2_charge, Cond.code yX2_charge cX2_charge 2 (some .int), Cond.fieldLink RX2 13 "GateHallsModel" "fees" "[I", Cond.methodLink RX2 92 yX2_leaveTo, Cond.instanceMethod yX2_leaveTo, Cond.selects RX2 yX2_leaveTo yX2_leaveTo, Cond.code yX2_leaveTo cX2_leaveTo 2 none]
def wsX2_goesOn : List Cond := .code yX2_goesOn cX2_goesOn 7 (some .int) :: ((wsX2_goesOn_r1 ++ wsX2_goesOn_r2) ++ wsX20)
def wsX2_does_r1 : List Cond := [Cond.fieldLink RX2 43 "GateHallsModel" "row" "[I", Cond.fieldLink RX2 68 "GateHallsModel" "within" "I", Cond.fieldLink RX2 16 "GateHallsModel" "gifts" "[I", Cond.fieldLink RX2 34 "GateHallsModel" "places" "[I", Cond.methodLink RX2 95 yX2_rich, Cond.instanceMethod yX2_rich, Cond.selects RX2 yX2_rich yX2_rich, Cond.initialized RX2, Cond.code yX2_rich cX2_rich 5 (some .int), Cond.fieldLink RX2 57 "GateHallsModel" "purse" "I", Cond.constantLong RX2 84 (1000000), Cond.methodLink RX2 86 yX2_ten, Cond.static yX2_ten, Cond.code yX2_ten cX2_ten 2 (some .int), Cond.methodLink RX2 99 yX2_goesOn, Cond.instanceMethod yX2_goesOn, Cond.selects RX2 yX2_goesOn yX2_goesOn, Cond.code yX2_goesOn cX2_goesOn 7 (some .int), Cond.methodLink RX2 89 yX2_goTo, Cond.instanceMethod yX2_goTo, Cond.selects RX2 yX2_goTo yX2_goTo, Cond.code yX2_goTo cX2_goTo 7 (some .int), Cond.fieldLink RX2 78 "GateHallsModel" "walks" "I", Cond.fieldLink RX2 46 "GateHallsModel" "path" "[I"]
def wsX2_does_r2 : List Cond := [Cond.fieldLink RX2 37 "GateHallsModel" "parents" "[I", Cond.methodLink RX2 81 yX2_pass, Cond.instanceMethod yX2_pass, Cond.selects RX2 yX2_pass yX2_pass, Cond.code yX2_pass cX2_pass 2 (some .int), Cond.fieldLink RX2 19 "GateHallsModel" "passes" "[I", Cond.fieldLink RX2 28 "GateHallsModel" "inside" "[I", Cond.fieldLink RX2 31 "GateHallsModel" "mosts" "[I", Cond.fieldLink RX2 71 "GateHallsModel" "deepest" "I", Cond.fieldLink RX2 7 "GateHallsModel" "kinds" "[I", Cond.fieldLink RX2 25 "GateHallsModel" "paid" "[I", Cond.methodLink RX2 64 yX2_leave, Cond.instanceMethod yX2_leave, Cond.selects RX2 yX2_leave yX2_leave, Cond.code yX2_leave cX2_leave 2 none, Cond.fieldLink RX2 61 "GateHallsModel" "traces" "I", Cond.fieldLink RX2 40 "GateHallsModel" "traced" "[I", Cond.methodLink RX2 74 yX2_charge, Cond.instanceMethod yX2_charge, Cond.selects RX2 yX2_charge yX2_charge, Cond.code yX2_charge cX2_charge 2 (some .int), Cond.fieldLink RX2 13 "GateHallsModel" "fees" "[I", Cond.methodLink RX2 92 yX2_leaveTo, Cond.instanceMethod yX2_leaveTo]
def wsX2_does_r3 : List Cond := [Cond.selects RX2 yX2_leaveTo yX2_leaveTo, Cond.code yX2_leaveTo cX2_leaveTo 2 none]
def wsX2_does : List Cond := .code yX2_does cX2_does 4 (some .int) :: ((wsX2_does_r1 ++ (wsX2_does_r2 ++ wsX2_does_r3)) ++ wsX20)
def wsX2_walk_r1 : List Cond := [Cond.fieldLink RX2 61 "GateHallsModel" "traces" "I", Cond.fieldLink RX2 71 "GateHallsModel" "deepest" "I", Cond.fieldLink RX2 68 "GateHallsModel" "within" "I", Cond.fieldLink RX2 102 "GateHallsModel" "failure" "I", Cond.methodLink RX2 49 yX2_in, Cond.static yX2_in, Cond.initialized RX2, Cond.code yX2_in cX2_in 3 (some .boolean), Cond.methodLink RX2 89 yX2_goTo, Cond.instanceMethod yX2_goTo, Cond.selects RX2 yX2_goTo yX2_goTo, Cond.code yX2_goTo cX2_goTo 7 (some .int), Cond.fieldLink RX2 78 "GateHallsModel" "walks" "I", Cond.fieldLink RX2 46 "GateHallsModel" "path" "[I", Cond.fieldLink RX2 37 "GateHallsModel" "parents" "[I", Cond.fieldLink RX2 34 "GateHallsModel" "places" "[I", Cond.methodLink RX2 81 yX2_pass, Cond.instanceMethod yX2_pass, Cond.selects RX2 yX2_pass yX2_pass, Cond.code yX2_pass cX2_pass 2 (some .int), Cond.fieldLink RX2 19 "GateHallsModel" "passes" "[I", Cond.fieldLink RX2 28 "GateHallsModel" "inside" "[I", Cond.fieldLink RX2 31 "GateHallsModel" "mosts" "[I", Cond.fieldLink RX2 43 "GateHallsModel" "row" "[I"]
def wsX2_walk_r2 : List Cond := [Cond.fieldLink RX2 7 "GateHallsModel" "kinds" "[I", Cond.fieldLink RX2 57 "GateHallsModel" "purse" "I", Cond.fieldLink RX2 25 "GateHallsModel" "paid" "[I", Cond.methodLink RX2 64 yX2_leave, Cond.instanceMethod yX2_leave, Cond.selects RX2 yX2_leave yX2_leave, Cond.code yX2_leave cX2_leave 2 none, Cond.fieldLink RX2 40 "GateHallsModel" "traced" "[I", Cond.methodLink RX2 74 yX2_charge, Cond.instanceMethod yX2_charge, Cond.selects RX2 yX2_charge yX2_charge, Cond.code yX2_charge cX2_charge 2 (some .int), Cond.fieldLink RX2 13 "GateHallsModel" "fees" "[I", Cond.methodLink RX2 105 yX2_does, Cond.instanceMethod yX2_does, Cond.selects RX2 yX2_does yX2_does, Cond.code yX2_does cX2_does 4 (some .int), Cond.fieldLink RX2 16 "GateHallsModel" "gifts" "[I", Cond.methodLink RX2 95 yX2_rich, Cond.instanceMethod yX2_rich, Cond.selects RX2 yX2_rich yX2_rich, Cond.code yX2_rich cX2_rich 5 (some .int), Cond.constantLong RX2 84 (1000000), Cond.methodLink RX2 86 yX2_ten]
def wsX2_walk_r3 : List Cond := [Cond.static yX2_ten, Cond.code yX2_ten cX2_ten 2 (some .int), Cond.methodLink RX2 99 yX2_goesOn, Cond.instanceMethod yX2_goesOn, Cond.selects RX2 yX2_goesOn yX2_goesOn, Cond.code yX2_goesOn cX2_goesOn 7 (some .int), Cond.methodLink RX2 92 yX2_leaveTo, Cond.instanceMethod yX2_leaveTo, Cond.selects RX2 yX2_leaveTo yX2_leaveTo, Cond.code yX2_leaveTo cX2_leaveTo 2 none]
def wsX2_walk : List Cond := .code yX2_walk cX2_walk 4 (some .int) :: ((wsX2_walk_r1 ++ (wsX2_walk_r2 ++ wsX2_walk_r3)) ++ wsX20)
def wsX2_seek : List Cond := .code yX2_seek cX2_seek 8 (some .int) :: ([.fieldLink RX2 34 "GateHallsModel" "places" "[I", .fieldLink RX2 22 "GateHallsModel" "asks" "[I", .fieldLink RX2 16 "GateHallsModel" "gifts" "[I"] ++ wsX20)
def wsX2_told : List Cond := .code yX2_told cX2_told 4 (some .int) :: ([.fieldLink RX2 34 "GateHallsModel" "places" "[I", .fieldLink RX2 7 "GateHallsModel" "kinds" "[I", .fieldLink RX2 13 "GateHallsModel" "fees" "[I", .fieldLink RX2 19 "GateHallsModel" "passes" "[I", .fieldLink RX2 22 "GateHallsModel" "asks" "[I", .fieldLink RX2 25 "GateHallsModel" "paid" "[I", .fieldLink RX2 28 "GateHallsModel" "inside" "[I", .fieldLink RX2 31 "GateHallsModel" "mosts" "[I", .methodLink RX2 49 yX2_in, .static yX2_in, .initialized RX2, .code yX2_in cX2_in 3 (some .boolean)] ++ wsX20)
def wsX2_gifts : List Cond := .code yX2_gifts cX2_gifts 2 (some .int) :: ([.fieldLink RX2 34 "GateHallsModel" "places" "[I", .fieldLink RX2 16 "GateHallsModel" "gifts" "[I", .methodLink RX2 49 yX2_in, .static yX2_in, .initialized RX2, .code yX2_in cX2_in 3 (some .boolean)] ++ wsX20)
def wsX2_trace : List Cond := .code yX2_trace cX2_trace 2 (some .int) :: ([.fieldLink RX2 61 "GateHallsModel" "traces" "I", .fieldLink RX2 40 "GateHallsModel" "traced" "[I", .methodLink RX2 49 yX2_in, .static yX2_in, .initialized RX2, .code yX2_in cX2_in 3 (some .boolean)] ++ wsX20)
def wsX2_count : List Cond := .code yX2_count cX2_count 4 (some .int) :: ([.fieldLink RX2 57 "GateHallsModel" "purse" "I", .fieldLink RX2 53 "GateHallsModel" "halls" "I", .fieldLink RX2 34 "GateHallsModel" "places" "[I", .fieldLink RX2 102 "GateHallsModel" "failure" "I", .fieldLink RX2 78 "GateHallsModel" "walks" "I", .fieldLink RX2 71 "GateHallsModel" "deepest" "I"] ++ wsX20)
def wsJ9_max_7cf53 : List Cond := .code yJ9_max_7cf53 cJ9_max_7cf53 2 (some .int) :: ([])
def wsJ9_min_7cf53 : List Cond := .code yJ9_min_7cf53 cJ9_min_7cf53 2 (some .int) :: ([])
def wsL_law_r1 : List Cond := [Cond.classLink RL 7 RX1, Cond.instantiable RX1 12, Cond.initialized RX1, Cond.classLink RL 10 RX2, Cond.instantiable RX2 20, Cond.initialized RX2, Cond.constantLong RL 36 (4294967295), Cond.methodLink RL 9 yX1_init, Cond.instanceMethod yX1_init, Cond.code yX1_init cX1_init 1 none, Cond.methodLink RX1 1 objectInit, Cond.instanceMethod objectInit, Cond.code objectInit ⟨#[0xb1]⟩ 1 none, Cond.classLink RX1 9 RX0, Cond.fieldLink RX1 11 "GateHalls" "halls" "[LGateHalls$Hall;", Cond.arrayClass .int, Cond.fieldLink RX1 15 "GateHalls" "parents" "[I", Cond.fieldLink RX1 19 "GateHalls" "path" "[I", Cond.fieldLink RX1 22 "GateHalls" "passed" "[LGateHalls$Hall;", Cond.fieldLink RX1 25 "GateHalls" "marks" "[I", Cond.methodLink RX1 28 yJ7_fill_53178, Cond.static yJ7_fill_53178, Cond.initialized RJ7, Cond.code yJ7_fill_53178 cJ7_fill_53178 4 none]
def wsL_law_r2 : List Cond := [Cond.methodLink RL 12 yX2_init, Cond.instanceMethod yX2_init, Cond.code yX2_init cX2_init 1 none, Cond.methodLink RX2 1 objectInit, Cond.fieldLink RX2 7 "GateHallsModel" "kinds" "[I", Cond.fieldLink RX2 13 "GateHallsModel" "fees" "[I", Cond.fieldLink RX2 16 "GateHallsModel" "gifts" "[I", Cond.fieldLink RX2 19 "GateHallsModel" "passes" "[I", Cond.fieldLink RX2 22 "GateHallsModel" "asks" "[I", Cond.fieldLink RX2 25 "GateHallsModel" "paid" "[I", Cond.fieldLink RX2 28 "GateHallsModel" "inside" "[I", Cond.fieldLink RX2 31 "GateHallsModel" "mosts" "[I", Cond.fieldLink RX2 34 "GateHallsModel" "places" "[I", Cond.fieldLink RX2 37 "GateHallsModel" "parents" "[I", Cond.fieldLink RX2 40 "GateHallsModel" "traced" "[I", Cond.fieldLink RX2 43 "GateHallsModel" "row" "[I", Cond.fieldLink RX2 46 "GateHallsModel" "path" "[I", Cond.methodLink RL 13 yX1_hall, Cond.instanceMethod yX1_hall, Cond.selects RX1 yX1_hall yX1_hall, Cond.code yX1_hall cX1_hall 5 (some .int), Cond.fieldLink RX1 38 "GateHalls" "hallsMade" "I", Cond.instantiable RX0 9, Cond.initialized RX0]
def wsL_law_r3 : List Cond := [Cond.methodLink RX1 34 yX1_isPlace, Cond.static yX1_isPlace, Cond.code yX1_isPlace cX1_isPlace 1 (some .boolean), Cond.instanceMethod yX0_init, Cond.code yX0_init cX0_init 4 none, Cond.methodLink RX0 3 objectInit, Cond.fieldLink RX0 9 "GateHalls$Hall" "number" "I", Cond.fieldLink RX0 15 "GateHalls$Hall" "kind" "I", Cond.fieldLink RX0 18 "GateHalls$Hall" "fee" "I", Cond.methodLink RL 17 yX2_hall, Cond.instanceMethod yX2_hall, Cond.selects RX2 yX2_hall yX2_hall, Cond.code yX2_hall cX2_hall 4 (some .int), Cond.fieldLink RX2 53 "GateHallsModel" "halls" "I", Cond.methodLink RX2 49 yX2_in, Cond.static yX2_in, Cond.code yX2_in cX2_in 3 (some .boolean), Cond.methodLink RL 18 yX1_share, Cond.instanceMethod yX1_share, Cond.selects RX1 yX1_share yX1_share, Cond.code yX1_share cX1_share 3 (some .int), Cond.methodLink RL 22 yX2_share, Cond.instanceMethod yX2_share, Cond.selects RX2 yX2_share yX2_share]
def wsL_law_r4 : List Cond := [Cond.code yX2_share cX2_share 3 (some .int), Cond.methodLink RL 23 yX1_parent, Cond.instanceMethod yX1_parent, Cond.selects RX1 yX1_parent yX1_parent, Cond.code yX1_parent cX1_parent 4 (some .int), Cond.methodLink RL 26 yX2_parent, Cond.instanceMethod yX2_parent, Cond.selects RX2 yX2_parent yX2_parent, Cond.code yX2_parent cX2_parent 4 (some .int), Cond.methodLink RL 27 yX1_fill, Cond.instanceMethod yX1_fill, Cond.selects RX1 yX1_fill yX1_fill, Cond.code yX1_fill cX1_fill 2 (some .int), Cond.fieldLink RX1 45 "GateHalls" "purse" "I", Cond.constant RX1 48 (1000000), Cond.methodLink RX1 49 Lib.Math.min.name, Cond.static Lib.Math.min.name, Cond.initialized "java/lang/Math", Cond.code Lib.Math.min.name Lib.Math.min.code 2 (some .int), Cond.methodLink RL 31 yX2_fill, Cond.instanceMethod yX2_fill, Cond.selects RX2 yX2_fill yX2_fill, Cond.code yX2_fill cX2_fill 2 (some .int), Cond.fieldLink RX2 57 "GateHallsModel" "purse" "I"]
def wsL_law_r5 : List Cond := [Cond.constant RX2 60 (1000000), Cond.methodLink RL 32 yX1_walk, Cond.instanceMethod yX1_walk, Cond.selects RX1 yX1_walk yX1_walk, Cond.code yX1_walk cX1_walk 4 (some .int), Cond.fieldLink RX1 55 "GateHalls" "marksLeft" "I", Cond.fieldLink RX1 58 "GateHalls" "deepest" "I", Cond.fieldLink RX1 65 "GateHalls" "latestFailure" "I", Cond.methodLink RX1 61 yX1_walkTo, Cond.instanceMethod yX1_walkTo, Cond.selects RX1 yX1_walkTo yX1_walkTo, Cond.code yX1_walkTo cX1_walkTo 8 (some .int), Cond.fieldLink RX1 90 "GateHalls" "walksBegun" "I", Cond.fieldLink RX1 96 "GateHalls" "depth" "I", Cond.methodLink RX1 93 yX1_findPath, Cond.instanceMethod yX1_findPath, Cond.selects RX1 yX1_findPath yX1_findPath, Cond.code yX1_findPath cX1_findPath 4 (some .int), Cond.methodLink RX1 99 yX1_passPath, Cond.instanceMethod yX1_passPath, Cond.selects RX1 yX1_passPath yX1_passPath, Cond.code yX1_passPath cX1_passPath 5 (some .int), Cond.methodLink RX1 75 yX1_hallAt, Cond.instanceMethod yX1_hallAt]
def wsL_law_r6 : List Cond := [Cond.selects RX1 yX1_hallAt yX1_hallAt, Cond.code yX1_hallAt cX1_hallAt 2 (some (.object "GateHalls$Hall")), Cond.methodLink RX1 110 yX1_passInto, Cond.instanceMethod yX1_passInto, Cond.selects RX1 yX1_passInto yX1_passInto, Cond.code yX1_passInto cX1_passInto 3 (some .int), Cond.methodLink RX1 117 Lib.Math.max.name, Cond.static Lib.Math.max.name, Cond.code Lib.Math.max.name Lib.Math.max.code 2 (some .int), Cond.instanceMethod yX0_enter, Cond.selects RX0 yX0_enter yX0_enter, Cond.code yX0_enter cX0_enter 1 none, Cond.fieldLink RX0 21 "GateHalls$Hall" "passes" "I", Cond.fieldLink RX0 24 "GateHalls$Hall" "inside" "I", Cond.fieldLink RX0 27 "GateHalls$Hall" "most" "I", Cond.methodLink RX0 30 Lib.Math.max.name, Cond.instanceMethod yX0_mark, Cond.selects RX0 yX0_mark yX0_mark, Cond.code yX0_mark cX0_mark 1 (some .int), Cond.methodLink RX1 123 yX1_leaveMark, Cond.instanceMethod yX1_leaveMark, Cond.selects RX1 yX1_leaveMark yX1_leaveMark, Cond.code yX1_leaveMark cX1_leaveMark 2 none, Cond.instanceMethod yX0_guardIsInTheWay]
def wsL_law_r7 : List Cond := [Cond.selects RX0 yX0_guardIsInTheWay yX0_guardIsInTheWay, Cond.code yX0_guardIsInTheWay cX0_guardIsInTheWay 1 (some .boolean), Cond.instanceMethod yX0_charge, Cond.selects RX0 yX0_charge yX0_charge, Cond.code yX0_charge cX0_charge 2 (some .int), Cond.methodLink RX1 102 yX1_doDeed, Cond.instanceMethod yX1_doDeed, Cond.selects RX1 yX1_doDeed yX1_doDeed, Cond.methodLink RX1 106 yX1_leaveUntil, Cond.instanceMethod yX1_leaveUntil, Cond.selects RX1 yX1_leaveUntil yX1_leaveUntil, Cond.code yX1_leaveUntil cX1_leaveUntil 3 none, Cond.code yX1_doDeed cX1_doDeed 5 (some .int), Cond.methodLink RX1 139 yX1_innermost, Cond.instanceMethod yX1_innermost, Cond.selects RX1 yX1_innermost yX1_innermost, Cond.code yX1_innermost cX1_innermost 1 (some (.object "GateHalls$Hall")), Cond.methodLink RX1 143 yX1_takeGifts, Cond.instanceMethod yX1_takeGifts, Cond.selects RX1 yX1_takeGifts yX1_takeGifts, Cond.code yX1_takeGifts cX1_takeGifts 3 (some .int), Cond.methodLink RX1 156 yX1_addToPurse, Cond.instanceMethod yX1_addToPurse, Cond.selects RX1 yX1_addToPurse yX1_addToPurse]
def wsL_law_r8 : List Cond := [Cond.code yX1_addToPurse cX1_addToPurse 4 (some .int), Cond.constantLong RX1 159 (1000000), Cond.methodLink RX1 146 yX1_divideGifts, Cond.static yX1_divideGifts, Cond.code yX1_divideGifts cX1_divideGifts 2 (some .int), Cond.methodLink RX1 150 yJ9_floorMod_7cf53, Cond.static yJ9_floorMod_7cf53, Cond.initialized RJ9, Cond.code yJ9_floorMod_7cf53 cJ9_floorMod_7cf53 3 (some .int), Cond.methodLink RX1 153 yX1_walkOn, Cond.instanceMethod yX1_walkOn, Cond.selects RX1 yX1_walkOn yX1_walkOn, Cond.code yX1_walkOn cX1_walkOn 4 (some .int), Cond.methodLink RL 35 yX2_walk, Cond.instanceMethod yX2_walk, Cond.selects RX2 yX2_walk yX2_walk, Cond.code yX2_walk cX2_walk 4 (some .int), Cond.fieldLink RX2 61 "GateHallsModel" "traces" "I", Cond.fieldLink RX2 71 "GateHallsModel" "deepest" "I", Cond.fieldLink RX2 68 "GateHallsModel" "within" "I", Cond.fieldLink RX2 102 "GateHallsModel" "failure" "I", Cond.methodLink RX2 89 yX2_goTo, Cond.instanceMethod yX2_goTo, Cond.selects RX2 yX2_goTo yX2_goTo]
def wsL_law_r9 : List Cond := [Cond.code yX2_goTo cX2_goTo 7 (some .int), Cond.fieldLink RX2 78 "GateHallsModel" "walks" "I", Cond.methodLink RX2 81 yX2_pass, Cond.instanceMethod yX2_pass, Cond.selects RX2 yX2_pass yX2_pass, Cond.code yX2_pass cX2_pass 2 (some .int), Cond.methodLink RX2 64 yX2_leave, Cond.instanceMethod yX2_leave, Cond.selects RX2 yX2_leave yX2_leave, Cond.code yX2_leave cX2_leave 2 none, Cond.methodLink RX2 74 yX2_charge, Cond.instanceMethod yX2_charge, Cond.selects RX2 yX2_charge yX2_charge, Cond.code yX2_charge cX2_charge 2 (some .int), Cond.methodLink RX2 105 yX2_does, Cond.instanceMethod yX2_does, Cond.selects RX2 yX2_does yX2_does, Cond.code yX2_does cX2_does 4 (some .int), Cond.methodLink RX2 95 yX2_rich, Cond.instanceMethod yX2_rich, Cond.selects RX2 yX2_rich yX2_rich, Cond.code yX2_rich cX2_rich 5 (some .int), Cond.constantLong RX2 84 (1000000), Cond.methodLink RX2 86 yX2_ten]
def wsL_law_r10 : List Cond := [Cond.static yX2_ten, Cond.code yX2_ten cX2_ten 2 (some .int), Cond.methodLink RX2 99 yX2_goesOn, Cond.instanceMethod yX2_goesOn, Cond.selects RX2 yX2_goesOn yX2_goesOn, Cond.code yX2_goesOn cX2_goesOn 7 (some .int), Cond.methodLink RX2 92 yX2_leaveTo, Cond.instanceMethod yX2_leaveTo, Cond.selects RX2 yX2_leaveTo yX2_leaveTo, Cond.code yX2_leaveTo cX2_leaveTo 2 none, Cond.methodLink RL 38 yX1_seek, Cond.instanceMethod yX1_seek, Cond.selects RX1 yX1_seek yX1_seek, Cond.code yX1_seek cX1_seek 6 (some .int), Cond.methodLink RX1 71 yX1_seekPartner, Cond.instanceMethod yX1_seekPartner, Cond.selects RX1 yX1_seekPartner yX1_seekPartner, Cond.code yX1_seekPartner cX1_seekPartner 7 (some .int), Cond.methodLink RL 42 yX2_seek, Cond.instanceMethod yX2_seek, Cond.selects RX2 yX2_seek yX2_seek, Cond.code yX2_seek cX2_seek 8 (some .int), Cond.methodLink RL 43 yX1_told, Cond.instanceMethod yX1_told]
def wsL_law_r11 : List Cond := [Cond.selects RX1 yX1_told yX1_told, Cond.code yX1_told cX1_told 4 (some .int), Cond.instanceMethod yX0_fact, Cond.selects RX0 yX0_fact yX0_fact, Cond.code yX0_fact cX0_fact 2 (some .int), Cond.fieldLink RX0 36 "GateHalls$Hall" "asks" "I", Cond.fieldLink RX0 39 "GateHalls$Hall" "paid" "I", Cond.methodLink RL 46 yX2_told, Cond.instanceMethod yX2_told, Cond.selects RX2 yX2_told yX2_told, Cond.code yX2_told cX2_told 4 (some .int), Cond.methodLink RL 47 yX1_gifts, Cond.instanceMethod yX1_gifts, Cond.selects RX1 yX1_gifts yX1_gifts, Cond.code yX1_gifts cX1_gifts 3 (some .int), Cond.methodLink RL 50 yX2_gifts, Cond.instanceMethod yX2_gifts, Cond.selects RX2 yX2_gifts yX2_gifts, Cond.code yX2_gifts cX2_gifts 2 (some .int), Cond.methodLink RL 51 yX1_trace, Cond.instanceMethod yX1_trace, Cond.selects RX1 yX1_trace yX1_trace, Cond.code yX1_trace cX1_trace 2 (some .int), Cond.methodLink RL 54 yX2_trace]
def wsL_law_r12 : List Cond := [Cond.instanceMethod yX2_trace, Cond.selects RX2 yX2_trace yX2_trace, Cond.code yX2_trace cX2_trace 2 (some .int), Cond.methodLink RL 55 yX1_count, Cond.instanceMethod yX1_count, Cond.selects RX1 yX1_count yX1_count, Cond.code yX1_count cX1_count 2 (some .int), Cond.methodLink RX1 86 yX1_placesWithHall, Cond.instanceMethod yX1_placesWithHall, Cond.selects RX1 yX1_placesWithHall yX1_placesWithHall, Cond.code yX1_placesWithHall cX1_placesWithHall 3 (some .int), Cond.methodLink RL 58 yX2_count, Cond.instanceMethod yX2_count, Cond.selects RX2 yX2_count yX2_count, Cond.code yX2_count cX2_count 4 (some .int)]
def wsL_law : List Cond := (wsL_law_r1 ++ (wsL_law_r2 ++ (wsL_law_r3 ++ (wsL_law_r4 ++ (wsL_law_r5 ++ (wsL_law_r6 ++ (wsL_law_r7 ++ (wsL_law_r8 ++ (wsL_law_r9 ++ (wsL_law_r10 ++ (wsL_law_r11 ++ wsL_law_r12))))))))))) ++ wsX10 ++ wsX20 ++ wsX00 ++ ([] : List Cond)
set_option maxRecDepth 20000 in
theorem wsL_law_in : ∀ w ∈ wsL_law, w ∈ lw_tbl := fun w h => (goodIn_p wsL_law [37, 40, 45, 258, 87, 90, 94, 324, 327, 130, 331, 134, 335, 138, 142, 339, 146, 150, 154, 158, 162, 166, 173, 170, 178, 182, 186, 190, 221, 194, 198, 202, 206, 210, 213, 217, 344, 348, 352, 356, 360, 364, 368, 372, 376, 380, 225, 229, 384, 233, 237, 388, 241, 392, 245, 396, 249, 253, 400] (by decide +kernel) (by decide +kernel) w h).1
theorem inlX0 : ∀ w ∈ wsX00, w ∈ wsL_law := fun _ h => List.mem_append_left _ (List.mem_append_right _ h)
theorem inX0 : ∀ w ∈ wsX00, w ∈ lw_tbl := fun w h => wsL_law_in w (inlX0 w h)
theorem inlX1 : ∀ w ∈ wsX10, w ∈ wsL_law := fun _ h => List.mem_append_left _ (List.mem_append_left _ (List.mem_append_left _ (List.mem_append_right _ h)))
theorem inX1 : ∀ w ∈ wsX10, w ∈ lw_tbl := fun w h => wsL_law_in w (inlX1 w h)
theorem inlX2 : ∀ w ∈ wsX20, w ∈ wsL_law := fun _ h => List.mem_append_left _ (List.mem_append_left _ (List.mem_append_right _ h))
theorem inX2 : ∀ w ∈ wsX20, w ∈ lw_tbl := fun w h => wsL_law_in w (inlX2 w h)
theorem inJ9 : ∀ w ∈ wsJ90, w ∈ lw_tbl := by decide +kernel
theorem inJ7 : ∀ w ∈ wsJ70, w ∈ lw_tbl := by decide +kernel
theorem dX0_init_0 : decode cX0_init 0 = .ok (.aload_n 0, 1) := by decide +kernel
theorem dX0_init_1 : decode cX0_init 1 = .ok (.invokespecial 3, 3) := by decide +kernel
theorem dX0_init_4 : decode cX0_init 4 = .ok (.aload_n 0, 1) := by decide +kernel
theorem dX0_init_5 : decode cX0_init 5 = .ok (.iload_n 1, 1) := by decide +kernel
theorem dX0_init_6 : decode cX0_init 6 = .ok (.putfield 9, 3) := by decide +kernel
theorem dX0_init_9 : decode cX0_init 9 = .ok (.aload_n 0, 1) := by decide +kernel
theorem dX0_init_10 : decode cX0_init 10 = .ok (.iload_n 2, 1) := by decide +kernel
theorem dX0_init_11 : decode cX0_init 11 = .ok (.putfield 15, 3) := by decide +kernel
theorem dX0_init_14 : decode cX0_init 14 = .ok (.aload_n 0, 1) := by decide +kernel
theorem dX0_init_15 : decode cX0_init 15 = .ok (.iload_n 3, 1) := by decide +kernel
theorem dX0_init_16 : decode cX0_init 16 = .ok (.putfield 18, 3) := by decide +kernel
theorem dX0_init_19 : decode cX0_init 19 = .ok (.return_, 1) := by decide +kernel
theorem dX0_enter_0 : decode cX0_enter 0 = .ok (.aload_n 0, 1) := by decide +kernel
theorem dX0_enter_1 : decode cX0_enter 1 = .ok (.dup, 1) := by decide +kernel
theorem dX0_enter_2 : decode cX0_enter 2 = .ok (.getfield 21, 3) := by decide +kernel
theorem dX0_enter_5 : decode cX0_enter 5 = .ok (.iconst 1, 1) := by decide +kernel
theorem dX0_enter_6 : decode cX0_enter 6 = .ok (.iadd, 1) := by decide +kernel
theorem dX0_enter_7 : decode cX0_enter 7 = .ok (.putfield 21, 3) := by decide +kernel
theorem dX0_enter_10 : decode cX0_enter 10 = .ok (.aload_n 0, 1) := by decide +kernel
theorem dX0_enter_11 : decode cX0_enter 11 = .ok (.dup, 1) := by decide +kernel
theorem dX0_enter_12 : decode cX0_enter 12 = .ok (.getfield 24, 3) := by decide +kernel
theorem dX0_enter_15 : decode cX0_enter 15 = .ok (.iconst 1, 1) := by decide +kernel
theorem dX0_enter_16 : decode cX0_enter 16 = .ok (.iadd, 1) := by decide +kernel
theorem dX0_enter_17 : decode cX0_enter 17 = .ok (.putfield 24, 3) := by decide +kernel
theorem dX0_enter_20 : decode cX0_enter 20 = .ok (.aload_n 0, 1) := by decide +kernel
theorem dX0_enter_21 : decode cX0_enter 21 = .ok (.aload_n 0, 1) := by decide +kernel
theorem dX0_enter_22 : decode cX0_enter 22 = .ok (.getfield 27, 3) := by decide +kernel
theorem dX0_enter_25 : decode cX0_enter 25 = .ok (.aload_n 0, 1) := by decide +kernel
theorem dX0_enter_26 : decode cX0_enter 26 = .ok (.getfield 24, 3) := by decide +kernel
theorem dX0_enter_29 : decode cX0_enter 29 = .ok (.invokestatic 30, 3) := by decide +kernel
theorem dX0_enter_32 : decode cX0_enter 32 = .ok (.putfield 27, 3) := by decide +kernel
theorem dX0_enter_35 : decode cX0_enter 35 = .ok (.return_, 1) := by decide +kernel
theorem dX0_guardIsInTheWay_0 : decode cX0_guardIsInTheWay 0 = .ok (.aload_n 0, 1) := by decide +kernel
theorem dX0_guardIsInTheWay_1 : decode cX0_guardIsInTheWay 1 = .ok (.getfield 15, 3) := by decide +kernel
theorem dX0_guardIsInTheWay_4 : decode cX0_guardIsInTheWay 4 = .ok (.iconst 2, 1) := by decide +kernel
theorem dX0_guardIsInTheWay_5 : decode cX0_guardIsInTheWay 5 = .ok (.if_icmp .ne 16, 3) := by decide +kernel
theorem dX0_guardIsInTheWay_8 : decode cX0_guardIsInTheWay 8 = .ok (.aload_n 0, 1) := by decide +kernel
theorem dX0_guardIsInTheWay_9 : decode cX0_guardIsInTheWay 9 = .ok (.getfield 21, 3) := by decide +kernel
theorem dX0_guardIsInTheWay_12 : decode cX0_guardIsInTheWay 12 = .ok (.iconst 3, 1) := by decide +kernel
theorem dX0_guardIsInTheWay_13 : decode cX0_guardIsInTheWay 13 = .ok (.irem, 1) := by decide +kernel
theorem dX0_guardIsInTheWay_14 : decode cX0_guardIsInTheWay 14 = .ok (.ifCond .ne 7, 3) := by decide +kernel
theorem dX0_guardIsInTheWay_17 : decode cX0_guardIsInTheWay 17 = .ok (.iconst 1, 1) := by decide +kernel
theorem dX0_guardIsInTheWay_18 : decode cX0_guardIsInTheWay 18 = .ok (.goto 4, 3) := by decide +kernel
theorem dX0_guardIsInTheWay_21 : decode cX0_guardIsInTheWay 21 = .ok (.iconst 0, 1) := by decide +kernel
theorem dX0_guardIsInTheWay_22 : decode cX0_guardIsInTheWay 22 = .ok (.ireturn, 1) := by decide +kernel
theorem dX0_charge_0 : decode cX0_charge 0 = .ok (.aload_n 0, 1) := by decide +kernel
theorem dX0_charge_1 : decode cX0_charge 1 = .ok (.getfield 15, 3) := by decide +kernel
theorem dX0_charge_4 : decode cX0_charge 4 = .ok (.ifCond .ne 8, 3) := by decide +kernel
theorem dX0_charge_7 : decode cX0_charge 7 = .ok (.aload_n 0, 1) := by decide +kernel
theorem dX0_charge_8 : decode cX0_charge 8 = .ok (.getfield 18, 3) := by decide +kernel
theorem dX0_charge_11 : decode cX0_charge 11 = .ok (.ireturn, 1) := by decide +kernel
theorem dX0_charge_12 : decode cX0_charge 12 = .ok (.aload_n 0, 1) := by decide +kernel
theorem dX0_charge_13 : decode cX0_charge 13 = .ok (.getfield 18, 3) := by decide +kernel
theorem dX0_charge_16 : decode cX0_charge 16 = .ok (.aload_n 0, 1) := by decide +kernel
theorem dX0_charge_17 : decode cX0_charge 17 = .ok (.getfield 21, 3) := by decide +kernel
theorem dX0_charge_20 : decode cX0_charge 20 = .ok (.iadd, 1) := by decide +kernel
theorem dX0_charge_21 : decode cX0_charge 21 = .ok (.istore_n 1, 1) := by decide +kernel
theorem dX0_charge_22 : decode cX0_charge 22 = .ok (.aload_n 0, 1) := by decide +kernel
theorem dX0_charge_23 : decode cX0_charge 23 = .ok (.getfield 15, 3) := by decide +kernel
theorem dX0_charge_26 : decode cX0_charge 26 = .ok (.iconst 2, 1) := by decide +kernel
theorem dX0_charge_27 : decode cX0_charge 27 = .ok (.if_icmp .ne 9, 3) := by decide +kernel
theorem dX0_charge_30 : decode cX0_charge 30 = .ok (.iconst 2, 1) := by decide +kernel
theorem dX0_charge_31 : decode cX0_charge 31 = .ok (.iload_n 1, 1) := by decide +kernel
theorem dX0_charge_32 : decode cX0_charge 32 = .ok (.imul, 1) := by decide +kernel
theorem dX0_charge_33 : decode cX0_charge 33 = .ok (.goto 4, 3) := by decide +kernel
theorem dX0_charge_36 : decode cX0_charge 36 = .ok (.iload_n 1, 1) := by decide +kernel
theorem dX0_charge_37 : decode cX0_charge 37 = .ok (.ireturn, 1) := by decide +kernel
theorem dX0_mark_0 : decode cX0_mark 0 = .ok (.aload_n 0, 1) := by decide +kernel
theorem dX0_mark_1 : decode cX0_mark 1 = .ok (.getfield 9, 3) := by decide +kernel
theorem dX0_mark_4 : decode cX0_mark 4 = .ok (.bipush 100, 2) := by decide +kernel
theorem dX0_mark_6 : decode cX0_mark 6 = .ok (.irem, 1) := by decide +kernel
theorem dX0_mark_7 : decode cX0_mark 7 = .ok (.ireturn, 1) := by decide +kernel
theorem dX0_fact_0 : decode cX0_fact 0 = .ok (.iload_n 1, 1) := by decide +kernel
theorem dX0_fact_1 : decode cX0_fact 1 = .ok (.tableswitch 87 0 7 #[47, 52, 57, 62, 67, 72, 77, 82], 47) := by decide +kernel
theorem dX0_fact_48 : decode cX0_fact 48 = .ok (.aload_n 0, 1) := by decide +kernel
theorem dX0_fact_49 : decode cX0_fact 49 = .ok (.getfield 9, 3) := by decide +kernel
theorem dX0_fact_52 : decode cX0_fact 52 = .ok (.ireturn, 1) := by decide +kernel
theorem dX0_fact_53 : decode cX0_fact 53 = .ok (.aload_n 0, 1) := by decide +kernel
theorem dX0_fact_54 : decode cX0_fact 54 = .ok (.getfield 15, 3) := by decide +kernel
theorem dX0_fact_57 : decode cX0_fact 57 = .ok (.ireturn, 1) := by decide +kernel
theorem dX0_fact_58 : decode cX0_fact 58 = .ok (.aload_n 0, 1) := by decide +kernel
theorem dX0_fact_59 : decode cX0_fact 59 = .ok (.getfield 18, 3) := by decide +kernel
theorem dX0_fact_62 : decode cX0_fact 62 = .ok (.ireturn, 1) := by decide +kernel
theorem dX0_fact_63 : decode cX0_fact 63 = .ok (.aload_n 0, 1) := by decide +kernel
theorem dX0_fact_64 : decode cX0_fact 64 = .ok (.getfield 21, 3) := by decide +kernel
theorem dX0_fact_67 : decode cX0_fact 67 = .ok (.ireturn, 1) := by decide +kernel
theorem dX0_fact_68 : decode cX0_fact 68 = .ok (.aload_n 0, 1) := by decide +kernel
theorem dX0_fact_69 : decode cX0_fact 69 = .ok (.getfield 36, 3) := by decide +kernel
theorem dX0_fact_72 : decode cX0_fact 72 = .ok (.ireturn, 1) := by decide +kernel
theorem dX0_fact_73 : decode cX0_fact 73 = .ok (.aload_n 0, 1) := by decide +kernel
theorem dX0_fact_74 : decode cX0_fact 74 = .ok (.getfield 39, 3) := by decide +kernel
theorem dX0_fact_77 : decode cX0_fact 77 = .ok (.ireturn, 1) := by decide +kernel
theorem dX0_fact_78 : decode cX0_fact 78 = .ok (.aload_n 0, 1) := by decide +kernel
theorem dX0_fact_79 : decode cX0_fact 79 = .ok (.getfield 24, 3) := by decide +kernel
theorem dX0_fact_82 : decode cX0_fact 82 = .ok (.ireturn, 1) := by decide +kernel
theorem dX0_fact_83 : decode cX0_fact 83 = .ok (.aload_n 0, 1) := by decide +kernel
theorem dX0_fact_84 : decode cX0_fact 84 = .ok (.getfield 27, 3) := by decide +kernel
theorem dX0_fact_87 : decode cX0_fact 87 = .ok (.ireturn, 1) := by decide +kernel
theorem dX0_fact_88 : decode cX0_fact 88 = .ok (.iconst (-1), 1) := by decide +kernel
theorem dX0_fact_89 : decode cX0_fact 89 = .ok (.ireturn, 1) := by decide +kernel
set_option maxRecDepth 20000 in
theorem ggX1_init_J7_fill_53178 : GoodIn wsX1_init wsJ7_fill_53178 := goodIn_r _ [14] (by decide +kernel) (by decide +kernel)
set_option maxRecDepth 20000 in
theorem gX1_init_J7_fill_53178 : GoodIn wsX1_init (va_wsS RX1 28 yJ7_fill_53178 wsJ7_fill_53178) := goodIn_app (goodIn_of _ (by decide +kernel)) ggX1_init_J7_fill_53178
theorem dX1_init_0 : decode cX1_init 0 = .ok (.aload_n 0, 1) := by decide +kernel
theorem dX1_init_1 : decode cX1_init 1 = .ok (.invokespecial 1, 3) := by decide +kernel
theorem dX1_init_4 : decode cX1_init 4 = .ok (.aload_n 0, 1) := by decide +kernel
theorem dX1_init_5 : decode cX1_init 5 = .ok (.bipush 10, 2) := by decide +kernel
theorem dX1_init_7 : decode cX1_init 7 = .ok (.anewarray 9, 3) := by decide +kernel
theorem dX1_init_10 : decode cX1_init 10 = .ok (.putfield 11, 3) := by decide +kernel
theorem dX1_init_13 : decode cX1_init 13 = .ok (.aload_n 0, 1) := by decide +kernel
theorem dX1_init_14 : decode cX1_init 14 = .ok (.bipush 10, 2) := by decide +kernel
theorem dX1_init_16 : decode cX1_init 16 = .ok (.newarray .int, 2) := by decide +kernel
theorem dX1_init_18 : decode cX1_init 18 = .ok (.putfield 15, 3) := by decide +kernel
theorem dX1_init_21 : decode cX1_init 21 = .ok (.aload_n 0, 1) := by decide +kernel
theorem dX1_init_22 : decode cX1_init 22 = .ok (.bipush 10, 2) := by decide +kernel
theorem dX1_init_24 : decode cX1_init 24 = .ok (.newarray .int, 2) := by decide +kernel
theorem dX1_init_26 : decode cX1_init 26 = .ok (.putfield 19, 3) := by decide +kernel
theorem dX1_init_29 : decode cX1_init 29 = .ok (.aload_n 0, 1) := by decide +kernel
theorem dX1_init_30 : decode cX1_init 30 = .ok (.bipush 30, 2) := by decide +kernel
theorem dX1_init_32 : decode cX1_init 32 = .ok (.anewarray 9, 3) := by decide +kernel
theorem dX1_init_35 : decode cX1_init 35 = .ok (.putfield 22, 3) := by decide +kernel
theorem dX1_init_38 : decode cX1_init 38 = .ok (.aload_n 0, 1) := by decide +kernel
theorem dX1_init_39 : decode cX1_init 39 = .ok (.bipush 100, 2) := by decide +kernel
theorem dX1_init_41 : decode cX1_init 41 = .ok (.newarray .int, 2) := by decide +kernel
theorem dX1_init_43 : decode cX1_init 43 = .ok (.putfield 25, 3) := by decide +kernel
theorem dX1_init_46 : decode cX1_init 46 = .ok (.aload_n 0, 1) := by decide +kernel
theorem dX1_init_47 : decode cX1_init 47 = .ok (.getfield 15, 3) := by decide +kernel
theorem dX1_init_50 : decode cX1_init 50 = .ok (.iconst (-1), 1) := by decide +kernel
theorem dX1_init_51 : decode cX1_init 51 = .ok (.invokestatic 28, 3) := by decide +kernel
theorem dX1_init_54 : decode cX1_init 54 = .ok (.return_, 1) := by decide +kernel
set_option maxRecDepth 20000 in
theorem ggX1_hall_X1_isPlace : GoodIn wsX1_hall wsX1_isPlace := goodIn_r _ [9] (by decide +kernel) (by decide +kernel)
set_option maxRecDepth 20000 in
theorem gX1_hall_X1_isPlace : GoodIn wsX1_hall (va_wsS RX1 34 yX1_isPlace wsX1_isPlace) := goodIn_app (goodIn_of _ (by decide +kernel)) ggX1_hall_X1_isPlace
set_option maxRecDepth 20000 in
theorem ggX1_hall_X0_init : GoodIn wsX1_hall wsX0_init := goodIn_r _ [11, 12, 13, 14, 15, 16, 17, 30, 31, 32, 33, 34, 35, 36, 37, 38] (by decide +kernel) (by decide +kernel)
set_option maxRecDepth 20000 in
theorem gX1_hall_X0_init_n42 : GoodIn wsX1_hall (wsX0_init) := ggX1_hall_X0_init
theorem dX1_hall_0 : decode cX1_hall 0 = .ok (.iload_n 1, 1) := by decide +kernel
theorem dX1_hall_1 : decode cX1_hall 1 = .ok (.invokestatic 34, 3) := by decide +kernel
theorem dX1_hall_4 : decode cX1_hall 4 = .ok (.ifCond .eq 23, 3) := by decide +kernel
theorem dX1_hall_7 : decode cX1_hall 7 = .ok (.iload_n 2, 1) := by decide +kernel
theorem dX1_hall_8 : decode cX1_hall 8 = .ok (.ifCond .lt 19, 3) := by decide +kernel
theorem dX1_hall_11 : decode cX1_hall 11 = .ok (.iload_n 2, 1) := by decide +kernel
theorem dX1_hall_12 : decode cX1_hall 12 = .ok (.iconst 2, 1) := by decide +kernel
theorem dX1_hall_13 : decode cX1_hall 13 = .ok (.if_icmp .gt 14, 3) := by decide +kernel
theorem dX1_hall_16 : decode cX1_hall 16 = .ok (.iload_n 3, 1) := by decide +kernel
theorem dX1_hall_17 : decode cX1_hall 17 = .ok (.ifCond .lt 10, 3) := by decide +kernel
theorem dX1_hall_20 : decode cX1_hall 20 = .ok (.iload_n 3, 1) := by decide +kernel
theorem dX1_hall_21 : decode cX1_hall 21 = .ok (.sipush 1000, 3) := by decide +kernel
theorem dX1_hall_24 : decode cX1_hall 24 = .ok (.if_icmp .le 5, 3) := by decide +kernel
theorem dX1_hall_27 : decode cX1_hall 27 = .ok (.iconst (-1), 1) := by decide +kernel
theorem dX1_hall_28 : decode cX1_hall 28 = .ok (.ireturn, 1) := by decide +kernel
theorem dX1_hall_29 : decode cX1_hall 29 = .ok (.aload_n 0, 1) := by decide +kernel
theorem dX1_hall_30 : decode cX1_hall 30 = .ok (.getfield 38, 3) := by decide +kernel
theorem dX1_hall_33 : decode cX1_hall 33 = .ok (.istore 4, 2) := by decide +kernel
theorem dX1_hall_35 : decode cX1_hall 35 = .ok (.aload_n 0, 1) := by decide +kernel
theorem dX1_hall_36 : decode cX1_hall 36 = .ok (.getfield 11, 3) := by decide +kernel
theorem dX1_hall_39 : decode cX1_hall 39 = .ok (.iload_n 1, 1) := by decide +kernel
theorem dX1_hall_40 : decode cX1_hall 40 = .ok (.new 9, 3) := by decide +kernel
theorem dX1_hall_43 : decode cX1_hall 43 = .ok (.dup, 1) := by decide +kernel
theorem dX1_hall_44 : decode cX1_hall 44 = .ok (.iload 4, 2) := by decide +kernel
theorem dX1_hall_46 : decode cX1_hall 46 = .ok (.iload_n 2, 1) := by decide +kernel
theorem dX1_hall_47 : decode cX1_hall 47 = .ok (.iload_n 3, 1) := by decide +kernel
theorem dX1_hall_48 : decode cX1_hall 48 = .ok (.invokespecial 42, 3) := by decide +kernel
theorem dX1_hall_51 : decode cX1_hall 51 = .ok (.aastore, 1) := by decide +kernel
theorem dX1_hall_52 : decode cX1_hall 52 = .ok (.aload_n 0, 1) := by decide +kernel
theorem dX1_hall_53 : decode cX1_hall 53 = .ok (.dup, 1) := by decide +kernel
theorem dX1_hall_54 : decode cX1_hall 54 = .ok (.getfield 38, 3) := by decide +kernel
theorem dX1_hall_57 : decode cX1_hall 57 = .ok (.iconst 1, 1) := by decide +kernel
theorem dX1_hall_58 : decode cX1_hall 58 = .ok (.iadd, 1) := by decide +kernel
theorem dX1_hall_59 : decode cX1_hall 59 = .ok (.putfield 38, 3) := by decide +kernel
theorem dX1_hall_62 : decode cX1_hall 62 = .ok (.iload 4, 2) := by decide +kernel
theorem dX1_hall_64 : decode cX1_hall 64 = .ok (.ireturn, 1) := by decide +kernel
set_option maxRecDepth 20000 in
theorem ggX1_share_X1_isPlace : GoodIn wsX1_share wsX1_isPlace := goodIn_r _ [5] (by decide +kernel) (by decide +kernel)
set_option maxRecDepth 20000 in
theorem gX1_share_X1_isPlace : GoodIn wsX1_share (va_wsS RX1 34 yX1_isPlace wsX1_isPlace) := goodIn_app (goodIn_of _ (by decide +kernel)) ggX1_share_X1_isPlace
theorem dX1_share_0 : decode cX1_share 0 = .ok (.iload_n 1, 1) := by decide +kernel
theorem dX1_share_1 : decode cX1_share 1 = .ok (.invokestatic 34, 3) := by decide +kernel
theorem dX1_share_4 : decode cX1_share 4 = .ok (.ifCond .eq 10, 3) := by decide +kernel
theorem dX1_share_7 : decode cX1_share 7 = .ok (.iload_n 2, 1) := by decide +kernel
theorem dX1_share_8 : decode cX1_share 8 = .ok (.invokestatic 34, 3) := by decide +kernel
theorem dX1_share_11 : decode cX1_share 11 = .ok (.ifCond .ne 5, 3) := by decide +kernel
theorem dX1_share_14 : decode cX1_share 14 = .ok (.iconst (-1), 1) := by decide +kernel
theorem dX1_share_15 : decode cX1_share 15 = .ok (.ireturn, 1) := by decide +kernel
theorem dX1_share_16 : decode cX1_share 16 = .ok (.aload_n 0, 1) := by decide +kernel
theorem dX1_share_17 : decode cX1_share 17 = .ok (.getfield 11, 3) := by decide +kernel
theorem dX1_share_20 : decode cX1_share 20 = .ok (.iload_n 2, 1) := by decide +kernel
theorem dX1_share_21 : decode cX1_share 21 = .ok (.aload_n 0, 1) := by decide +kernel
theorem dX1_share_22 : decode cX1_share 22 = .ok (.getfield 11, 3) := by decide +kernel
theorem dX1_share_25 : decode cX1_share 25 = .ok (.iload_n 1, 1) := by decide +kernel
theorem dX1_share_26 : decode cX1_share 26 = .ok (.aaload, 1) := by decide +kernel
theorem dX1_share_27 : decode cX1_share 27 = .ok (.aastore, 1) := by decide +kernel
theorem dX1_share_28 : decode cX1_share 28 = .ok (.aload_n 0, 1) := by decide +kernel
theorem dX1_share_29 : decode cX1_share 29 = .ok (.getfield 11, 3) := by decide +kernel
theorem dX1_share_32 : decode cX1_share 32 = .ok (.iload_n 2, 1) := by decide +kernel
theorem dX1_share_33 : decode cX1_share 33 = .ok (.aaload, 1) := by decide +kernel
theorem dX1_share_34 : decode cX1_share 34 = .ok (.ifnonnull 7, 3) := by decide +kernel
theorem dX1_share_37 : decode cX1_share 37 = .ok (.iconst 0, 1) := by decide +kernel
theorem dX1_share_38 : decode cX1_share 38 = .ok (.goto 4, 3) := by decide +kernel
theorem dX1_share_41 : decode cX1_share 41 = .ok (.iconst 1, 1) := by decide +kernel
theorem dX1_share_42 : decode cX1_share 42 = .ok (.ireturn, 1) := by decide +kernel
set_option maxRecDepth 20000 in
theorem ggX1_parent_X1_isPlace : GoodIn wsX1_parent wsX1_isPlace := goodIn_r _ [5] (by decide +kernel) (by decide +kernel)
set_option maxRecDepth 20000 in
theorem gX1_parent_X1_isPlace : GoodIn wsX1_parent (va_wsS RX1 34 yX1_isPlace wsX1_isPlace) := goodIn_app (goodIn_of _ (by decide +kernel)) ggX1_parent_X1_isPlace
theorem dX1_parent_0 : decode cX1_parent 0 = .ok (.iload_n 1, 1) := by decide +kernel
theorem dX1_parent_1 : decode cX1_parent 1 = .ok (.invokestatic 34, 3) := by decide +kernel
theorem dX1_parent_4 : decode cX1_parent 4 = .ok (.ifCond .eq 15, 3) := by decide +kernel
theorem dX1_parent_7 : decode cX1_parent 7 = .ok (.iload_n 2, 1) := by decide +kernel
theorem dX1_parent_8 : decode cX1_parent 8 = .ok (.iconst (-1), 1) := by decide +kernel
theorem dX1_parent_9 : decode cX1_parent 9 = .ok (.if_icmp .eq 13, 3) := by decide +kernel
theorem dX1_parent_12 : decode cX1_parent 12 = .ok (.iload_n 2, 1) := by decide +kernel
theorem dX1_parent_13 : decode cX1_parent 13 = .ok (.invokestatic 34, 3) := by decide +kernel
theorem dX1_parent_16 : decode cX1_parent 16 = .ok (.ifCond .ne 6, 3) := by decide +kernel
theorem dX1_parent_19 : decode cX1_parent 19 = .ok (.bipush (-2), 2) := by decide +kernel
theorem dX1_parent_21 : decode cX1_parent 21 = .ok (.ireturn, 1) := by decide +kernel
theorem dX1_parent_22 : decode cX1_parent 22 = .ok (.aload_n 0, 1) := by decide +kernel
theorem dX1_parent_23 : decode cX1_parent 23 = .ok (.getfield 15, 3) := by decide +kernel
theorem dX1_parent_26 : decode cX1_parent 26 = .ok (.iload_n 1, 1) := by decide +kernel
theorem dX1_parent_27 : decode cX1_parent 27 = .ok (.iaload, 1) := by decide +kernel
theorem dX1_parent_28 : decode cX1_parent 28 = .ok (.istore_n 3, 1) := by decide +kernel
theorem dX1_parent_29 : decode cX1_parent 29 = .ok (.aload_n 0, 1) := by decide +kernel
theorem dX1_parent_30 : decode cX1_parent 30 = .ok (.getfield 15, 3) := by decide +kernel
theorem dX1_parent_33 : decode cX1_parent 33 = .ok (.iload_n 1, 1) := by decide +kernel
theorem dX1_parent_34 : decode cX1_parent 34 = .ok (.iload_n 2, 1) := by decide +kernel
theorem dX1_parent_35 : decode cX1_parent 35 = .ok (.iastore, 1) := by decide +kernel
theorem dX1_parent_36 : decode cX1_parent 36 = .ok (.iload_n 3, 1) := by decide +kernel
theorem dX1_parent_37 : decode cX1_parent 37 = .ok (.ireturn, 1) := by decide +kernel
theorem dX1_fill_0 : decode cX1_fill 0 = .ok (.iload_n 1, 1) := by decide +kernel
theorem dX1_fill_1 : decode cX1_fill 1 = .ok (.ifCond .lt 10, 3) := by decide +kernel
theorem dX1_fill_4 : decode cX1_fill 4 = .ok (.iload_n 1, 1) := by decide +kernel
theorem dX1_fill_5 : decode cX1_fill 5 = .ok (.sipush 1000, 3) := by decide +kernel
theorem dX1_fill_8 : decode cX1_fill 8 = .ok (.if_icmp .le 5, 3) := by decide +kernel
theorem dX1_fill_11 : decode cX1_fill 11 = .ok (.iconst (-1), 1) := by decide +kernel
theorem dX1_fill_12 : decode cX1_fill 12 = .ok (.ireturn, 1) := by decide +kernel
theorem dX1_fill_13 : decode cX1_fill 13 = .ok (.aload_n 0, 1) := by decide +kernel
theorem dX1_fill_14 : decode cX1_fill 14 = .ok (.aload_n 0, 1) := by decide +kernel
theorem dX1_fill_15 : decode cX1_fill 15 = .ok (.getfield 45, 3) := by decide +kernel
theorem dX1_fill_18 : decode cX1_fill 18 = .ok (.iload_n 1, 1) := by decide +kernel
theorem dX1_fill_19 : decode cX1_fill 19 = .ok (.iadd, 1) := by decide +kernel
theorem dX1_fill_20 : decode cX1_fill 20 = .ok (.ldc 48, 2) := by decide +kernel
theorem dX1_fill_22 : decode cX1_fill 22 = .ok (.invokestatic 49, 3) := by decide +kernel
theorem dX1_fill_25 : decode cX1_fill 25 = .ok (.putfield 45, 3) := by decide +kernel
theorem dX1_fill_28 : decode cX1_fill 28 = .ok (.aload_n 0, 1) := by decide +kernel
theorem dX1_fill_29 : decode cX1_fill 29 = .ok (.getfield 45, 3) := by decide +kernel
theorem dX1_fill_32 : decode cX1_fill 32 = .ok (.ireturn, 1) := by decide +kernel
set_option maxRecDepth 20000 in
theorem ggX1_walk_X1_isPlace : GoodIn wsX1_walk wsX1_isPlace := goodIn_r _ [7] (by decide +kernel) (by decide +kernel)
set_option maxRecDepth 20000 in
theorem gX1_walk_X1_isPlace : GoodIn wsX1_walk (va_wsS RX1 34 yX1_isPlace wsX1_isPlace) := goodIn_app (goodIn_of _ (by decide +kernel)) ggX1_walk_X1_isPlace
set_option maxRecDepth 20000 in
theorem ggX1_walk_X1_walkTo : GoodIn wsX1_walk wsX1_walkTo := goodIn_r _ [11, 12, 13, 14, 15, 16, 6, 17, 18, 19, 4, 5, 7, 20, 21, 22, 23, 24, 25, 26, 27, 28, 29, 30, 31, 32, 33, 34, 35, 36, 37, 2, 38, 39, 40, 41, 42, 43, 44, 45, 46, 47, 48, 49, 50, 51, 52, 53, 54, 55, 56, 57, 1, 58, 59, 60, 61, 62, 63, 64, 65, 66, 67, 68, 69, 70, 71, 72, 73, 74, 75, 76, 77, 78, 79, 80, 81, 82, 83, 84, 85, 86, 87, 88, 89, 90, 91, 92, 93, 94, 95, 96, 97, 98, 8, 9, 10, 111, 112, 113, 114, 115, 116, 117, 118, 119, 99, 100, 101, 102, 103, 104, 105, 106, 107, 108, 109, 110] (by decide +kernel) (by decide +kernel)
set_option maxRecDepth 20000 in
theorem gX1_walk_X1_walkTo : GoodIn wsX1_walk (wsV RX1 61 RX1 yX1_walkTo wsX1_walkTo) := goodIn_app (goodIn_of _ (by decide +kernel)) ggX1_walk_X1_walkTo
theorem dX1_walk_0 : decode cX1_walk 0 = .ok (.iload_n 1, 1) := by decide +kernel
theorem dX1_walk_1 : decode cX1_walk 1 = .ok (.invokestatic 34, 3) := by decide +kernel
theorem dX1_walk_4 : decode cX1_walk 4 = .ok (.ifCond .eq 13, 3) := by decide +kernel
theorem dX1_walk_7 : decode cX1_walk 7 = .ok (.iload_n 2, 1) := by decide +kernel
theorem dX1_walk_8 : decode cX1_walk 8 = .ok (.ifCond .lt 9, 3) := by decide +kernel
theorem dX1_walk_11 : decode cX1_walk 11 = .ok (.iload_n 2, 1) := by decide +kernel
theorem dX1_walk_12 : decode cX1_walk 12 = .ok (.bipush 7, 2) := by decide +kernel
theorem dX1_walk_14 : decode cX1_walk 14 = .ok (.if_icmp .le 5, 3) := by decide +kernel
theorem dX1_walk_17 : decode cX1_walk 17 = .ok (.iconst (-1), 1) := by decide +kernel
theorem dX1_walk_18 : decode cX1_walk 18 = .ok (.ireturn, 1) := by decide +kernel
theorem dX1_walk_19 : decode cX1_walk 19 = .ok (.aload_n 0, 1) := by decide +kernel
theorem dX1_walk_20 : decode cX1_walk 20 = .ok (.iconst 0, 1) := by decide +kernel
theorem dX1_walk_21 : decode cX1_walk 21 = .ok (.putfield 55, 3) := by decide +kernel
theorem dX1_walk_24 : decode cX1_walk 24 = .ok (.aload_n 0, 1) := by decide +kernel
theorem dX1_walk_25 : decode cX1_walk 25 = .ok (.iconst 0, 1) := by decide +kernel
theorem dX1_walk_26 : decode cX1_walk 26 = .ok (.putfield 58, 3) := by decide +kernel
theorem dX1_walk_29 : decode cX1_walk 29 = .ok (.aload_n 0, 1) := by decide +kernel
theorem dX1_walk_30 : decode cX1_walk 30 = .ok (.aload_n 0, 1) := by decide +kernel
theorem dX1_walk_31 : decode cX1_walk 31 = .ok (.iload_n 1, 1) := by decide +kernel
theorem dX1_walk_32 : decode cX1_walk 32 = .ok (.iload_n 2, 1) := by decide +kernel
theorem dX1_walk_33 : decode cX1_walk 33 = .ok (.iload_n 3, 1) := by decide +kernel
theorem dX1_walk_34 : decode cX1_walk 34 = .ok (.iconst 0, 1) := by decide +kernel
theorem dX1_walk_35 : decode cX1_walk 35 = .ok (.invokevirtual 61, 3) := by decide +kernel
theorem dX1_walk_38 : decode cX1_walk 38 = .ok (.putfield 65, 3) := by decide +kernel
theorem dX1_walk_41 : decode cX1_walk 41 = .ok (.aload_n 0, 1) := by decide +kernel
theorem dX1_walk_42 : decode cX1_walk 42 = .ok (.getfield 65, 3) := by decide +kernel
theorem dX1_walk_45 : decode cX1_walk 45 = .ok (.ifCond .ne 7, 3) := by decide +kernel
theorem dX1_walk_48 : decode cX1_walk 48 = .ok (.iconst 1, 1) := by decide +kernel
theorem dX1_walk_49 : decode cX1_walk 49 = .ok (.goto 10, 3) := by decide +kernel
theorem dX1_walk_52 : decode cX1_walk 52 = .ok (.bipush (-10), 2) := by decide +kernel
theorem dX1_walk_54 : decode cX1_walk 54 = .ok (.aload_n 0, 1) := by decide +kernel
theorem dX1_walk_55 : decode cX1_walk 55 = .ok (.getfield 65, 3) := by decide +kernel
theorem dX1_walk_58 : decode cX1_walk 58 = .ok (.isub, 1) := by decide +kernel
theorem dX1_walk_59 : decode cX1_walk 59 = .ok (.ireturn, 1) := by decide +kernel
set_option maxRecDepth 20000 in
theorem ggX1_seek_X1_seekPartner : GoodIn wsX1_seek wsX1_seekPartner := goodIn_r _ [6, 7, 8, 9, 5, 10, 1, 11, 12, 13, 26, 27, 28, 29, 30, 31, 32, 33, 34, 14, 15, 16, 17, 18, 19, 20, 21, 22, 23, 24, 25] (by decide +kernel) (by decide +kernel)
set_option maxRecDepth 20000 in
theorem gX1_seek_X1_seekPartner : GoodIn wsX1_seek (wsV RX1 71 RX1 yX1_seekPartner wsX1_seekPartner) := goodIn_app (goodIn_of _ (by decide +kernel)) ggX1_seek_X1_seekPartner
theorem dX1_seek_0 : decode cX1_seek 0 = .ok (.iconst 0, 1) := by decide +kernel
theorem dX1_seek_1 : decode cX1_seek 1 = .ok (.istore_n 3, 1) := by decide +kernel
theorem dX1_seek_2 : decode cX1_seek 2 = .ok (.iload_n 3, 1) := by decide +kernel
theorem dX1_seek_3 : decode cX1_seek 3 = .ok (.bipush 10, 2) := by decide +kernel
theorem dX1_seek_5 : decode cX1_seek 5 = .ok (.if_icmp .ge 57, 3) := by decide +kernel
theorem dX1_seek_8 : decode cX1_seek 8 = .ok (.aload_n 0, 1) := by decide +kernel
theorem dX1_seek_9 : decode cX1_seek 9 = .ok (.getfield 11, 3) := by decide +kernel
theorem dX1_seek_12 : decode cX1_seek 12 = .ok (.iload_n 3, 1) := by decide +kernel
theorem dX1_seek_13 : decode cX1_seek 13 = .ok (.aaload, 1) := by decide +kernel
theorem dX1_seek_14 : decode cX1_seek 14 = .ok (.astore 4, 2) := by decide +kernel
theorem dX1_seek_16 : decode cX1_seek 16 = .ok (.aload 4, 2) := by decide +kernel
theorem dX1_seek_18 : decode cX1_seek 18 = .ok (.ifnull 38, 3) := by decide +kernel
theorem dX1_seek_21 : decode cX1_seek 21 = .ok (.aload 4, 2) := by decide +kernel
theorem dX1_seek_23 : decode cX1_seek 23 = .ok (.dup, 1) := by decide +kernel
theorem dX1_seek_24 : decode cX1_seek 24 = .ok (.getfield 68, 3) := by decide +kernel
theorem dX1_seek_27 : decode cX1_seek 27 = .ok (.iconst 1, 1) := by decide +kernel
theorem dX1_seek_28 : decode cX1_seek 28 = .ok (.iadd, 1) := by decide +kernel
theorem dX1_seek_29 : decode cX1_seek 29 = .ok (.putfield 68, 3) := by decide +kernel
theorem dX1_seek_32 : decode cX1_seek 32 = .ok (.aload_n 0, 1) := by decide +kernel
theorem dX1_seek_33 : decode cX1_seek 33 = .ok (.iload_n 3, 1) := by decide +kernel
theorem dX1_seek_34 : decode cX1_seek 34 = .ok (.aload 4, 2) := by decide +kernel
theorem dX1_seek_36 : decode cX1_seek 36 = .ok (.lload_n 1, 1) := by decide +kernel
theorem dX1_seek_37 : decode cX1_seek 37 = .ok (.invokevirtual 71, 3) := by decide +kernel
theorem dX1_seek_40 : decode cX1_seek 40 = .ok (.istore 5, 2) := by decide +kernel
theorem dX1_seek_42 : decode cX1_seek 42 = .ok (.iload 5, 2) := by decide +kernel
theorem dX1_seek_44 : decode cX1_seek 44 = .ok (.iconst (-1), 1) := by decide +kernel
theorem dX1_seek_45 : decode cX1_seek 45 = .ok (.if_icmp .eq 11, 3) := by decide +kernel
theorem dX1_seek_48 : decode cX1_seek 48 = .ok (.bipush 10, 2) := by decide +kernel
theorem dX1_seek_50 : decode cX1_seek 50 = .ok (.iload_n 3, 1) := by decide +kernel
theorem dX1_seek_51 : decode cX1_seek 51 = .ok (.imul, 1) := by decide +kernel
theorem dX1_seek_52 : decode cX1_seek 52 = .ok (.iload 5, 2) := by decide +kernel
theorem dX1_seek_54 : decode cX1_seek 54 = .ok (.iadd, 1) := by decide +kernel
theorem dX1_seek_55 : decode cX1_seek 55 = .ok (.ireturn, 1) := by decide +kernel
theorem dX1_seek_56 : decode cX1_seek 56 = .ok (.iinc 3 1, 3) := by decide +kernel
theorem dX1_seek_59 : decode cX1_seek 59 = .ok (.goto (-57), 3) := by decide +kernel
theorem dX1_seek_62 : decode cX1_seek 62 = .ok (.iconst (-1), 1) := by decide +kernel
theorem dX1_seek_63 : decode cX1_seek 63 = .ok (.ireturn, 1) := by decide +kernel
set_option maxRecDepth 20000 in
theorem ggX1_told_X1_hallAt : GoodIn wsX1_told wsX1_hallAt := goodIn_r _ [5, 6, 7, 8, 4, 9, 22, 23, 24, 25, 26, 27, 28, 29, 30, 31, 32, 33] (by decide +kernel) (by decide +kernel)
set_option maxRecDepth 20000 in
theorem gX1_told_X1_hallAt : GoodIn wsX1_told (wsV RX1 75 RX1 yX1_hallAt wsX1_hallAt) := goodIn_app (goodIn_of _ (by decide +kernel)) ggX1_told_X1_hallAt
set_option maxRecDepth 20000 in
theorem ggX1_told_X0_fact : GoodIn wsX1_told wsX0_fact := goodIn_r _ [13, 14, 15, 16, 17, 18, 19, 20, 21, 34, 35, 36, 37, 38, 39, 40, 41, 42] (by decide +kernel) (by decide +kernel)
set_option maxRecDepth 20000 in
theorem gX1_told_X0_fact_n79 : GoodIn wsX1_told (wsX0_fact) := ggX1_told_X0_fact
theorem dX1_told_0 : decode cX1_told 0 = .ok (.aload_n 0, 1) := by decide +kernel
theorem dX1_told_1 : decode cX1_told 1 = .ok (.iload_n 1, 1) := by decide +kernel
theorem dX1_told_2 : decode cX1_told 2 = .ok (.invokevirtual 75, 3) := by decide +kernel
theorem dX1_told_5 : decode cX1_told 5 = .ok (.astore_n 3, 1) := by decide +kernel
theorem dX1_told_6 : decode cX1_told 6 = .ok (.aload_n 3, 1) := by decide +kernel
theorem dX1_told_7 : decode cX1_told 7 = .ok (.ifnonnull 7, 3) := by decide +kernel
theorem dX1_told_10 : decode cX1_told 10 = .ok (.iconst (-1), 1) := by decide +kernel
theorem dX1_told_11 : decode cX1_told 11 = .ok (.goto 8, 3) := by decide +kernel
theorem dX1_told_14 : decode cX1_told 14 = .ok (.aload_n 3, 1) := by decide +kernel
theorem dX1_told_15 : decode cX1_told 15 = .ok (.iload_n 2, 1) := by decide +kernel
theorem dX1_told_16 : decode cX1_told 16 = .ok (.invokevirtual 79, 3) := by decide +kernel
theorem dX1_told_19 : decode cX1_told 19 = .ok (.ireturn, 1) := by decide +kernel
set_option maxRecDepth 20000 in
theorem ggX1_gifts_X1_hallAt : GoodIn wsX1_gifts wsX1_hallAt := goodIn_r _ [5, 6, 7, 8, 4, 9, 19, 20, 21, 22, 23, 24, 25, 26, 27, 28, 29, 30] (by decide +kernel) (by decide +kernel)
set_option maxRecDepth 20000 in
theorem gX1_gifts_X1_hallAt : GoodIn wsX1_gifts (wsV RX1 75 RX1 yX1_hallAt wsX1_hallAt) := goodIn_app (goodIn_of _ (by decide +kernel)) ggX1_gifts_X1_hallAt
theorem dX1_gifts_0 : decode cX1_gifts 0 = .ok (.aload_n 0, 1) := by decide +kernel
theorem dX1_gifts_1 : decode cX1_gifts 1 = .ok (.iload_n 1, 1) := by decide +kernel
theorem dX1_gifts_2 : decode cX1_gifts 2 = .ok (.invokevirtual 75, 3) := by decide +kernel
theorem dX1_gifts_5 : decode cX1_gifts 5 = .ok (.astore_n 2, 1) := by decide +kernel
theorem dX1_gifts_6 : decode cX1_gifts 6 = .ok (.aload_n 2, 1) := by decide +kernel
theorem dX1_gifts_7 : decode cX1_gifts 7 = .ok (.ifnonnull 7, 3) := by decide +kernel
theorem dX1_gifts_10 : decode cX1_gifts 10 = .ok (.iconst 0, 1) := by decide +kernel
theorem dX1_gifts_11 : decode cX1_gifts 11 = .ok (.goto 7, 3) := by decide +kernel
theorem dX1_gifts_14 : decode cX1_gifts 14 = .ok (.aload_n 2, 1) := by decide +kernel
theorem dX1_gifts_15 : decode cX1_gifts 15 = .ok (.getfield 83, 3) := by decide +kernel
theorem dX1_gifts_18 : decode cX1_gifts 18 = .ok (.ireturn, 1) := by decide +kernel
theorem dX1_trace_0 : decode cX1_trace 0 = .ok (.iload_n 1, 1) := by decide +kernel
theorem dX1_trace_1 : decode cX1_trace 1 = .ok (.iconst (-1), 1) := by decide +kernel
theorem dX1_trace_2 : decode cX1_trace 2 = .ok (.if_icmp .ne 8, 3) := by decide +kernel
theorem dX1_trace_5 : decode cX1_trace 5 = .ok (.aload_n 0, 1) := by decide +kernel
theorem dX1_trace_6 : decode cX1_trace 6 = .ok (.getfield 55, 3) := by decide +kernel
theorem dX1_trace_9 : decode cX1_trace 9 = .ok (.ireturn, 1) := by decide +kernel
theorem dX1_trace_10 : decode cX1_trace 10 = .ok (.iload_n 1, 1) := by decide +kernel
theorem dX1_trace_11 : decode cX1_trace 11 = .ok (.ifCond .lt 26, 3) := by decide +kernel
theorem dX1_trace_14 : decode cX1_trace 14 = .ok (.iload_n 1, 1) := by decide +kernel
theorem dX1_trace_15 : decode cX1_trace 15 = .ok (.aload_n 0, 1) := by decide +kernel
theorem dX1_trace_16 : decode cX1_trace 16 = .ok (.getfield 55, 3) := by decide +kernel
theorem dX1_trace_19 : decode cX1_trace 19 = .ok (.if_icmp .ge 18, 3) := by decide +kernel
theorem dX1_trace_22 : decode cX1_trace 22 = .ok (.iload_n 1, 1) := by decide +kernel
theorem dX1_trace_23 : decode cX1_trace 23 = .ok (.bipush 100, 2) := by decide +kernel
theorem dX1_trace_25 : decode cX1_trace 25 = .ok (.if_icmp .ge 12, 3) := by decide +kernel
theorem dX1_trace_28 : decode cX1_trace 28 = .ok (.aload_n 0, 1) := by decide +kernel
theorem dX1_trace_29 : decode cX1_trace 29 = .ok (.getfield 25, 3) := by decide +kernel
theorem dX1_trace_32 : decode cX1_trace 32 = .ok (.iload_n 1, 1) := by decide +kernel
theorem dX1_trace_33 : decode cX1_trace 33 = .ok (.iaload, 1) := by decide +kernel
theorem dX1_trace_34 : decode cX1_trace 34 = .ok (.goto 4, 3) := by decide +kernel
theorem dX1_trace_37 : decode cX1_trace 37 = .ok (.iconst (-1), 1) := by decide +kernel
theorem dX1_trace_38 : decode cX1_trace 38 = .ok (.ireturn, 1) := by decide +kernel
set_option maxRecDepth 20000 in
theorem ggX1_count_X1_placesWithHall : GoodIn wsX1_count wsX1_placesWithHall := goodIn_r _ [10, 11, 12, 13, 14, 15, 16, 17, 18, 19, 20, 21, 22, 23] (by decide +kernel) (by decide +kernel)
set_option maxRecDepth 20000 in
theorem gX1_count_X1_placesWithHall : GoodIn wsX1_count (wsV RX1 86 RX1 yX1_placesWithHall wsX1_placesWithHall) := goodIn_app (goodIn_of _ (by decide +kernel)) ggX1_count_X1_placesWithHall
theorem dX1_count_0 : decode cX1_count 0 = .ok (.iload_n 1, 1) := by decide +kernel
theorem dX1_count_1 : decode cX1_count 1 = .ok (.tableswitch 69 0 5 #[39, 44, 49, 54, 59, 64], 39) := by decide +kernel
theorem dX1_count_40 : decode cX1_count 40 = .ok (.aload_n 0, 1) := by decide +kernel
theorem dX1_count_41 : decode cX1_count 41 = .ok (.getfield 45, 3) := by decide +kernel
theorem dX1_count_44 : decode cX1_count 44 = .ok (.ireturn, 1) := by decide +kernel
theorem dX1_count_45 : decode cX1_count 45 = .ok (.aload_n 0, 1) := by decide +kernel
theorem dX1_count_46 : decode cX1_count 46 = .ok (.getfield 38, 3) := by decide +kernel
theorem dX1_count_49 : decode cX1_count 49 = .ok (.ireturn, 1) := by decide +kernel
theorem dX1_count_50 : decode cX1_count 50 = .ok (.aload_n 0, 1) := by decide +kernel
theorem dX1_count_51 : decode cX1_count 51 = .ok (.invokevirtual 86, 3) := by decide +kernel
theorem dX1_count_54 : decode cX1_count 54 = .ok (.ireturn, 1) := by decide +kernel
theorem dX1_count_55 : decode cX1_count 55 = .ok (.aload_n 0, 1) := by decide +kernel
theorem dX1_count_56 : decode cX1_count 56 = .ok (.getfield 65, 3) := by decide +kernel
theorem dX1_count_59 : decode cX1_count 59 = .ok (.ireturn, 1) := by decide +kernel
theorem dX1_count_60 : decode cX1_count 60 = .ok (.aload_n 0, 1) := by decide +kernel
theorem dX1_count_61 : decode cX1_count 61 = .ok (.getfield 90, 3) := by decide +kernel
theorem dX1_count_64 : decode cX1_count 64 = .ok (.ireturn, 1) := by decide +kernel
theorem dX1_count_65 : decode cX1_count 65 = .ok (.aload_n 0, 1) := by decide +kernel
theorem dX1_count_66 : decode cX1_count 66 = .ok (.getfield 58, 3) := by decide +kernel
theorem dX1_count_69 : decode cX1_count 69 = .ok (.ireturn, 1) := by decide +kernel
theorem dX1_count_70 : decode cX1_count 70 = .ok (.iconst (-1), 1) := by decide +kernel
theorem dX1_count_71 : decode cX1_count 71 = .ok (.ireturn, 1) := by decide +kernel
theorem dX1_isPlace_0 : decode cX1_isPlace 0 = .ok (.iload_n 0, 1) := by decide +kernel
theorem dX1_isPlace_1 : decode cX1_isPlace 1 = .ok (.ifCond .lt 13, 3) := by decide +kernel
theorem dX1_isPlace_4 : decode cX1_isPlace 4 = .ok (.iload_n 0, 1) := by decide +kernel
theorem dX1_isPlace_5 : decode cX1_isPlace 5 = .ok (.bipush 10, 2) := by decide +kernel
theorem dX1_isPlace_7 : decode cX1_isPlace 7 = .ok (.if_icmp .ge 7, 3) := by decide +kernel
theorem dX1_isPlace_10 : decode cX1_isPlace 10 = .ok (.iconst 1, 1) := by decide +kernel
theorem dX1_isPlace_11 : decode cX1_isPlace 11 = .ok (.goto 4, 3) := by decide +kernel
theorem dX1_isPlace_14 : decode cX1_isPlace 14 = .ok (.iconst 0, 1) := by decide +kernel
theorem dX1_isPlace_15 : decode cX1_isPlace 15 = .ok (.ireturn, 1) := by decide +kernel
set_option maxRecDepth 20000 in
theorem ggX1_hallAt_X1_isPlace : GoodIn wsX1_hallAt wsX1_isPlace := goodIn_r _ [5] (by decide +kernel) (by decide +kernel)
set_option maxRecDepth 20000 in
theorem gX1_hallAt_X1_isPlace : GoodIn wsX1_hallAt (va_wsS RX1 34 yX1_isPlace wsX1_isPlace) := goodIn_app (goodIn_of _ (by decide +kernel)) ggX1_hallAt_X1_isPlace
theorem dX1_hallAt_0 : decode cX1_hallAt 0 = .ok (.iload_n 1, 1) := by decide +kernel
theorem dX1_hallAt_1 : decode cX1_hallAt 1 = .ok (.invokestatic 34, 3) := by decide +kernel
theorem dX1_hallAt_4 : decode cX1_hallAt 4 = .ok (.ifCond .eq 12, 3) := by decide +kernel
theorem dX1_hallAt_7 : decode cX1_hallAt 7 = .ok (.aload_n 0, 1) := by decide +kernel
theorem dX1_hallAt_8 : decode cX1_hallAt 8 = .ok (.getfield 11, 3) := by decide +kernel
theorem dX1_hallAt_11 : decode cX1_hallAt 11 = .ok (.iload_n 1, 1) := by decide +kernel
theorem dX1_hallAt_12 : decode cX1_hallAt 12 = .ok (.aaload, 1) := by decide +kernel
theorem dX1_hallAt_13 : decode cX1_hallAt 13 = .ok (.goto 4, 3) := by decide +kernel
theorem dX1_hallAt_16 : decode cX1_hallAt 16 = .ok (.aconst_null, 1) := by decide +kernel
theorem dX1_hallAt_17 : decode cX1_hallAt 17 = .ok (.areturn, 1) := by decide +kernel
theorem dX1_placesWithHall_0 : decode cX1_placesWithHall 0 = .ok (.iconst 0, 1) := by decide +kernel
theorem dX1_placesWithHall_1 : decode cX1_placesWithHall 1 = .ok (.istore_n 1, 1) := by decide +kernel
theorem dX1_placesWithHall_2 : decode cX1_placesWithHall 2 = .ok (.iconst 0, 1) := by decide +kernel
theorem dX1_placesWithHall_3 : decode cX1_placesWithHall 3 = .ok (.istore_n 2, 1) := by decide +kernel
theorem dX1_placesWithHall_4 : decode cX1_placesWithHall 4 = .ok (.iload_n 2, 1) := by decide +kernel
theorem dX1_placesWithHall_5 : decode cX1_placesWithHall 5 = .ok (.bipush 10, 2) := by decide +kernel
theorem dX1_placesWithHall_7 : decode cX1_placesWithHall 7 = .ok (.if_icmp .ge 21, 3) := by decide +kernel
theorem dX1_placesWithHall_10 : decode cX1_placesWithHall 10 = .ok (.aload_n 0, 1) := by decide +kernel
theorem dX1_placesWithHall_11 : decode cX1_placesWithHall 11 = .ok (.getfield 11, 3) := by decide +kernel
theorem dX1_placesWithHall_14 : decode cX1_placesWithHall 14 = .ok (.iload_n 2, 1) := by decide +kernel
theorem dX1_placesWithHall_15 : decode cX1_placesWithHall 15 = .ok (.aaload, 1) := by decide +kernel
theorem dX1_placesWithHall_16 : decode cX1_placesWithHall 16 = .ok (.ifnull 6, 3) := by decide +kernel
theorem dX1_placesWithHall_19 : decode cX1_placesWithHall 19 = .ok (.iinc 1 1, 3) := by decide +kernel
theorem dX1_placesWithHall_22 : decode cX1_placesWithHall 22 = .ok (.iinc 2 1, 3) := by decide +kernel
theorem dX1_placesWithHall_25 : decode cX1_placesWithHall 25 = .ok (.goto (-21), 3) := by decide +kernel
theorem dX1_placesWithHall_28 : decode cX1_placesWithHall 28 = .ok (.iload_n 1, 1) := by decide +kernel
theorem dX1_placesWithHall_29 : decode cX1_placesWithHall 29 = .ok (.ireturn, 1) := by decide +kernel
set_option maxRecDepth 20000 in
theorem ggX1_seekPartner_X1_hallAt : GoodIn wsX1_seekPartner wsX1_hallAt := goodIn_r _ [5, 6, 7, 8, 4, 9, 19, 20, 21, 22, 23, 24, 25, 26, 27, 28, 29, 30] (by decide +kernel) (by decide +kernel)
set_option maxRecDepth 20000 in
theorem gX1_seekPartner_X1_hallAt : GoodIn wsX1_seekPartner (wsV RX1 75 RX1 yX1_hallAt wsX1_hallAt) := goodIn_app (goodIn_of _ (by decide +kernel)) ggX1_seekPartner_X1_hallAt
theorem dX1_seekPartner_0 : decode cX1_seekPartner 0 = .ok (.iload_n 1, 1) := by decide +kernel
theorem dX1_seekPartner_1 : decode cX1_seekPartner 1 = .ok (.iconst 1, 1) := by decide +kernel
theorem dX1_seekPartner_2 : decode cX1_seekPartner 2 = .ok (.iadd, 1) := by decide +kernel
theorem dX1_seekPartner_3 : decode cX1_seekPartner 3 = .ok (.istore 5, 2) := by decide +kernel
theorem dX1_seekPartner_5 : decode cX1_seekPartner 5 = .ok (.iload 5, 2) := by decide +kernel
theorem dX1_seekPartner_7 : decode cX1_seekPartner 7 = .ok (.bipush 10, 2) := by decide +kernel
theorem dX1_seekPartner_9 : decode cX1_seekPartner 9 = .ok (.if_icmp .ge 63, 3) := by decide +kernel
theorem dX1_seekPartner_12 : decode cX1_seekPartner 12 = .ok (.aload_n 0, 1) := by decide +kernel
theorem dX1_seekPartner_13 : decode cX1_seekPartner 13 = .ok (.iload 5, 2) := by decide +kernel
theorem dX1_seekPartner_15 : decode cX1_seekPartner 15 = .ok (.invokevirtual 75, 3) := by decide +kernel
theorem dX1_seekPartner_18 : decode cX1_seekPartner 18 = .ok (.astore 6, 2) := by decide +kernel
theorem dX1_seekPartner_20 : decode cX1_seekPartner 20 = .ok (.aload 6, 2) := by decide +kernel
theorem dX1_seekPartner_22 : decode cX1_seekPartner 22 = .ok (.ifnull 44, 3) := by decide +kernel
theorem dX1_seekPartner_25 : decode cX1_seekPartner 25 = .ok (.aload 6, 2) := by decide +kernel
theorem dX1_seekPartner_27 : decode cX1_seekPartner 27 = .ok (.dup, 1) := by decide +kernel
theorem dX1_seekPartner_28 : decode cX1_seekPartner 28 = .ok (.getfield 68, 3) := by decide +kernel
theorem dX1_seekPartner_31 : decode cX1_seekPartner 31 = .ok (.iconst 1, 1) := by decide +kernel
theorem dX1_seekPartner_32 : decode cX1_seekPartner 32 = .ok (.iadd, 1) := by decide +kernel
theorem dX1_seekPartner_33 : decode cX1_seekPartner 33 = .ok (.putfield 68, 3) := by decide +kernel
theorem dX1_seekPartner_36 : decode cX1_seekPartner 36 = .ok (.aload_n 2, 1) := by decide +kernel
theorem dX1_seekPartner_37 : decode cX1_seekPartner 37 = .ok (.getfield 83, 3) := by decide +kernel
theorem dX1_seekPartner_40 : decode cX1_seekPartner 40 = .ok (.i2l, 1) := by decide +kernel
theorem dX1_seekPartner_41 : decode cX1_seekPartner 41 = .ok (.aload 6, 2) := by decide +kernel
theorem dX1_seekPartner_43 : decode cX1_seekPartner 43 = .ok (.getfield 83, 3) := by decide +kernel
theorem dX1_seekPartner_46 : decode cX1_seekPartner 46 = .ok (.i2l, 1) := by decide +kernel
theorem dX1_seekPartner_47 : decode cX1_seekPartner 47 = .ok (.ladd, 1) := by decide +kernel
theorem dX1_seekPartner_48 : decode cX1_seekPartner 48 = .ok (.lload_n 3, 1) := by decide +kernel
theorem dX1_seekPartner_49 : decode cX1_seekPartner 49 = .ok (.lcmp, 1) := by decide +kernel
theorem dX1_seekPartner_50 : decode cX1_seekPartner 50 = .ok (.ifCond .ne 6, 3) := by decide +kernel
theorem dX1_seekPartner_53 : decode cX1_seekPartner 53 = .ok (.iload 5, 2) := by decide +kernel
theorem dX1_seekPartner_55 : decode cX1_seekPartner 55 = .ok (.ireturn, 1) := by decide +kernel
theorem dX1_seekPartner_56 : decode cX1_seekPartner 56 = .ok (.aload 6, 2) := by decide +kernel
theorem dX1_seekPartner_58 : decode cX1_seekPartner 58 = .ok (.getfield 83, 3) := by decide +kernel
theorem dX1_seekPartner_61 : decode cX1_seekPartner 61 = .ok (.ifCond .ge 5, 3) := by decide +kernel
theorem dX1_seekPartner_64 : decode cX1_seekPartner 64 = .ok (.iconst (-1), 1) := by decide +kernel
theorem dX1_seekPartner_65 : decode cX1_seekPartner 65 = .ok (.ireturn, 1) := by decide +kernel
theorem dX1_seekPartner_66 : decode cX1_seekPartner 66 = .ok (.iinc 5 1, 3) := by decide +kernel
theorem dX1_seekPartner_69 : decode cX1_seekPartner 69 = .ok (.goto (-64), 3) := by decide +kernel
theorem dX1_seekPartner_72 : decode cX1_seekPartner 72 = .ok (.iconst (-1), 1) := by decide +kernel
theorem dX1_seekPartner_73 : decode cX1_seekPartner 73 = .ok (.ireturn, 1) := by decide +kernel
set_option maxRecDepth 20000 in
theorem ggX1_walkTo_X1_findPath : GoodIn wsX1_walkTo wsX1_findPath := goodIn_r _ [7, 8, 9, 10, 11, 6, 12, 106, 107, 108, 109, 110, 111, 112, 113, 114, 115, 116, 117] (by decide +kernel) (by decide +kernel)
set_option maxRecDepth 20000 in
theorem gX1_walkTo_X1_findPath : GoodIn wsX1_walkTo (wsV RX1 93 RX1 yX1_findPath wsX1_findPath) := goodIn_app (goodIn_of _ (by decide +kernel)) ggX1_walkTo_X1_findPath
set_option maxRecDepth 20000 in
theorem ggX1_walkTo_X1_passPath : GoodIn wsX1_walkTo wsX1_passPath := goodIn_r _ [16, 17, 18, 19, 20, 8, 21, 22, 23, 6, 24, 25, 10, 11, 12, 26, 27, 28, 29, 2, 30, 31, 32, 33, 34, 35, 36, 37, 38, 39, 40, 41, 42, 43, 44, 45, 46, 47, 48, 49, 50, 51, 52, 53, 54, 55, 56, 57, 58, 59, 60, 61, 106, 107, 108, 109, 110, 111, 112, 113, 114, 115, 116, 117, 97, 98, 99, 100, 101, 102, 103, 104, 105] (by decide +kernel) (by decide +kernel)
set_option maxRecDepth 20000 in
theorem gX1_walkTo_X1_passPath : GoodIn wsX1_walkTo (wsV RX1 99 RX1 yX1_passPath wsX1_passPath) := goodIn_app (goodIn_of _ (by decide +kernel)) ggX1_walkTo_X1_passPath
set_option maxRecDepth 20000 in
theorem ggX1_walkTo_X1_doDeed : GoodIn wsX1_walkTo wsX1_doDeed := goodIn_r _ [69, 25, 2, 70, 71, 72, 6, 73, 30, 74, 75, 76, 77, 78, 79, 80, 81, 35, 82, 83, 84, 85, 86, 87, 88, 89, 90, 91, 92, 93, 94, 95, 96, 0, 1, 3, 4, 5, 7, 8, 9, 10, 11, 12, 13, 14, 15, 16, 17, 18, 19, 20, 21, 22, 23, 24, 26, 27, 28, 29, 31, 32, 33, 34, 36, 37, 38, 39, 40, 41, 42, 43, 44, 45, 46, 47, 48, 49, 50, 51, 52, 53, 54, 55, 56, 57, 58, 59, 60, 61, 62, 63, 64, 65, 66, 67, 68, 97, 98, 99, 100, 101, 102, 103, 104, 105, 106, 107, 108, 109, 110, 111, 112, 113, 114, 115, 116, 117] (by decide +kernel) (by decide +kernel)
set_option maxRecDepth 20000 in
theorem gX1_walkTo_X1_doDeed : GoodIn wsX1_walkTo (wsV RX1 102 RX1 yX1_doDeed wsX1_doDeed) := goodIn_app (goodIn_of _ (by decide +kernel)) ggX1_walkTo_X1_doDeed
set_option maxRecDepth 20000 in
theorem ggX1_walkTo_X1_leaveUntil : GoodIn wsX1_walkTo wsX1_leaveUntil := goodIn_r _ [68, 2, 30, 44, 37, 45, 46, 47, 48, 49, 50, 6, 51, 52, 53, 106, 107, 108, 109, 110, 111, 112, 113, 114, 115, 116, 117, 97, 98, 99, 100, 101, 102, 103, 104, 105] (by decide +kernel) (by decide +kernel)
set_option maxRecDepth 20000 in
theorem gX1_walkTo_X1_leaveUntil : GoodIn wsX1_walkTo (wsV RX1 106 RX1 yX1_leaveUntil wsX1_leaveUntil) := goodIn_app (goodIn_of _ (by decide +kernel)) ggX1_walkTo_X1_leaveUntil
theorem dX1_walkTo_0 : decode cX1_walkTo 0 = .ok (.iload 4, 2) := by decide +kernel
theorem dX1_walkTo_2 : decode cX1_walkTo 2 = .ok (.iconst 3, 1) := by decide +kernel
theorem dX1_walkTo_3 : decode cX1_walkTo 3 = .ok (.if_icmp .lt 5, 3) := by decide +kernel
theorem dX1_walkTo_6 : decode cX1_walkTo 6 = .ok (.iconst 2, 1) := by decide +kernel
theorem dX1_walkTo_7 : decode cX1_walkTo 7 = .ok (.ireturn, 1) := by decide +kernel
theorem dX1_walkTo_8 : decode cX1_walkTo 8 = .ok (.aload_n 0, 1) := by decide +kernel
theorem dX1_walkTo_9 : decode cX1_walkTo 9 = .ok (.dup, 1) := by decide +kernel
theorem dX1_walkTo_10 : decode cX1_walkTo 10 = .ok (.getfield 90, 3) := by decide +kernel
theorem dX1_walkTo_13 : decode cX1_walkTo 13 = .ok (.iconst 1, 1) := by decide +kernel
theorem dX1_walkTo_14 : decode cX1_walkTo 14 = .ok (.iadd, 1) := by decide +kernel
theorem dX1_walkTo_15 : decode cX1_walkTo 15 = .ok (.putfield 90, 3) := by decide +kernel
theorem dX1_walkTo_18 : decode cX1_walkTo 18 = .ok (.aload_n 0, 1) := by decide +kernel
theorem dX1_walkTo_19 : decode cX1_walkTo 19 = .ok (.iload_n 1, 1) := by decide +kernel
theorem dX1_walkTo_20 : decode cX1_walkTo 20 = .ok (.invokevirtual 93, 3) := by decide +kernel
theorem dX1_walkTo_23 : decode cX1_walkTo 23 = .ok (.istore 5, 2) := by decide +kernel
theorem dX1_walkTo_25 : decode cX1_walkTo 25 = .ok (.iload 5, 2) := by decide +kernel
theorem dX1_walkTo_27 : decode cX1_walkTo 27 = .ok (.ifCond .ne 6, 3) := by decide +kernel
theorem dX1_walkTo_30 : decode cX1_walkTo 30 = .ok (.bipush 8, 2) := by decide +kernel
theorem dX1_walkTo_32 : decode cX1_walkTo 32 = .ok (.ireturn, 1) := by decide +kernel
theorem dX1_walkTo_33 : decode cX1_walkTo 33 = .ok (.aload_n 0, 1) := by decide +kernel
theorem dX1_walkTo_34 : decode cX1_walkTo 34 = .ok (.getfield 96, 3) := by decide +kernel
theorem dX1_walkTo_37 : decode cX1_walkTo 37 = .ok (.istore 6, 2) := by decide +kernel
theorem dX1_walkTo_39 : decode cX1_walkTo 39 = .ok (.aload_n 0, 1) := by decide +kernel
theorem dX1_walkTo_40 : decode cX1_walkTo 40 = .ok (.iload 5, 2) := by decide +kernel
theorem dX1_walkTo_42 : decode cX1_walkTo 42 = .ok (.invokevirtual 99, 3) := by decide +kernel
theorem dX1_walkTo_45 : decode cX1_walkTo 45 = .ok (.istore 7, 2) := by decide +kernel
theorem dX1_walkTo_47 : decode cX1_walkTo 47 = .ok (.iload 7, 2) := by decide +kernel
theorem dX1_walkTo_49 : decode cX1_walkTo 49 = .ok (.ifCond .ne 15, 3) := by decide +kernel
theorem dX1_walkTo_52 : decode cX1_walkTo 52 = .ok (.aload_n 0, 1) := by decide +kernel
theorem dX1_walkTo_53 : decode cX1_walkTo 53 = .ok (.iload_n 2, 1) := by decide +kernel
theorem dX1_walkTo_54 : decode cX1_walkTo 54 = .ok (.iload_n 3, 1) := by decide +kernel
theorem dX1_walkTo_55 : decode cX1_walkTo 55 = .ok (.iload 4, 2) := by decide +kernel
theorem dX1_walkTo_57 : decode cX1_walkTo 57 = .ok (.iconst 1, 1) := by decide +kernel
theorem dX1_walkTo_58 : decode cX1_walkTo 58 = .ok (.iadd, 1) := by decide +kernel
theorem dX1_walkTo_59 : decode cX1_walkTo 59 = .ok (.invokevirtual 102, 3) := by decide +kernel
theorem dX1_walkTo_62 : decode cX1_walkTo 62 = .ok (.istore 7, 2) := by decide +kernel
theorem dX1_walkTo_64 : decode cX1_walkTo 64 = .ok (.aload_n 0, 1) := by decide +kernel
theorem dX1_walkTo_65 : decode cX1_walkTo 65 = .ok (.iload 6, 2) := by decide +kernel
theorem dX1_walkTo_67 : decode cX1_walkTo 67 = .ok (.invokevirtual 106, 3) := by decide +kernel
theorem dX1_walkTo_70 : decode cX1_walkTo 70 = .ok (.iload 7, 2) := by decide +kernel
theorem dX1_walkTo_72 : decode cX1_walkTo 72 = .ok (.ireturn, 1) := by decide +kernel
set_option maxRecDepth 20000 in
theorem ggX1_findPath_X1_isPlace : GoodIn wsX1_findPath wsX1_isPlace := goodIn_r _ [6] (by decide +kernel) (by decide +kernel)
set_option maxRecDepth 20000 in
theorem gX1_findPath_X1_isPlace : GoodIn wsX1_findPath (va_wsS RX1 34 yX1_isPlace wsX1_isPlace) := goodIn_app (goodIn_of _ (by decide +kernel)) ggX1_findPath_X1_isPlace
theorem dX1_findPath_0 : decode cX1_findPath 0 = .ok (.iload_n 1, 1) := by decide +kernel
theorem dX1_findPath_1 : decode cX1_findPath 1 = .ok (.istore_n 2, 1) := by decide +kernel
theorem dX1_findPath_2 : decode cX1_findPath 2 = .ok (.iconst 0, 1) := by decide +kernel
theorem dX1_findPath_3 : decode cX1_findPath 3 = .ok (.istore_n 3, 1) := by decide +kernel
theorem dX1_findPath_4 : decode cX1_findPath 4 = .ok (.iload_n 2, 1) := by decide +kernel
theorem dX1_findPath_5 : decode cX1_findPath 5 = .ok (.invokestatic 34, 3) := by decide +kernel
theorem dX1_findPath_8 : decode cX1_findPath 8 = .ok (.ifCond .eq 29, 3) := by decide +kernel
theorem dX1_findPath_11 : decode cX1_findPath 11 = .ok (.iload_n 3, 1) := by decide +kernel
theorem dX1_findPath_12 : decode cX1_findPath 12 = .ok (.bipush 10, 2) := by decide +kernel
theorem dX1_findPath_14 : decode cX1_findPath 14 = .ok (.if_icmp .ge 23, 3) := by decide +kernel
theorem dX1_findPath_17 : decode cX1_findPath 17 = .ok (.aload_n 0, 1) := by decide +kernel
theorem dX1_findPath_18 : decode cX1_findPath 18 = .ok (.getfield 19, 3) := by decide +kernel
theorem dX1_findPath_21 : decode cX1_findPath 21 = .ok (.iload_n 3, 1) := by decide +kernel
theorem dX1_findPath_22 : decode cX1_findPath 22 = .ok (.iload_n 2, 1) := by decide +kernel
theorem dX1_findPath_23 : decode cX1_findPath 23 = .ok (.iastore, 1) := by decide +kernel
theorem dX1_findPath_24 : decode cX1_findPath 24 = .ok (.iinc 3 1, 3) := by decide +kernel
theorem dX1_findPath_27 : decode cX1_findPath 27 = .ok (.aload_n 0, 1) := by decide +kernel
theorem dX1_findPath_28 : decode cX1_findPath 28 = .ok (.getfield 15, 3) := by decide +kernel
theorem dX1_findPath_31 : decode cX1_findPath 31 = .ok (.iload_n 2, 1) := by decide +kernel
theorem dX1_findPath_32 : decode cX1_findPath 32 = .ok (.iaload, 1) := by decide +kernel
theorem dX1_findPath_33 : decode cX1_findPath 33 = .ok (.istore_n 2, 1) := by decide +kernel
theorem dX1_findPath_34 : decode cX1_findPath 34 = .ok (.goto (-30), 3) := by decide +kernel
theorem dX1_findPath_37 : decode cX1_findPath 37 = .ok (.iload_n 2, 1) := by decide +kernel
theorem dX1_findPath_38 : decode cX1_findPath 38 = .ok (.iconst (-1), 1) := by decide +kernel
theorem dX1_findPath_39 : decode cX1_findPath 39 = .ok (.if_icmp .ne 7, 3) := by decide +kernel
theorem dX1_findPath_42 : decode cX1_findPath 42 = .ok (.iload_n 3, 1) := by decide +kernel
theorem dX1_findPath_43 : decode cX1_findPath 43 = .ok (.goto 4, 3) := by decide +kernel
theorem dX1_findPath_46 : decode cX1_findPath 46 = .ok (.iconst 0, 1) := by decide +kernel
theorem dX1_findPath_47 : decode cX1_findPath 47 = .ok (.ireturn, 1) := by decide +kernel
set_option maxRecDepth 20000 in
theorem ggX1_passPath_X1_hallAt : GoodIn wsX1_passPath wsX1_hallAt := goodIn_r _ [10, 11, 12, 13, 9, 14, 52, 53, 54, 55, 56, 57, 58, 59, 60, 61, 62, 63] (by decide +kernel) (by decide +kernel)
set_option maxRecDepth 20000 in
theorem gX1_passPath_X1_hallAt : GoodIn wsX1_passPath (wsV RX1 75 RX1 yX1_hallAt wsX1_hallAt) := goodIn_app (goodIn_of _ (by decide +kernel)) ggX1_passPath_X1_hallAt
set_option maxRecDepth 20000 in
theorem ggX1_passPath_X1_passInto : GoodIn wsX1_passPath wsX1_passInto := goodIn_r _ [18, 19, 20, 21, 22, 23, 3, 24, 25, 26, 27, 28, 29, 30, 31, 32, 33, 34, 35, 36, 37, 38, 39, 40, 9, 41, 42, 43, 44, 45, 46, 47, 48, 49, 50, 51, 52, 53, 54, 55, 56, 57, 58, 59, 60, 61, 62, 63, 64, 65, 66, 67, 68, 69, 70, 71, 72] (by decide +kernel) (by decide +kernel)
set_option maxRecDepth 20000 in
theorem gX1_passPath_X1_passInto : GoodIn wsX1_passPath (wsV RX1 110 RX1 yX1_passInto wsX1_passInto) := goodIn_app (goodIn_of _ (by decide +kernel)) ggX1_passPath_X1_passInto
theorem dX1_passPath_0 : decode cX1_passPath 0 = .ok (.iload_n 1, 1) := by decide +kernel
theorem dX1_passPath_1 : decode cX1_passPath 1 = .ok (.bipush 10, 2) := by decide +kernel
theorem dX1_passPath_3 : decode cX1_passPath 3 = .ok (.invokestatic 49, 3) := by decide +kernel
theorem dX1_passPath_6 : decode cX1_passPath 6 = .ok (.iconst 1, 1) := by decide +kernel
theorem dX1_passPath_7 : decode cX1_passPath 7 = .ok (.isub, 1) := by decide +kernel
theorem dX1_passPath_8 : decode cX1_passPath 8 = .ok (.istore_n 2, 1) := by decide +kernel
theorem dX1_passPath_9 : decode cX1_passPath 9 = .ok (.iload_n 2, 1) := by decide +kernel
theorem dX1_passPath_10 : decode cX1_passPath 10 = .ok (.ifCond .lt 43, 3) := by decide +kernel
theorem dX1_passPath_13 : decode cX1_passPath 13 = .ok (.aload_n 0, 1) := by decide +kernel
theorem dX1_passPath_14 : decode cX1_passPath 14 = .ok (.aload_n 0, 1) := by decide +kernel
theorem dX1_passPath_15 : decode cX1_passPath 15 = .ok (.getfield 19, 3) := by decide +kernel
theorem dX1_passPath_18 : decode cX1_passPath 18 = .ok (.iload_n 2, 1) := by decide +kernel
theorem dX1_passPath_19 : decode cX1_passPath 19 = .ok (.iaload, 1) := by decide +kernel
theorem dX1_passPath_20 : decode cX1_passPath 20 = .ok (.invokevirtual 75, 3) := by decide +kernel
theorem dX1_passPath_23 : decode cX1_passPath 23 = .ok (.astore_n 3, 1) := by decide +kernel
theorem dX1_passPath_24 : decode cX1_passPath 24 = .ok (.aload_n 3, 1) := by decide +kernel
theorem dX1_passPath_25 : decode cX1_passPath 25 = .ok (.ifnonnull 7, 3) := by decide +kernel
theorem dX1_passPath_28 : decode cX1_passPath 28 = .ok (.iconst 1, 1) := by decide +kernel
theorem dX1_passPath_29 : decode cX1_passPath 29 = .ok (.goto 8, 3) := by decide +kernel
theorem dX1_passPath_32 : decode cX1_passPath 32 = .ok (.aload_n 0, 1) := by decide +kernel
theorem dX1_passPath_33 : decode cX1_passPath 33 = .ok (.aload_n 3, 1) := by decide +kernel
theorem dX1_passPath_34 : decode cX1_passPath 34 = .ok (.invokevirtual 110, 3) := by decide +kernel
theorem dX1_passPath_37 : decode cX1_passPath 37 = .ok (.istore 4, 2) := by decide +kernel
theorem dX1_passPath_39 : decode cX1_passPath 39 = .ok (.iload 4, 2) := by decide +kernel
theorem dX1_passPath_41 : decode cX1_passPath 41 = .ok (.ifCond .eq 6, 3) := by decide +kernel
theorem dX1_passPath_44 : decode cX1_passPath 44 = .ok (.iload 4, 2) := by decide +kernel
theorem dX1_passPath_46 : decode cX1_passPath 46 = .ok (.ireturn, 1) := by decide +kernel
theorem dX1_passPath_47 : decode cX1_passPath 47 = .ok (.iinc 2 (-1), 3) := by decide +kernel
theorem dX1_passPath_50 : decode cX1_passPath 50 = .ok (.goto (-41), 3) := by decide +kernel
theorem dX1_passPath_53 : decode cX1_passPath 53 = .ok (.iconst 0, 1) := by decide +kernel
theorem dX1_passPath_54 : decode cX1_passPath 54 = .ok (.ireturn, 1) := by decide +kernel
set_option maxRecDepth 20000 in
theorem ggX1_passInto_X0_enter : GoodIn wsX1_passInto wsX0_enter := goodIn_r _ [12, 13, 14, 15, 16, 5, 6, 7, 48, 49, 50, 51, 52, 53, 54, 55, 56] (by decide +kernel) (by decide +kernel)
set_option maxRecDepth 20000 in
theorem gX1_passInto_X0_enter_n114 : GoodIn wsX1_passInto (wsX0_enter) := ggX1_passInto_X0_enter
set_option maxRecDepth 20000 in
theorem ggX1_passInto_X0_mark : GoodIn wsX1_passInto wsX0_mark := goodIn_r _ [19, 20, 48, 49, 50, 51, 52, 53, 54, 55, 56] (by decide +kernel) (by decide +kernel)
set_option maxRecDepth 20000 in
theorem gX1_passInto_X0_mark_n120 : GoodIn wsX1_passInto (wsX0_mark) := ggX1_passInto_X0_mark
set_option maxRecDepth 20000 in
theorem ggX1_passInto_X1_leaveMark : GoodIn wsX1_passInto wsX1_leaveMark := goodIn_r _ [25, 26, 27, 36, 37, 38, 39, 40, 41, 42, 43, 44, 45, 46, 47] (by decide +kernel) (by decide +kernel)
set_option maxRecDepth 20000 in
theorem gX1_passInto_X1_leaveMark : GoodIn wsX1_passInto (wsV RX1 123 RX1 yX1_leaveMark wsX1_leaveMark) := goodIn_app (goodIn_of _ (by decide +kernel)) ggX1_passInto_X1_leaveMark
set_option maxRecDepth 20000 in
theorem ggX1_passInto_X0_guardIsInTheWay : GoodIn wsX1_passInto wsX0_guardIsInTheWay := goodIn_r _ [30, 31, 13, 48, 49, 50, 51, 52, 53, 54, 55, 56] (by decide +kernel) (by decide +kernel)
set_option maxRecDepth 20000 in
theorem gX1_passInto_X0_guardIsInTheWay_n126 : GoodIn wsX1_passInto (wsX0_guardIsInTheWay) := ggX1_passInto_X0_guardIsInTheWay
set_option maxRecDepth 20000 in
theorem ggX1_passInto_X0_charge : GoodIn wsX1_passInto wsX0_charge := goodIn_r _ [34, 31, 35, 13, 48, 49, 50, 51, 52, 53, 54, 55, 56] (by decide +kernel) (by decide +kernel)
set_option maxRecDepth 20000 in
theorem gX1_passInto_X0_charge_n130 : GoodIn wsX1_passInto (wsX0_charge) := ggX1_passInto_X0_charge
theorem dX1_passInto_0 : decode cX1_passInto 0 = .ok (.aload_n 1, 1) := by decide +kernel
theorem dX1_passInto_1 : decode cX1_passInto 1 = .ok (.invokevirtual 114, 3) := by decide +kernel
theorem dX1_passInto_4 : decode cX1_passInto 4 = .ok (.aload_n 0, 1) := by decide +kernel
theorem dX1_passInto_5 : decode cX1_passInto 5 = .ok (.getfield 96, 3) := by decide +kernel
theorem dX1_passInto_8 : decode cX1_passInto 8 = .ok (.ifCond .lt 35, 3) := by decide +kernel
theorem dX1_passInto_11 : decode cX1_passInto 11 = .ok (.aload_n 0, 1) := by decide +kernel
theorem dX1_passInto_12 : decode cX1_passInto 12 = .ok (.getfield 96, 3) := by decide +kernel
theorem dX1_passInto_15 : decode cX1_passInto 15 = .ok (.aload_n 0, 1) := by decide +kernel
theorem dX1_passInto_16 : decode cX1_passInto 16 = .ok (.getfield 22, 3) := by decide +kernel
theorem dX1_passInto_19 : decode cX1_passInto 19 = .ok (.arraylength, 1) := by decide +kernel
theorem dX1_passInto_20 : decode cX1_passInto 20 = .ok (.if_icmp .ge 23, 3) := by decide +kernel
theorem dX1_passInto_23 : decode cX1_passInto 23 = .ok (.aload_n 0, 1) := by decide +kernel
theorem dX1_passInto_24 : decode cX1_passInto 24 = .ok (.getfield 22, 3) := by decide +kernel
theorem dX1_passInto_27 : decode cX1_passInto 27 = .ok (.aload_n 0, 1) := by decide +kernel
theorem dX1_passInto_28 : decode cX1_passInto 28 = .ok (.getfield 96, 3) := by decide +kernel
theorem dX1_passInto_31 : decode cX1_passInto 31 = .ok (.aload_n 1, 1) := by decide +kernel
theorem dX1_passInto_32 : decode cX1_passInto 32 = .ok (.aastore, 1) := by decide +kernel
theorem dX1_passInto_33 : decode cX1_passInto 33 = .ok (.aload_n 0, 1) := by decide +kernel
theorem dX1_passInto_34 : decode cX1_passInto 34 = .ok (.dup, 1) := by decide +kernel
theorem dX1_passInto_35 : decode cX1_passInto 35 = .ok (.getfield 96, 3) := by decide +kernel
theorem dX1_passInto_38 : decode cX1_passInto 38 = .ok (.iconst 1, 1) := by decide +kernel
theorem dX1_passInto_39 : decode cX1_passInto 39 = .ok (.iadd, 1) := by decide +kernel
theorem dX1_passInto_40 : decode cX1_passInto 40 = .ok (.putfield 96, 3) := by decide +kernel
theorem dX1_passInto_43 : decode cX1_passInto 43 = .ok (.aload_n 0, 1) := by decide +kernel
theorem dX1_passInto_44 : decode cX1_passInto 44 = .ok (.aload_n 0, 1) := by decide +kernel
theorem dX1_passInto_45 : decode cX1_passInto 45 = .ok (.getfield 58, 3) := by decide +kernel
theorem dX1_passInto_48 : decode cX1_passInto 48 = .ok (.aload_n 0, 1) := by decide +kernel
theorem dX1_passInto_49 : decode cX1_passInto 49 = .ok (.getfield 96, 3) := by decide +kernel
theorem dX1_passInto_52 : decode cX1_passInto 52 = .ok (.invokestatic 117, 3) := by decide +kernel
theorem dX1_passInto_55 : decode cX1_passInto 55 = .ok (.putfield 58, 3) := by decide +kernel
theorem dX1_passInto_58 : decode cX1_passInto 58 = .ok (.aload_n 0, 1) := by decide +kernel
theorem dX1_passInto_59 : decode cX1_passInto 59 = .ok (.aload_n 1, 1) := by decide +kernel
theorem dX1_passInto_60 : decode cX1_passInto 60 = .ok (.invokevirtual 120, 3) := by decide +kernel
theorem dX1_passInto_63 : decode cX1_passInto 63 = .ok (.invokevirtual 123, 3) := by decide +kernel
theorem dX1_passInto_66 : decode cX1_passInto 66 = .ok (.aload_n 1, 1) := by decide +kernel
theorem dX1_passInto_67 : decode cX1_passInto 67 = .ok (.invokevirtual 126, 3) := by decide +kernel
theorem dX1_passInto_70 : decode cX1_passInto 70 = .ok (.ifCond .eq 6, 3) := by decide +kernel
theorem dX1_passInto_73 : decode cX1_passInto 73 = .ok (.bipush 21, 2) := by decide +kernel
theorem dX1_passInto_75 : decode cX1_passInto 75 = .ok (.ireturn, 1) := by decide +kernel
theorem dX1_passInto_76 : decode cX1_passInto 76 = .ok (.aload_n 1, 1) := by decide +kernel
theorem dX1_passInto_77 : decode cX1_passInto 77 = .ok (.invokevirtual 130, 3) := by decide +kernel
theorem dX1_passInto_80 : decode cX1_passInto 80 = .ok (.istore_n 2, 1) := by decide +kernel
theorem dX1_passInto_81 : decode cX1_passInto 81 = .ok (.aload_n 0, 1) := by decide +kernel
theorem dX1_passInto_82 : decode cX1_passInto 82 = .ok (.getfield 45, 3) := by decide +kernel
theorem dX1_passInto_85 : decode cX1_passInto 85 = .ok (.iload_n 2, 1) := by decide +kernel
theorem dX1_passInto_86 : decode cX1_passInto 86 = .ok (.if_icmp .ge 6, 3) := by decide +kernel
theorem dX1_passInto_89 : decode cX1_passInto 89 = .ok (.bipush 20, 2) := by decide +kernel
theorem dX1_passInto_91 : decode cX1_passInto 91 = .ok (.ireturn, 1) := by decide +kernel
theorem dX1_passInto_92 : decode cX1_passInto 92 = .ok (.aload_n 0, 1) := by decide +kernel
theorem dX1_passInto_93 : decode cX1_passInto 93 = .ok (.dup, 1) := by decide +kernel
theorem dX1_passInto_94 : decode cX1_passInto 94 = .ok (.getfield 45, 3) := by decide +kernel
theorem dX1_passInto_97 : decode cX1_passInto 97 = .ok (.iload_n 2, 1) := by decide +kernel
theorem dX1_passInto_98 : decode cX1_passInto 98 = .ok (.isub, 1) := by decide +kernel
theorem dX1_passInto_99 : decode cX1_passInto 99 = .ok (.putfield 45, 3) := by decide +kernel
theorem dX1_passInto_102 : decode cX1_passInto 102 = .ok (.aload_n 1, 1) := by decide +kernel
theorem dX1_passInto_103 : decode cX1_passInto 103 = .ok (.dup, 1) := by decide +kernel
theorem dX1_passInto_104 : decode cX1_passInto 104 = .ok (.getfield 133, 3) := by decide +kernel
theorem dX1_passInto_107 : decode cX1_passInto 107 = .ok (.iload_n 2, 1) := by decide +kernel
theorem dX1_passInto_108 : decode cX1_passInto 108 = .ok (.iadd, 1) := by decide +kernel
theorem dX1_passInto_109 : decode cX1_passInto 109 = .ok (.putfield 133, 3) := by decide +kernel
theorem dX1_passInto_112 : decode cX1_passInto 112 = .ok (.iconst 0, 1) := by decide +kernel
theorem dX1_passInto_113 : decode cX1_passInto 113 = .ok (.ireturn, 1) := by decide +kernel
set_option maxRecDepth 20000 in
theorem ggX1_leaveUntil_X0_mark : GoodIn wsX1_leaveUntil wsX0_mark := goodIn_r _ [6, 7, 27, 28, 29, 30, 31, 32, 33, 34, 35] (by decide +kernel) (by decide +kernel)
set_option maxRecDepth 20000 in
theorem gX1_leaveUntil_X0_mark_n120 : GoodIn wsX1_leaveUntil (wsX0_mark) := ggX1_leaveUntil_X0_mark
set_option maxRecDepth 20000 in
theorem ggX1_leaveUntil_X1_leaveMark : GoodIn wsX1_leaveUntil wsX1_leaveMark := goodIn_r _ [12, 13, 14, 15, 16, 17, 18, 19, 20, 21, 22, 23, 24, 25, 26] (by decide +kernel) (by decide +kernel)
set_option maxRecDepth 20000 in
theorem gX1_leaveUntil_X1_leaveMark : GoodIn wsX1_leaveUntil (wsV RX1 123 RX1 yX1_leaveMark wsX1_leaveMark) := goodIn_app (goodIn_of _ (by decide +kernel)) ggX1_leaveUntil_X1_leaveMark
theorem dX1_leaveUntil_0 : decode cX1_leaveUntil 0 = .ok (.aload_n 0, 1) := by decide +kernel
theorem dX1_leaveUntil_1 : decode cX1_leaveUntil 1 = .ok (.getfield 96, 3) := by decide +kernel
theorem dX1_leaveUntil_4 : decode cX1_leaveUntil 4 = .ok (.iload_n 1, 1) := by decide +kernel
theorem dX1_leaveUntil_5 : decode cX1_leaveUntil 5 = .ok (.if_icmp .le 80, 3) := by decide +kernel
theorem dX1_leaveUntil_8 : decode cX1_leaveUntil 8 = .ok (.aload_n 0, 1) := by decide +kernel
theorem dX1_leaveUntil_9 : decode cX1_leaveUntil 9 = .ok (.getfield 96, 3) := by decide +kernel
theorem dX1_leaveUntil_12 : decode cX1_leaveUntil 12 = .ok (.ifCond .le 73, 3) := by decide +kernel
theorem dX1_leaveUntil_15 : decode cX1_leaveUntil 15 = .ok (.aload_n 0, 1) := by decide +kernel
theorem dX1_leaveUntil_16 : decode cX1_leaveUntil 16 = .ok (.getfield 96, 3) := by decide +kernel
theorem dX1_leaveUntil_19 : decode cX1_leaveUntil 19 = .ok (.aload_n 0, 1) := by decide +kernel
theorem dX1_leaveUntil_20 : decode cX1_leaveUntil 20 = .ok (.getfield 22, 3) := by decide +kernel
theorem dX1_leaveUntil_23 : decode cX1_leaveUntil 23 = .ok (.arraylength, 1) := by decide +kernel
theorem dX1_leaveUntil_24 : decode cX1_leaveUntil 24 = .ok (.if_icmp .gt 61, 3) := by decide +kernel
theorem dX1_leaveUntil_27 : decode cX1_leaveUntil 27 = .ok (.aload_n 0, 1) := by decide +kernel
theorem dX1_leaveUntil_28 : decode cX1_leaveUntil 28 = .ok (.dup, 1) := by decide +kernel
theorem dX1_leaveUntil_29 : decode cX1_leaveUntil 29 = .ok (.getfield 96, 3) := by decide +kernel
theorem dX1_leaveUntil_32 : decode cX1_leaveUntil 32 = .ok (.iconst 1, 1) := by decide +kernel
theorem dX1_leaveUntil_33 : decode cX1_leaveUntil 33 = .ok (.isub, 1) := by decide +kernel
theorem dX1_leaveUntil_34 : decode cX1_leaveUntil 34 = .ok (.putfield 96, 3) := by decide +kernel
theorem dX1_leaveUntil_37 : decode cX1_leaveUntil 37 = .ok (.aload_n 0, 1) := by decide +kernel
theorem dX1_leaveUntil_38 : decode cX1_leaveUntil 38 = .ok (.getfield 22, 3) := by decide +kernel
theorem dX1_leaveUntil_41 : decode cX1_leaveUntil 41 = .ok (.aload_n 0, 1) := by decide +kernel
theorem dX1_leaveUntil_42 : decode cX1_leaveUntil 42 = .ok (.getfield 96, 3) := by decide +kernel
theorem dX1_leaveUntil_45 : decode cX1_leaveUntil 45 = .ok (.aaload, 1) := by decide +kernel
theorem dX1_leaveUntil_46 : decode cX1_leaveUntil 46 = .ok (.astore_n 2, 1) := by decide +kernel
theorem dX1_leaveUntil_47 : decode cX1_leaveUntil 47 = .ok (.aload_n 0, 1) := by decide +kernel
theorem dX1_leaveUntil_48 : decode cX1_leaveUntil 48 = .ok (.getfield 22, 3) := by decide +kernel
theorem dX1_leaveUntil_51 : decode cX1_leaveUntil 51 = .ok (.aload_n 0, 1) := by decide +kernel
theorem dX1_leaveUntil_52 : decode cX1_leaveUntil 52 = .ok (.getfield 96, 3) := by decide +kernel
theorem dX1_leaveUntil_55 : decode cX1_leaveUntil 55 = .ok (.aconst_null, 1) := by decide +kernel
theorem dX1_leaveUntil_56 : decode cX1_leaveUntil 56 = .ok (.aastore, 1) := by decide +kernel
theorem dX1_leaveUntil_57 : decode cX1_leaveUntil 57 = .ok (.aload_n 2, 1) := by decide +kernel
theorem dX1_leaveUntil_58 : decode cX1_leaveUntil 58 = .ok (.ifnull 24, 3) := by decide +kernel
theorem dX1_leaveUntil_61 : decode cX1_leaveUntil 61 = .ok (.aload_n 2, 1) := by decide +kernel
theorem dX1_leaveUntil_62 : decode cX1_leaveUntil 62 = .ok (.dup, 1) := by decide +kernel
theorem dX1_leaveUntil_63 : decode cX1_leaveUntil 63 = .ok (.getfield 136, 3) := by decide +kernel
theorem dX1_leaveUntil_66 : decode cX1_leaveUntil 66 = .ok (.iconst 1, 1) := by decide +kernel
theorem dX1_leaveUntil_67 : decode cX1_leaveUntil 67 = .ok (.isub, 1) := by decide +kernel
theorem dX1_leaveUntil_68 : decode cX1_leaveUntil 68 = .ok (.putfield 136, 3) := by decide +kernel
theorem dX1_leaveUntil_71 : decode cX1_leaveUntil 71 = .ok (.aload_n 0, 1) := by decide +kernel
theorem dX1_leaveUntil_72 : decode cX1_leaveUntil 72 = .ok (.bipush 100, 2) := by decide +kernel
theorem dX1_leaveUntil_74 : decode cX1_leaveUntil 74 = .ok (.aload_n 2, 1) := by decide +kernel
theorem dX1_leaveUntil_75 : decode cX1_leaveUntil 75 = .ok (.invokevirtual 120, 3) := by decide +kernel
theorem dX1_leaveUntil_78 : decode cX1_leaveUntil 78 = .ok (.iadd, 1) := by decide +kernel
theorem dX1_leaveUntil_79 : decode cX1_leaveUntil 79 = .ok (.invokevirtual 123, 3) := by decide +kernel
theorem dX1_leaveUntil_82 : decode cX1_leaveUntil 82 = .ok (.goto (-82), 3) := by decide +kernel
theorem dX1_leaveUntil_85 : decode cX1_leaveUntil 85 = .ok (.return_, 1) := by decide +kernel
theorem dX1_leaveMark_0 : decode cX1_leaveMark 0 = .ok (.aload_n 0, 1) := by decide +kernel
theorem dX1_leaveMark_1 : decode cX1_leaveMark 1 = .ok (.getfield 55, 3) := by decide +kernel
theorem dX1_leaveMark_4 : decode cX1_leaveMark 4 = .ok (.ifCond .lt 32, 3) := by decide +kernel
theorem dX1_leaveMark_7 : decode cX1_leaveMark 7 = .ok (.aload_n 0, 1) := by decide +kernel
theorem dX1_leaveMark_8 : decode cX1_leaveMark 8 = .ok (.getfield 55, 3) := by decide +kernel
theorem dX1_leaveMark_11 : decode cX1_leaveMark 11 = .ok (.bipush 100, 2) := by decide +kernel
theorem dX1_leaveMark_13 : decode cX1_leaveMark 13 = .ok (.if_icmp .ge 23, 3) := by decide +kernel
theorem dX1_leaveMark_16 : decode cX1_leaveMark 16 = .ok (.aload_n 0, 1) := by decide +kernel
theorem dX1_leaveMark_17 : decode cX1_leaveMark 17 = .ok (.getfield 25, 3) := by decide +kernel
theorem dX1_leaveMark_20 : decode cX1_leaveMark 20 = .ok (.aload_n 0, 1) := by decide +kernel
theorem dX1_leaveMark_21 : decode cX1_leaveMark 21 = .ok (.getfield 55, 3) := by decide +kernel
theorem dX1_leaveMark_24 : decode cX1_leaveMark 24 = .ok (.iload_n 1, 1) := by decide +kernel
theorem dX1_leaveMark_25 : decode cX1_leaveMark 25 = .ok (.iastore, 1) := by decide +kernel
theorem dX1_leaveMark_26 : decode cX1_leaveMark 26 = .ok (.aload_n 0, 1) := by decide +kernel
theorem dX1_leaveMark_27 : decode cX1_leaveMark 27 = .ok (.dup, 1) := by decide +kernel
theorem dX1_leaveMark_28 : decode cX1_leaveMark 28 = .ok (.getfield 55, 3) := by decide +kernel
theorem dX1_leaveMark_31 : decode cX1_leaveMark 31 = .ok (.iconst 1, 1) := by decide +kernel
theorem dX1_leaveMark_32 : decode cX1_leaveMark 32 = .ok (.iadd, 1) := by decide +kernel
theorem dX1_leaveMark_33 : decode cX1_leaveMark 33 = .ok (.putfield 55, 3) := by decide +kernel
theorem dX1_leaveMark_36 : decode cX1_leaveMark 36 = .ok (.return_, 1) := by decide +kernel
theorem dX1_innermost_0 : decode cX1_innermost 0 = .ok (.aload_n 0, 1) := by decide +kernel
theorem dX1_innermost_1 : decode cX1_innermost 1 = .ok (.getfield 96, 3) := by decide +kernel
theorem dX1_innermost_4 : decode cX1_innermost 4 = .ok (.ifCond .le 29, 3) := by decide +kernel
theorem dX1_innermost_7 : decode cX1_innermost 7 = .ok (.aload_n 0, 1) := by decide +kernel
theorem dX1_innermost_8 : decode cX1_innermost 8 = .ok (.getfield 96, 3) := by decide +kernel
theorem dX1_innermost_11 : decode cX1_innermost 11 = .ok (.aload_n 0, 1) := by decide +kernel
theorem dX1_innermost_12 : decode cX1_innermost 12 = .ok (.getfield 22, 3) := by decide +kernel
theorem dX1_innermost_15 : decode cX1_innermost 15 = .ok (.arraylength, 1) := by decide +kernel
theorem dX1_innermost_16 : decode cX1_innermost 16 = .ok (.if_icmp .gt 17, 3) := by decide +kernel
theorem dX1_innermost_19 : decode cX1_innermost 19 = .ok (.aload_n 0, 1) := by decide +kernel
theorem dX1_innermost_20 : decode cX1_innermost 20 = .ok (.getfield 22, 3) := by decide +kernel
theorem dX1_innermost_23 : decode cX1_innermost 23 = .ok (.aload_n 0, 1) := by decide +kernel
theorem dX1_innermost_24 : decode cX1_innermost 24 = .ok (.getfield 96, 3) := by decide +kernel
theorem dX1_innermost_27 : decode cX1_innermost 27 = .ok (.iconst 1, 1) := by decide +kernel
theorem dX1_innermost_28 : decode cX1_innermost 28 = .ok (.isub, 1) := by decide +kernel
theorem dX1_innermost_29 : decode cX1_innermost 29 = .ok (.aaload, 1) := by decide +kernel
theorem dX1_innermost_30 : decode cX1_innermost 30 = .ok (.goto 4, 3) := by decide +kernel
theorem dX1_innermost_33 : decode cX1_innermost 33 = .ok (.aconst_null, 1) := by decide +kernel
theorem dX1_innermost_34 : decode cX1_innermost 34 = .ok (.areturn, 1) := by decide +kernel
set_option maxRecDepth 20000 in
theorem ggX1_doDeed_X1_innermost : GoodIn wsX1_doDeed wsX1_innermost := goodIn_r _ [7, 2, 8, 106, 107, 108, 109, 110, 111, 112, 113, 114, 115, 116, 117] (by decide +kernel) (by decide +kernel)
set_option maxRecDepth 20000 in
theorem gX1_doDeed_X1_innermost : GoodIn wsX1_doDeed (wsV RX1 139 RX1 yX1_innermost wsX1_innermost) := goodIn_app (goodIn_of _ (by decide +kernel)) ggX1_doDeed_X1_innermost
set_option maxRecDepth 20000 in
theorem ggX1_doDeed_X1_takeGifts : GoodIn wsX1_doDeed wsX1_takeGifts := goodIn_r _ [12, 13, 14, 15, 6, 16, 17, 18, 97, 98, 99, 100, 101, 102, 103, 104, 105, 106, 107, 108, 109, 110, 111, 112, 113, 114, 115, 116, 117] (by decide +kernel) (by decide +kernel)
set_option maxRecDepth 20000 in
theorem gX1_doDeed_X1_takeGifts : GoodIn wsX1_doDeed (wsV RX1 143 RX1 yX1_takeGifts wsX1_takeGifts) := goodIn_app (goodIn_of _ (by decide +kernel)) ggX1_doDeed_X1_takeGifts
set_option maxRecDepth 20000 in
theorem ggX1_doDeed_X1_divideGifts : GoodIn wsX1_doDeed wsX1_divideGifts := goodIn_r _ [21, 97, 98, 99, 100, 101, 102, 103, 104, 105] (by decide +kernel) (by decide +kernel)
set_option maxRecDepth 20000 in
theorem gX1_doDeed_X1_divideGifts : GoodIn wsX1_doDeed (va_wsS RX1 146 yX1_divideGifts wsX1_divideGifts) := goodIn_app (goodIn_of _ (by decide +kernel)) ggX1_doDeed_X1_divideGifts
set_option maxRecDepth 20000 in
theorem ggX1_doDeed_J9_floorMod_7cf53 : GoodIn wsX1_doDeed wsJ9_floorMod_7cf53 := goodIn_r _ [25] (by decide +kernel) (by decide +kernel)
set_option maxRecDepth 20000 in
theorem gX1_doDeed_J9_floorMod_7cf53 : GoodIn wsX1_doDeed (va_wsS RX1 150 yJ9_floorMod_7cf53 wsJ9_floorMod_7cf53) := goodIn_app (goodIn_of _ (by decide +kernel)) ggX1_doDeed_J9_floorMod_7cf53
set_option maxRecDepth 20000 in
theorem ggX1_doDeed_X1_walkOn : GoodIn wsX1_doDeed wsX1_walkOn := goodIn_r _ [29, 22, 23, 24, 25, 30, 31, 32, 6, 0, 1, 2, 3, 4, 5, 7, 8, 9, 10, 11, 12, 13, 14, 15, 16, 17, 18, 19, 20, 21, 26, 27, 28, 33, 34, 35, 36, 37, 38, 39, 40, 41, 42, 43, 44, 45, 46, 47, 48, 49, 50, 51, 52, 53, 54, 55, 56, 57, 58, 59, 60, 61, 62, 63, 64, 65, 66, 67, 68, 69, 70, 71, 72, 73, 74, 75, 76, 77, 78, 79, 80, 81, 82, 83, 84, 85, 86, 87, 88, 89, 90, 91, 92, 93, 94, 95, 96, 97, 98, 99, 100, 101, 102, 103, 104, 105, 106, 107, 108, 109, 110, 111, 112, 113, 114, 115, 116, 117] (by decide +kernel) (by decide +kernel)
set_option maxRecDepth 20000 in
theorem gX1_doDeed_X1_walkOn : GoodIn wsX1_doDeed (wsV RX1 153 RX1 yX1_walkOn wsX1_walkOn) := goodIn_app (goodIn_of _ (by decide +kernel)) ggX1_doDeed_X1_walkOn
set_option maxRecDepth 20000 in
theorem ggX1_doDeed_X1_addToPurse : GoodIn wsX1_doDeed wsX1_addToPurse := goodIn_r _ [16, 17, 18, 106, 107, 108, 109, 110, 111, 112, 113, 114, 115, 116, 117] (by decide +kernel) (by decide +kernel)
set_option maxRecDepth 20000 in
theorem gX1_doDeed_X1_addToPurse : GoodIn wsX1_doDeed (wsV RX1 156 RX1 yX1_addToPurse wsX1_addToPurse) := goodIn_app (goodIn_of _ (by decide +kernel)) ggX1_doDeed_X1_addToPurse
theorem dX1_doDeed_0 : decode cX1_doDeed 0 = .ok (.aload_n 0, 1) := by decide +kernel
theorem dX1_doDeed_1 : decode cX1_doDeed 1 = .ok (.invokevirtual 139, 3) := by decide +kernel
theorem dX1_doDeed_4 : decode cX1_doDeed 4 = .ok (.astore 4, 2) := by decide +kernel
theorem dX1_doDeed_6 : decode cX1_doDeed 6 = .ok (.aload 4, 2) := by decide +kernel
theorem dX1_doDeed_8 : decode cX1_doDeed 8 = .ok (.ifnonnull 5, 3) := by decide +kernel
theorem dX1_doDeed_11 : decode cX1_doDeed 11 = .ok (.iconst 1, 1) := by decide +kernel
theorem dX1_doDeed_12 : decode cX1_doDeed 12 = .ok (.ireturn, 1) := by decide +kernel
theorem dX1_doDeed_13 : decode cX1_doDeed 13 = .ok (.iload_n 1, 1) := by decide +kernel
theorem dX1_doDeed_14 : decode cX1_doDeed 14 = .ok (.tableswitch 108 1 7 #[42, 55, 62, 69, 83, 90, 99], 42) := by decide +kernel
theorem dX1_doDeed_56 : decode cX1_doDeed 56 = .ok (.aload 4, 2) := by decide +kernel
theorem dX1_doDeed_58 : decode cX1_doDeed 58 = .ok (.dup, 1) := by decide +kernel
theorem dX1_doDeed_59 : decode cX1_doDeed 59 = .ok (.getfield 83, 3) := by decide +kernel
theorem dX1_doDeed_62 : decode cX1_doDeed 62 = .ok (.iload_n 2, 1) := by decide +kernel
theorem dX1_doDeed_63 : decode cX1_doDeed 63 = .ok (.iadd, 1) := by decide +kernel
theorem dX1_doDeed_64 : decode cX1_doDeed 64 = .ok (.putfield 83, 3) := by decide +kernel
theorem dX1_doDeed_67 : decode cX1_doDeed 67 = .ok (.iconst 0, 1) := by decide +kernel
theorem dX1_doDeed_68 : decode cX1_doDeed 68 = .ok (.ireturn, 1) := by decide +kernel
theorem dX1_doDeed_69 : decode cX1_doDeed 69 = .ok (.aload_n 0, 1) := by decide +kernel
theorem dX1_doDeed_70 : decode cX1_doDeed 70 = .ok (.aload 4, 2) := by decide +kernel
theorem dX1_doDeed_72 : decode cX1_doDeed 72 = .ok (.invokevirtual 143, 3) := by decide +kernel
theorem dX1_doDeed_75 : decode cX1_doDeed 75 = .ok (.ireturn, 1) := by decide +kernel
theorem dX1_doDeed_76 : decode cX1_doDeed 76 = .ok (.aload 4, 2) := by decide +kernel
theorem dX1_doDeed_78 : decode cX1_doDeed 78 = .ok (.iload_n 2, 1) := by decide +kernel
theorem dX1_doDeed_79 : decode cX1_doDeed 79 = .ok (.invokestatic 146, 3) := by decide +kernel
theorem dX1_doDeed_82 : decode cX1_doDeed 82 = .ok (.ireturn, 1) := by decide +kernel
theorem dX1_doDeed_83 : decode cX1_doDeed 83 = .ok (.aload_n 0, 1) := by decide +kernel
theorem dX1_doDeed_84 : decode cX1_doDeed 84 = .ok (.getfield 11, 3) := by decide +kernel
theorem dX1_doDeed_87 : decode cX1_doDeed 87 = .ok (.iload_n 2, 1) := by decide +kernel
theorem dX1_doDeed_88 : decode cX1_doDeed 88 = .ok (.bipush 10, 2) := by decide +kernel
theorem dX1_doDeed_90 : decode cX1_doDeed 90 = .ok (.invokestatic 150, 3) := by decide +kernel
theorem dX1_doDeed_93 : decode cX1_doDeed 93 = .ok (.aconst_null, 1) := by decide +kernel
theorem dX1_doDeed_94 : decode cX1_doDeed 94 = .ok (.aastore, 1) := by decide +kernel
theorem dX1_doDeed_95 : decode cX1_doDeed 95 = .ok (.iconst 0, 1) := by decide +kernel
theorem dX1_doDeed_96 : decode cX1_doDeed 96 = .ok (.ireturn, 1) := by decide +kernel
theorem dX1_doDeed_97 : decode cX1_doDeed 97 = .ok (.aload_n 0, 1) := by decide +kernel
theorem dX1_doDeed_98 : decode cX1_doDeed 98 = .ok (.iload_n 2, 1) := by decide +kernel
theorem dX1_doDeed_99 : decode cX1_doDeed 99 = .ok (.iload_n 3, 1) := by decide +kernel
theorem dX1_doDeed_100 : decode cX1_doDeed 100 = .ok (.invokevirtual 153, 3) := by decide +kernel
theorem dX1_doDeed_103 : decode cX1_doDeed 103 = .ok (.ireturn, 1) := by decide +kernel
theorem dX1_doDeed_104 : decode cX1_doDeed 104 = .ok (.bipush 20, 2) := by decide +kernel
theorem dX1_doDeed_106 : decode cX1_doDeed 106 = .ok (.iload_n 2, 1) := by decide +kernel
theorem dX1_doDeed_107 : decode cX1_doDeed 107 = .ok (.iconst 4, 1) := by decide +kernel
theorem dX1_doDeed_108 : decode cX1_doDeed 108 = .ok (.invokestatic 150, 3) := by decide +kernel
theorem dX1_doDeed_111 : decode cX1_doDeed 111 = .ok (.iadd, 1) := by decide +kernel
theorem dX1_doDeed_112 : decode cX1_doDeed 112 = .ok (.ireturn, 1) := by decide +kernel
theorem dX1_doDeed_113 : decode cX1_doDeed 113 = .ok (.aload_n 0, 1) := by decide +kernel
theorem dX1_doDeed_114 : decode cX1_doDeed 114 = .ok (.aload_n 0, 1) := by decide +kernel
theorem dX1_doDeed_115 : decode cX1_doDeed 115 = .ok (.getfield 96, 3) := by decide +kernel
theorem dX1_doDeed_118 : decode cX1_doDeed 118 = .ok (.invokevirtual 156, 3) := by decide +kernel
theorem dX1_doDeed_121 : decode cX1_doDeed 121 = .ok (.ireturn, 1) := by decide +kernel
theorem dX1_doDeed_122 : decode cX1_doDeed 122 = .ok (.iconst 0, 1) := by decide +kernel
theorem dX1_doDeed_123 : decode cX1_doDeed 123 = .ok (.ireturn, 1) := by decide +kernel
set_option maxRecDepth 20000 in
theorem ggX1_takeGifts_X1_addToPurse : GoodIn wsX1_takeGifts wsX1_addToPurse := goodIn_r _ [5, 6, 7, 17, 18, 19, 20, 21, 22, 23, 24, 25, 26, 27, 28] (by decide +kernel) (by decide +kernel)
set_option maxRecDepth 20000 in
theorem gX1_takeGifts_X1_addToPurse : GoodIn wsX1_takeGifts (wsV RX1 156 RX1 yX1_addToPurse wsX1_addToPurse) := goodIn_app (goodIn_of _ (by decide +kernel)) ggX1_takeGifts_X1_addToPurse
theorem dX1_takeGifts_0 : decode cX1_takeGifts 0 = .ok (.aload_n 0, 1) := by decide +kernel
theorem dX1_takeGifts_1 : decode cX1_takeGifts 1 = .ok (.aload_n 1, 1) := by decide +kernel
theorem dX1_takeGifts_2 : decode cX1_takeGifts 2 = .ok (.getfield 83, 3) := by decide +kernel
theorem dX1_takeGifts_5 : decode cX1_takeGifts 5 = .ok (.invokevirtual 156, 3) := by decide +kernel
theorem dX1_takeGifts_8 : decode cX1_takeGifts 8 = .ok (.istore_n 2, 1) := by decide +kernel
theorem dX1_takeGifts_9 : decode cX1_takeGifts 9 = .ok (.iload_n 2, 1) := by decide +kernel
theorem dX1_takeGifts_10 : decode cX1_takeGifts 10 = .ok (.ifCond .ne 8, 3) := by decide +kernel
theorem dX1_takeGifts_13 : decode cX1_takeGifts 13 = .ok (.aload_n 1, 1) := by decide +kernel
theorem dX1_takeGifts_14 : decode cX1_takeGifts 14 = .ok (.iconst 0, 1) := by decide +kernel
theorem dX1_takeGifts_15 : decode cX1_takeGifts 15 = .ok (.putfield 83, 3) := by decide +kernel
theorem dX1_takeGifts_18 : decode cX1_takeGifts 18 = .ok (.iload_n 2, 1) := by decide +kernel
theorem dX1_takeGifts_19 : decode cX1_takeGifts 19 = .ok (.ireturn, 1) := by decide +kernel
theorem dX1_addToPurse_0 : decode cX1_addToPurse 0 = .ok (.aload_n 0, 1) := by decide +kernel
theorem dX1_addToPurse_1 : decode cX1_addToPurse 1 = .ok (.getfield 45, 3) := by decide +kernel
theorem dX1_addToPurse_4 : decode cX1_addToPurse 4 = .ok (.i2l, 1) := by decide +kernel
theorem dX1_addToPurse_5 : decode cX1_addToPurse 5 = .ok (.iload_n 1, 1) := by decide +kernel
theorem dX1_addToPurse_6 : decode cX1_addToPurse 6 = .ok (.i2l, 1) := by decide +kernel
theorem dX1_addToPurse_7 : decode cX1_addToPurse 7 = .ok (.ladd, 1) := by decide +kernel
theorem dX1_addToPurse_8 : decode cX1_addToPurse 8 = .ok (.lstore_n 2, 1) := by decide +kernel
theorem dX1_addToPurse_9 : decode cX1_addToPurse 9 = .ok (.lload_n 2, 1) := by decide +kernel
theorem dX1_addToPurse_10 : decode cX1_addToPurse 10 = .ok (.lconst 0, 1) := by decide +kernel
theorem dX1_addToPurse_11 : decode cX1_addToPurse 11 = .ok (.lcmp, 1) := by decide +kernel
theorem dX1_addToPurse_12 : decode cX1_addToPurse 12 = .ok (.ifCond .lt 11, 3) := by decide +kernel
theorem dX1_addToPurse_15 : decode cX1_addToPurse 15 = .ok (.lload_n 2, 1) := by decide +kernel
theorem dX1_addToPurse_16 : decode cX1_addToPurse 16 = .ok (.ldc2_w 159, 3) := by decide +kernel
theorem dX1_addToPurse_19 : decode cX1_addToPurse 19 = .ok (.lcmp, 1) := by decide +kernel
theorem dX1_addToPurse_20 : decode cX1_addToPurse 20 = .ok (.ifCond .le 6, 3) := by decide +kernel
theorem dX1_addToPurse_23 : decode cX1_addToPurse 23 = .ok (.bipush 22, 2) := by decide +kernel
theorem dX1_addToPurse_25 : decode cX1_addToPurse 25 = .ok (.ireturn, 1) := by decide +kernel
theorem dX1_addToPurse_26 : decode cX1_addToPurse 26 = .ok (.aload_n 0, 1) := by decide +kernel
theorem dX1_addToPurse_27 : decode cX1_addToPurse 27 = .ok (.lload_n 2, 1) := by decide +kernel
theorem dX1_addToPurse_28 : decode cX1_addToPurse 28 = .ok (.l2i, 1) := by decide +kernel
theorem dX1_addToPurse_29 : decode cX1_addToPurse 29 = .ok (.putfield 45, 3) := by decide +kernel
theorem dX1_addToPurse_32 : decode cX1_addToPurse 32 = .ok (.iconst 0, 1) := by decide +kernel
theorem dX1_addToPurse_33 : decode cX1_addToPurse 33 = .ok (.ireturn, 1) := by decide +kernel
theorem dX1_divideGifts_0 : decode cX1_divideGifts 0 = .ok (.iload_n 1, 1) := by decide +kernel
theorem dX1_divideGifts_1 : decode cX1_divideGifts 1 = .ok (.ifCond .ne 6, 3) := by decide +kernel
theorem dX1_divideGifts_4 : decode cX1_divideGifts 4 = .ok (.bipush 6, 2) := by decide +kernel
theorem dX1_divideGifts_6 : decode cX1_divideGifts 6 = .ok (.ireturn, 1) := by decide +kernel
theorem dX1_divideGifts_7 : decode cX1_divideGifts 7 = .ok (.aload_n 0, 1) := by decide +kernel
theorem dX1_divideGifts_8 : decode cX1_divideGifts 8 = .ok (.dup, 1) := by decide +kernel
theorem dX1_divideGifts_9 : decode cX1_divideGifts 9 = .ok (.getfield 83, 3) := by decide +kernel
theorem dX1_divideGifts_12 : decode cX1_divideGifts 12 = .ok (.iload_n 1, 1) := by decide +kernel
theorem dX1_divideGifts_13 : decode cX1_divideGifts 13 = .ok (.idiv, 1) := by decide +kernel
theorem dX1_divideGifts_14 : decode cX1_divideGifts 14 = .ok (.putfield 83, 3) := by decide +kernel
theorem dX1_divideGifts_17 : decode cX1_divideGifts 17 = .ok (.iconst 0, 1) := by decide +kernel
theorem dX1_divideGifts_18 : decode cX1_divideGifts 18 = .ok (.ireturn, 1) := by decide +kernel
set_option maxRecDepth 20000 in
theorem ggX1_walkOn_J9_floorMod_7cf53 : GoodIn wsX1_walkOn wsJ9_floorMod_7cf53 := goodIn_r _ [4] (by decide +kernel) (by decide +kernel)
set_option maxRecDepth 20000 in
theorem gX1_walkOn_J9_floorMod_7cf53 : GoodIn wsX1_walkOn (va_wsS RX1 150 yJ9_floorMod_7cf53 wsJ9_floorMod_7cf53) := goodIn_app (goodIn_of _ (by decide +kernel)) ggX1_walkOn_J9_floorMod_7cf53
set_option maxRecDepth 20000 in
theorem ggX1_walkOn_X1_walkTo : GoodIn wsX1_walkOn wsX1_walkTo := goodIn_r _ [33, 34, 11, 35, 36, 37, 8, 38, 39, 40, 41, 42, 43, 44, 45, 46, 47, 48, 49, 50, 51, 52, 53, 54, 55, 10, 56, 57, 58, 59, 16, 60, 61, 62, 63, 25, 64, 65, 66, 67, 68, 69, 70, 71, 72, 73, 74, 75, 76, 77, 78, 79, 80, 81, 82, 83, 84, 85, 86, 87, 88, 89, 90, 91, 92, 93, 94, 95, 96, 9, 12, 13, 14, 15, 17, 18, 19, 20, 21, 22, 23, 24, 26, 27, 28, 29, 1, 2, 3, 4, 30, 31, 32, 0, 5, 6, 7, 97, 98, 99, 100, 101, 102, 103, 104, 105, 106, 107, 108, 109, 110, 111, 112, 113, 114, 115, 116, 117] (by decide +kernel) (by decide +kernel)
set_option maxRecDepth 20000 in
theorem gX1_walkOn_X1_walkTo : GoodIn wsX1_walkOn (wsV RX1 61 RX1 yX1_walkTo wsX1_walkTo) := goodIn_app (goodIn_of _ (by decide +kernel)) ggX1_walkOn_X1_walkTo
theorem dX1_walkOn_0 : decode cX1_walkOn 0 = .ok (.iload_n 1, 1) := by decide +kernel
theorem dX1_walkOn_1 : decode cX1_walkOn 1 = .ok (.bipush 10, 2) := by decide +kernel
theorem dX1_walkOn_3 : decode cX1_walkOn 3 = .ok (.idiv, 1) := by decide +kernel
theorem dX1_walkOn_4 : decode cX1_walkOn 4 = .ok (.istore_n 3, 1) := by decide +kernel
theorem dX1_walkOn_5 : decode cX1_walkOn 5 = .ok (.aload_n 0, 1) := by decide +kernel
theorem dX1_walkOn_6 : decode cX1_walkOn 6 = .ok (.iload_n 1, 1) := by decide +kernel
theorem dX1_walkOn_7 : decode cX1_walkOn 7 = .ok (.bipush 10, 2) := by decide +kernel
theorem dX1_walkOn_9 : decode cX1_walkOn 9 = .ok (.invokestatic 150, 3) := by decide +kernel
theorem dX1_walkOn_12 : decode cX1_walkOn 12 = .ok (.iload_n 3, 1) := by decide +kernel
theorem dX1_walkOn_13 : decode cX1_walkOn 13 = .ok (.ifCond .ne 7, 3) := by decide +kernel
theorem dX1_walkOn_16 : decode cX1_walkOn 16 = .ok (.iconst 0, 1) := by decide +kernel
theorem dX1_walkOn_17 : decode cX1_walkOn 17 = .ok (.goto 4, 3) := by decide +kernel
theorem dX1_walkOn_20 : decode cX1_walkOn 20 = .ok (.iconst 5, 1) := by decide +kernel
theorem dX1_walkOn_21 : decode cX1_walkOn 21 = .ok (.iload_n 3, 1) := by decide +kernel
theorem dX1_walkOn_22 : decode cX1_walkOn 22 = .ok (.iload_n 2, 1) := by decide +kernel
theorem dX1_walkOn_23 : decode cX1_walkOn 23 = .ok (.invokevirtual 61, 3) := by decide +kernel
theorem dX1_walkOn_26 : decode cX1_walkOn 26 = .ok (.ireturn, 1) := by decide +kernel
theorem dX2_init_0 : decode cX2_init 0 = .ok (.aload_n 0, 1) := by decide +kernel
theorem dX2_init_1 : decode cX2_init 1 = .ok (.invokespecial 1, 3) := by decide +kernel
theorem dX2_init_4 : decode cX2_init 4 = .ok (.aload_n 0, 1) := by decide +kernel
theorem dX2_init_5 : decode cX2_init 5 = .ok (.sipush 4200, 3) := by decide +kernel
theorem dX2_init_8 : decode cX2_init 8 = .ok (.newarray .int, 2) := by decide +kernel
theorem dX2_init_10 : decode cX2_init 10 = .ok (.putfield 7, 3) := by decide +kernel
theorem dX2_init_13 : decode cX2_init 13 = .ok (.aload_n 0, 1) := by decide +kernel
theorem dX2_init_14 : decode cX2_init 14 = .ok (.sipush 4200, 3) := by decide +kernel
theorem dX2_init_17 : decode cX2_init 17 = .ok (.newarray .int, 2) := by decide +kernel
theorem dX2_init_19 : decode cX2_init 19 = .ok (.putfield 13, 3) := by decide +kernel
theorem dX2_init_22 : decode cX2_init 22 = .ok (.aload_n 0, 1) := by decide +kernel
theorem dX2_init_23 : decode cX2_init 23 = .ok (.sipush 4200, 3) := by decide +kernel
theorem dX2_init_26 : decode cX2_init 26 = .ok (.newarray .int, 2) := by decide +kernel
theorem dX2_init_28 : decode cX2_init 28 = .ok (.putfield 16, 3) := by decide +kernel
theorem dX2_init_31 : decode cX2_init 31 = .ok (.aload_n 0, 1) := by decide +kernel
theorem dX2_init_32 : decode cX2_init 32 = .ok (.sipush 4200, 3) := by decide +kernel
theorem dX2_init_35 : decode cX2_init 35 = .ok (.newarray .int, 2) := by decide +kernel
theorem dX2_init_37 : decode cX2_init 37 = .ok (.putfield 19, 3) := by decide +kernel
theorem dX2_init_40 : decode cX2_init 40 = .ok (.aload_n 0, 1) := by decide +kernel
theorem dX2_init_41 : decode cX2_init 41 = .ok (.sipush 4200, 3) := by decide +kernel
theorem dX2_init_44 : decode cX2_init 44 = .ok (.newarray .int, 2) := by decide +kernel
theorem dX2_init_46 : decode cX2_init 46 = .ok (.putfield 22, 3) := by decide +kernel
theorem dX2_init_49 : decode cX2_init 49 = .ok (.aload_n 0, 1) := by decide +kernel
theorem dX2_init_50 : decode cX2_init 50 = .ok (.sipush 4200, 3) := by decide +kernel
theorem dX2_init_53 : decode cX2_init 53 = .ok (.newarray .int, 2) := by decide +kernel
theorem dX2_init_55 : decode cX2_init 55 = .ok (.putfield 25, 3) := by decide +kernel
theorem dX2_init_58 : decode cX2_init 58 = .ok (.aload_n 0, 1) := by decide +kernel
theorem dX2_init_59 : decode cX2_init 59 = .ok (.sipush 4200, 3) := by decide +kernel
theorem dX2_init_62 : decode cX2_init 62 = .ok (.newarray .int, 2) := by decide +kernel
theorem dX2_init_64 : decode cX2_init 64 = .ok (.putfield 28, 3) := by decide +kernel
theorem dX2_init_67 : decode cX2_init 67 = .ok (.aload_n 0, 1) := by decide +kernel
theorem dX2_init_68 : decode cX2_init 68 = .ok (.sipush 4200, 3) := by decide +kernel
theorem dX2_init_71 : decode cX2_init 71 = .ok (.newarray .int, 2) := by decide +kernel
theorem dX2_init_73 : decode cX2_init 73 = .ok (.putfield 31, 3) := by decide +kernel
theorem dX2_init_76 : decode cX2_init 76 = .ok (.aload_n 0, 1) := by decide +kernel
theorem dX2_init_77 : decode cX2_init 77 = .ok (.bipush 10, 2) := by decide +kernel
theorem dX2_init_79 : decode cX2_init 79 = .ok (.newarray .int, 2) := by decide +kernel
theorem dX2_init_81 : decode cX2_init 81 = .ok (.dup, 1) := by decide +kernel
theorem dX2_init_82 : decode cX2_init 82 = .ok (.iconst 0, 1) := by decide +kernel
theorem dX2_init_83 : decode cX2_init 83 = .ok (.iconst (-1), 1) := by decide +kernel
theorem dX2_init_84 : decode cX2_init 84 = .ok (.iastore, 1) := by decide +kernel
theorem dX2_init_85 : decode cX2_init 85 = .ok (.dup, 1) := by decide +kernel
theorem dX2_init_86 : decode cX2_init 86 = .ok (.iconst 1, 1) := by decide +kernel
theorem dX2_init_87 : decode cX2_init 87 = .ok (.iconst (-1), 1) := by decide +kernel
theorem dX2_init_88 : decode cX2_init 88 = .ok (.iastore, 1) := by decide +kernel
theorem dX2_init_89 : decode cX2_init 89 = .ok (.dup, 1) := by decide +kernel
theorem dX2_init_90 : decode cX2_init 90 = .ok (.iconst 2, 1) := by decide +kernel
theorem dX2_init_91 : decode cX2_init 91 = .ok (.iconst (-1), 1) := by decide +kernel
theorem dX2_init_92 : decode cX2_init 92 = .ok (.iastore, 1) := by decide +kernel
theorem dX2_init_93 : decode cX2_init 93 = .ok (.dup, 1) := by decide +kernel
theorem dX2_init_94 : decode cX2_init 94 = .ok (.iconst 3, 1) := by decide +kernel
theorem dX2_init_95 : decode cX2_init 95 = .ok (.iconst (-1), 1) := by decide +kernel
theorem dX2_init_96 : decode cX2_init 96 = .ok (.iastore, 1) := by decide +kernel
theorem dX2_init_97 : decode cX2_init 97 = .ok (.dup, 1) := by decide +kernel
theorem dX2_init_98 : decode cX2_init 98 = .ok (.iconst 4, 1) := by decide +kernel
theorem dX2_init_99 : decode cX2_init 99 = .ok (.iconst (-1), 1) := by decide +kernel
theorem dX2_init_100 : decode cX2_init 100 = .ok (.iastore, 1) := by decide +kernel
theorem dX2_init_101 : decode cX2_init 101 = .ok (.dup, 1) := by decide +kernel
theorem dX2_init_102 : decode cX2_init 102 = .ok (.iconst 5, 1) := by decide +kernel
theorem dX2_init_103 : decode cX2_init 103 = .ok (.iconst (-1), 1) := by decide +kernel
theorem dX2_init_104 : decode cX2_init 104 = .ok (.iastore, 1) := by decide +kernel
theorem dX2_init_105 : decode cX2_init 105 = .ok (.dup, 1) := by decide +kernel
theorem dX2_init_106 : decode cX2_init 106 = .ok (.bipush 6, 2) := by decide +kernel
theorem dX2_init_108 : decode cX2_init 108 = .ok (.iconst (-1), 1) := by decide +kernel
theorem dX2_init_109 : decode cX2_init 109 = .ok (.iastore, 1) := by decide +kernel
theorem dX2_init_110 : decode cX2_init 110 = .ok (.dup, 1) := by decide +kernel
theorem dX2_init_111 : decode cX2_init 111 = .ok (.bipush 7, 2) := by decide +kernel
theorem dX2_init_113 : decode cX2_init 113 = .ok (.iconst (-1), 1) := by decide +kernel
theorem dX2_init_114 : decode cX2_init 114 = .ok (.iastore, 1) := by decide +kernel
theorem dX2_init_115 : decode cX2_init 115 = .ok (.dup, 1) := by decide +kernel
theorem dX2_init_116 : decode cX2_init 116 = .ok (.bipush 8, 2) := by decide +kernel
theorem dX2_init_118 : decode cX2_init 118 = .ok (.iconst (-1), 1) := by decide +kernel
theorem dX2_init_119 : decode cX2_init 119 = .ok (.iastore, 1) := by decide +kernel
theorem dX2_init_120 : decode cX2_init 120 = .ok (.dup, 1) := by decide +kernel
theorem dX2_init_121 : decode cX2_init 121 = .ok (.bipush 9, 2) := by decide +kernel
theorem dX2_init_123 : decode cX2_init 123 = .ok (.iconst (-1), 1) := by decide +kernel
theorem dX2_init_124 : decode cX2_init 124 = .ok (.iastore, 1) := by decide +kernel
theorem dX2_init_125 : decode cX2_init 125 = .ok (.putfield 34, 3) := by decide +kernel
theorem dX2_init_128 : decode cX2_init 128 = .ok (.aload_n 0, 1) := by decide +kernel
theorem dX2_init_129 : decode cX2_init 129 = .ok (.bipush 10, 2) := by decide +kernel
theorem dX2_init_131 : decode cX2_init 131 = .ok (.newarray .int, 2) := by decide +kernel
theorem dX2_init_133 : decode cX2_init 133 = .ok (.dup, 1) := by decide +kernel
theorem dX2_init_134 : decode cX2_init 134 = .ok (.iconst 0, 1) := by decide +kernel
theorem dX2_init_135 : decode cX2_init 135 = .ok (.iconst (-1), 1) := by decide +kernel
theorem dX2_init_136 : decode cX2_init 136 = .ok (.iastore, 1) := by decide +kernel
theorem dX2_init_137 : decode cX2_init 137 = .ok (.dup, 1) := by decide +kernel
theorem dX2_init_138 : decode cX2_init 138 = .ok (.iconst 1, 1) := by decide +kernel
theorem dX2_init_139 : decode cX2_init 139 = .ok (.iconst (-1), 1) := by decide +kernel
theorem dX2_init_140 : decode cX2_init 140 = .ok (.iastore, 1) := by decide +kernel
theorem dX2_init_141 : decode cX2_init 141 = .ok (.dup, 1) := by decide +kernel
theorem dX2_init_142 : decode cX2_init 142 = .ok (.iconst 2, 1) := by decide +kernel
theorem dX2_init_143 : decode cX2_init 143 = .ok (.iconst (-1), 1) := by decide +kernel
theorem dX2_init_144 : decode cX2_init 144 = .ok (.iastore, 1) := by decide +kernel
theorem dX2_init_145 : decode cX2_init 145 = .ok (.dup, 1) := by decide +kernel
theorem dX2_init_146 : decode cX2_init 146 = .ok (.iconst 3, 1) := by decide +kernel
theorem dX2_init_147 : decode cX2_init 147 = .ok (.iconst (-1), 1) := by decide +kernel
theorem dX2_init_148 : decode cX2_init 148 = .ok (.iastore, 1) := by decide +kernel
theorem dX2_init_149 : decode cX2_init 149 = .ok (.dup, 1) := by decide +kernel
theorem dX2_init_150 : decode cX2_init 150 = .ok (.iconst 4, 1) := by decide +kernel
theorem dX2_init_151 : decode cX2_init 151 = .ok (.iconst (-1), 1) := by decide +kernel
theorem dX2_init_152 : decode cX2_init 152 = .ok (.iastore, 1) := by decide +kernel
theorem dX2_init_153 : decode cX2_init 153 = .ok (.dup, 1) := by decide +kernel
theorem dX2_init_154 : decode cX2_init 154 = .ok (.iconst 5, 1) := by decide +kernel
theorem dX2_init_155 : decode cX2_init 155 = .ok (.iconst (-1), 1) := by decide +kernel
theorem dX2_init_156 : decode cX2_init 156 = .ok (.iastore, 1) := by decide +kernel
theorem dX2_init_157 : decode cX2_init 157 = .ok (.dup, 1) := by decide +kernel
theorem dX2_init_158 : decode cX2_init 158 = .ok (.bipush 6, 2) := by decide +kernel
theorem dX2_init_160 : decode cX2_init 160 = .ok (.iconst (-1), 1) := by decide +kernel
theorem dX2_init_161 : decode cX2_init 161 = .ok (.iastore, 1) := by decide +kernel
theorem dX2_init_162 : decode cX2_init 162 = .ok (.dup, 1) := by decide +kernel
theorem dX2_init_163 : decode cX2_init 163 = .ok (.bipush 7, 2) := by decide +kernel
theorem dX2_init_165 : decode cX2_init 165 = .ok (.iconst (-1), 1) := by decide +kernel
theorem dX2_init_166 : decode cX2_init 166 = .ok (.iastore, 1) := by decide +kernel
theorem dX2_init_167 : decode cX2_init 167 = .ok (.dup, 1) := by decide +kernel
theorem dX2_init_168 : decode cX2_init 168 = .ok (.bipush 8, 2) := by decide +kernel
theorem dX2_init_170 : decode cX2_init 170 = .ok (.iconst (-1), 1) := by decide +kernel
theorem dX2_init_171 : decode cX2_init 171 = .ok (.iastore, 1) := by decide +kernel
theorem dX2_init_172 : decode cX2_init 172 = .ok (.dup, 1) := by decide +kernel
theorem dX2_init_173 : decode cX2_init 173 = .ok (.bipush 9, 2) := by decide +kernel
theorem dX2_init_175 : decode cX2_init 175 = .ok (.iconst (-1), 1) := by decide +kernel
theorem dX2_init_176 : decode cX2_init 176 = .ok (.iastore, 1) := by decide +kernel
theorem dX2_init_177 : decode cX2_init 177 = .ok (.putfield 37, 3) := by decide +kernel
theorem dX2_init_180 : decode cX2_init 180 = .ok (.aload_n 0, 1) := by decide +kernel
theorem dX2_init_181 : decode cX2_init 181 = .ok (.bipush 100, 2) := by decide +kernel
theorem dX2_init_183 : decode cX2_init 183 = .ok (.newarray .int, 2) := by decide +kernel
theorem dX2_init_185 : decode cX2_init 185 = .ok (.putfield 40, 3) := by decide +kernel
theorem dX2_init_188 : decode cX2_init 188 = .ok (.aload_n 0, 1) := by decide +kernel
theorem dX2_init_189 : decode cX2_init 189 = .ok (.bipush 64, 2) := by decide +kernel
theorem dX2_init_191 : decode cX2_init 191 = .ok (.newarray .int, 2) := by decide +kernel
theorem dX2_init_193 : decode cX2_init 193 = .ok (.putfield 43, 3) := by decide +kernel
theorem dX2_init_196 : decode cX2_init 196 = .ok (.aload_n 0, 1) := by decide +kernel
theorem dX2_init_197 : decode cX2_init 197 = .ok (.bipush 10, 2) := by decide +kernel
theorem dX2_init_199 : decode cX2_init 199 = .ok (.newarray .int, 2) := by decide +kernel
theorem dX2_init_201 : decode cX2_init 201 = .ok (.putfield 46, 3) := by decide +kernel
theorem dX2_init_204 : decode cX2_init 204 = .ok (.return_, 1) := by decide +kernel
theorem dX2_in_0 : decode cX2_in 0 = .ok (.iload_n 0, 1) := by decide +kernel
theorem dX2_in_1 : decode cX2_in 1 = .ok (.iload_n 1, 1) := by decide +kernel
theorem dX2_in_2 : decode cX2_in 2 = .ok (.if_icmp .lt 12, 3) := by decide +kernel
theorem dX2_in_5 : decode cX2_in 5 = .ok (.iload_n 0, 1) := by decide +kernel
theorem dX2_in_6 : decode cX2_in 6 = .ok (.iload_n 2, 1) := by decide +kernel
theorem dX2_in_7 : decode cX2_in 7 = .ok (.if_icmp .gt 7, 3) := by decide +kernel
theorem dX2_in_10 : decode cX2_in 10 = .ok (.iconst 1, 1) := by decide +kernel
theorem dX2_in_11 : decode cX2_in 11 = .ok (.goto 4, 3) := by decide +kernel
theorem dX2_in_14 : decode cX2_in 14 = .ok (.iconst 0, 1) := by decide +kernel
theorem dX2_in_15 : decode cX2_in 15 = .ok (.ireturn, 1) := by decide +kernel
theorem dX2_ten_0 : decode cX2_ten 0 = .ok (.iload_n 0, 1) := by decide +kernel
theorem dX2_ten_1 : decode cX2_ten 1 = .ok (.bipush 10, 2) := by decide +kernel
theorem dX2_ten_3 : decode cX2_ten 3 = .ok (.irem, 1) := by decide +kernel
theorem dX2_ten_4 : decode cX2_ten 4 = .ok (.istore_n 1, 1) := by decide +kernel
theorem dX2_ten_5 : decode cX2_ten 5 = .ok (.iload_n 1, 1) := by decide +kernel
theorem dX2_ten_6 : decode cX2_ten 6 = .ok (.ifCond .ge 10, 3) := by decide +kernel
theorem dX2_ten_9 : decode cX2_ten 9 = .ok (.iload_n 1, 1) := by decide +kernel
theorem dX2_ten_10 : decode cX2_ten 10 = .ok (.bipush 10, 2) := by decide +kernel
theorem dX2_ten_12 : decode cX2_ten 12 = .ok (.iadd, 1) := by decide +kernel
theorem dX2_ten_13 : decode cX2_ten 13 = .ok (.goto 4, 3) := by decide +kernel
theorem dX2_ten_16 : decode cX2_ten 16 = .ok (.iload_n 1, 1) := by decide +kernel
theorem dX2_ten_17 : decode cX2_ten 17 = .ok (.ireturn, 1) := by decide +kernel
set_option maxRecDepth 20000 in
theorem ggX2_hall_X2_in : GoodIn wsX2_hall wsX2_in := goodIn_r _ [8] (by decide +kernel) (by decide +kernel)
set_option maxRecDepth 20000 in
theorem gX2_hall_X2_in : GoodIn wsX2_hall (va_wsS RX2 49 yX2_in wsX2_in) := goodIn_app (goodIn_of _ (by decide +kernel)) ggX2_hall_X2_in
theorem dX2_hall_0 : decode cX2_hall 0 = .ok (.iload_n 1, 1) := by decide +kernel
theorem dX2_hall_1 : decode cX2_hall 1 = .ok (.iconst 0, 1) := by decide +kernel
theorem dX2_hall_2 : decode cX2_hall 2 = .ok (.bipush 9, 2) := by decide +kernel
theorem dX2_hall_4 : decode cX2_hall 4 = .ok (.invokestatic 49, 3) := by decide +kernel
theorem dX2_hall_7 : decode cX2_hall 7 = .ok (.ifCond .eq 23, 3) := by decide +kernel
theorem dX2_hall_10 : decode cX2_hall 10 = .ok (.iload_n 2, 1) := by decide +kernel
theorem dX2_hall_11 : decode cX2_hall 11 = .ok (.iconst 0, 1) := by decide +kernel
theorem dX2_hall_12 : decode cX2_hall 12 = .ok (.iconst 2, 1) := by decide +kernel
theorem dX2_hall_13 : decode cX2_hall 13 = .ok (.invokestatic 49, 3) := by decide +kernel
theorem dX2_hall_16 : decode cX2_hall 16 = .ok (.ifCond .eq 14, 3) := by decide +kernel
theorem dX2_hall_19 : decode cX2_hall 19 = .ok (.iload_n 3, 1) := by decide +kernel
theorem dX2_hall_20 : decode cX2_hall 20 = .ok (.iconst 0, 1) := by decide +kernel
theorem dX2_hall_21 : decode cX2_hall 21 = .ok (.sipush 1000, 3) := by decide +kernel
theorem dX2_hall_24 : decode cX2_hall 24 = .ok (.invokestatic 49, 3) := by decide +kernel
theorem dX2_hall_27 : decode cX2_hall 27 = .ok (.ifCond .ne 5, 3) := by decide +kernel
theorem dX2_hall_30 : decode cX2_hall 30 = .ok (.iconst (-1), 1) := by decide +kernel
theorem dX2_hall_31 : decode cX2_hall 31 = .ok (.ireturn, 1) := by decide +kernel
theorem dX2_hall_32 : decode cX2_hall 32 = .ok (.aload_n 0, 1) := by decide +kernel
theorem dX2_hall_33 : decode cX2_hall 33 = .ok (.getfield 7, 3) := by decide +kernel
theorem dX2_hall_36 : decode cX2_hall 36 = .ok (.aload_n 0, 1) := by decide +kernel
theorem dX2_hall_37 : decode cX2_hall 37 = .ok (.getfield 53, 3) := by decide +kernel
theorem dX2_hall_40 : decode cX2_hall 40 = .ok (.iload_n 2, 1) := by decide +kernel
theorem dX2_hall_41 : decode cX2_hall 41 = .ok (.iastore, 1) := by decide +kernel
theorem dX2_hall_42 : decode cX2_hall 42 = .ok (.aload_n 0, 1) := by decide +kernel
theorem dX2_hall_43 : decode cX2_hall 43 = .ok (.getfield 13, 3) := by decide +kernel
theorem dX2_hall_46 : decode cX2_hall 46 = .ok (.aload_n 0, 1) := by decide +kernel
theorem dX2_hall_47 : decode cX2_hall 47 = .ok (.getfield 53, 3) := by decide +kernel
theorem dX2_hall_50 : decode cX2_hall 50 = .ok (.iload_n 3, 1) := by decide +kernel
theorem dX2_hall_51 : decode cX2_hall 51 = .ok (.iastore, 1) := by decide +kernel
theorem dX2_hall_52 : decode cX2_hall 52 = .ok (.aload_n 0, 1) := by decide +kernel
theorem dX2_hall_53 : decode cX2_hall 53 = .ok (.getfield 34, 3) := by decide +kernel
theorem dX2_hall_56 : decode cX2_hall 56 = .ok (.iload_n 1, 1) := by decide +kernel
theorem dX2_hall_57 : decode cX2_hall 57 = .ok (.aload_n 0, 1) := by decide +kernel
theorem dX2_hall_58 : decode cX2_hall 58 = .ok (.getfield 53, 3) := by decide +kernel
theorem dX2_hall_61 : decode cX2_hall 61 = .ok (.iastore, 1) := by decide +kernel
theorem dX2_hall_62 : decode cX2_hall 62 = .ok (.aload_n 0, 1) := by decide +kernel
theorem dX2_hall_63 : decode cX2_hall 63 = .ok (.dup, 1) := by decide +kernel
theorem dX2_hall_64 : decode cX2_hall 64 = .ok (.getfield 53, 3) := by decide +kernel
theorem dX2_hall_67 : decode cX2_hall 67 = .ok (.iconst 1, 1) := by decide +kernel
theorem dX2_hall_68 : decode cX2_hall 68 = .ok (.iadd, 1) := by decide +kernel
theorem dX2_hall_69 : decode cX2_hall 69 = .ok (.putfield 53, 3) := by decide +kernel
theorem dX2_hall_72 : decode cX2_hall 72 = .ok (.aload_n 0, 1) := by decide +kernel
theorem dX2_hall_73 : decode cX2_hall 73 = .ok (.getfield 53, 3) := by decide +kernel
theorem dX2_hall_76 : decode cX2_hall 76 = .ok (.iconst 1, 1) := by decide +kernel
theorem dX2_hall_77 : decode cX2_hall 77 = .ok (.isub, 1) := by decide +kernel
theorem dX2_hall_78 : decode cX2_hall 78 = .ok (.ireturn, 1) := by decide +kernel
set_option maxRecDepth 20000 in
theorem ggX2_share_X2_in : GoodIn wsX2_share wsX2_in := goodIn_r _ [5] (by decide +kernel) (by decide +kernel)
set_option maxRecDepth 20000 in
theorem gX2_share_X2_in : GoodIn wsX2_share (va_wsS RX2 49 yX2_in wsX2_in) := goodIn_app (goodIn_of _ (by decide +kernel)) ggX2_share_X2_in
theorem dX2_share_0 : decode cX2_share 0 = .ok (.iload_n 1, 1) := by decide +kernel
theorem dX2_share_1 : decode cX2_share 1 = .ok (.iconst 0, 1) := by decide +kernel
theorem dX2_share_2 : decode cX2_share 2 = .ok (.bipush 9, 2) := by decide +kernel
theorem dX2_share_4 : decode cX2_share 4 = .ok (.invokestatic 49, 3) := by decide +kernel
theorem dX2_share_7 : decode cX2_share 7 = .ok (.ifCond .eq 13, 3) := by decide +kernel
theorem dX2_share_10 : decode cX2_share 10 = .ok (.iload_n 2, 1) := by decide +kernel
theorem dX2_share_11 : decode cX2_share 11 = .ok (.iconst 0, 1) := by decide +kernel
theorem dX2_share_12 : decode cX2_share 12 = .ok (.bipush 9, 2) := by decide +kernel
theorem dX2_share_14 : decode cX2_share 14 = .ok (.invokestatic 49, 3) := by decide +kernel
theorem dX2_share_17 : decode cX2_share 17 = .ok (.ifCond .ne 5, 3) := by decide +kernel
theorem dX2_share_20 : decode cX2_share 20 = .ok (.iconst (-1), 1) := by decide +kernel
theorem dX2_share_21 : decode cX2_share 21 = .ok (.ireturn, 1) := by decide +kernel
theorem dX2_share_22 : decode cX2_share 22 = .ok (.aload_n 0, 1) := by decide +kernel
theorem dX2_share_23 : decode cX2_share 23 = .ok (.getfield 34, 3) := by decide +kernel
theorem dX2_share_26 : decode cX2_share 26 = .ok (.iload_n 2, 1) := by decide +kernel
theorem dX2_share_27 : decode cX2_share 27 = .ok (.aload_n 0, 1) := by decide +kernel
theorem dX2_share_28 : decode cX2_share 28 = .ok (.getfield 34, 3) := by decide +kernel
theorem dX2_share_31 : decode cX2_share 31 = .ok (.iload_n 1, 1) := by decide +kernel
theorem dX2_share_32 : decode cX2_share 32 = .ok (.iaload, 1) := by decide +kernel
theorem dX2_share_33 : decode cX2_share 33 = .ok (.iastore, 1) := by decide +kernel
theorem dX2_share_34 : decode cX2_share 34 = .ok (.aload_n 0, 1) := by decide +kernel
theorem dX2_share_35 : decode cX2_share 35 = .ok (.getfield 34, 3) := by decide +kernel
theorem dX2_share_38 : decode cX2_share 38 = .ok (.iload_n 2, 1) := by decide +kernel
theorem dX2_share_39 : decode cX2_share 39 = .ok (.iaload, 1) := by decide +kernel
theorem dX2_share_40 : decode cX2_share 40 = .ok (.iconst (-1), 1) := by decide +kernel
theorem dX2_share_41 : decode cX2_share 41 = .ok (.if_icmp .ne 7, 3) := by decide +kernel
theorem dX2_share_44 : decode cX2_share 44 = .ok (.iconst 0, 1) := by decide +kernel
theorem dX2_share_45 : decode cX2_share 45 = .ok (.goto 4, 3) := by decide +kernel
theorem dX2_share_48 : decode cX2_share 48 = .ok (.iconst 1, 1) := by decide +kernel
theorem dX2_share_49 : decode cX2_share 49 = .ok (.ireturn, 1) := by decide +kernel
set_option maxRecDepth 20000 in
theorem ggX2_parent_X2_in : GoodIn wsX2_parent wsX2_in := goodIn_r _ [5] (by decide +kernel) (by decide +kernel)
set_option maxRecDepth 20000 in
theorem gX2_parent_X2_in : GoodIn wsX2_parent (va_wsS RX2 49 yX2_in wsX2_in) := goodIn_app (goodIn_of _ (by decide +kernel)) ggX2_parent_X2_in
theorem dX2_parent_0 : decode cX2_parent 0 = .ok (.iload_n 1, 1) := by decide +kernel
theorem dX2_parent_1 : decode cX2_parent 1 = .ok (.iconst 0, 1) := by decide +kernel
theorem dX2_parent_2 : decode cX2_parent 2 = .ok (.bipush 9, 2) := by decide +kernel
theorem dX2_parent_4 : decode cX2_parent 4 = .ok (.invokestatic 49, 3) := by decide +kernel
theorem dX2_parent_7 : decode cX2_parent 7 = .ok (.ifCond .eq 13, 3) := by decide +kernel
theorem dX2_parent_10 : decode cX2_parent 10 = .ok (.iload_n 2, 1) := by decide +kernel
theorem dX2_parent_11 : decode cX2_parent 11 = .ok (.iconst (-1), 1) := by decide +kernel
theorem dX2_parent_12 : decode cX2_parent 12 = .ok (.bipush 9, 2) := by decide +kernel
theorem dX2_parent_14 : decode cX2_parent 14 = .ok (.invokestatic 49, 3) := by decide +kernel
theorem dX2_parent_17 : decode cX2_parent 17 = .ok (.ifCond .ne 6, 3) := by decide +kernel
theorem dX2_parent_20 : decode cX2_parent 20 = .ok (.bipush (-2), 2) := by decide +kernel
theorem dX2_parent_22 : decode cX2_parent 22 = .ok (.ireturn, 1) := by decide +kernel
theorem dX2_parent_23 : decode cX2_parent 23 = .ok (.aload_n 0, 1) := by decide +kernel
theorem dX2_parent_24 : decode cX2_parent 24 = .ok (.getfield 37, 3) := by decide +kernel
theorem dX2_parent_27 : decode cX2_parent 27 = .ok (.iload_n 1, 1) := by decide +kernel
theorem dX2_parent_28 : decode cX2_parent 28 = .ok (.iaload, 1) := by decide +kernel
theorem dX2_parent_29 : decode cX2_parent 29 = .ok (.istore_n 3, 1) := by decide +kernel
theorem dX2_parent_30 : decode cX2_parent 30 = .ok (.aload_n 0, 1) := by decide +kernel
theorem dX2_parent_31 : decode cX2_parent 31 = .ok (.getfield 37, 3) := by decide +kernel
theorem dX2_parent_34 : decode cX2_parent 34 = .ok (.iload_n 1, 1) := by decide +kernel
theorem dX2_parent_35 : decode cX2_parent 35 = .ok (.iload_n 2, 1) := by decide +kernel
theorem dX2_parent_36 : decode cX2_parent 36 = .ok (.iastore, 1) := by decide +kernel
theorem dX2_parent_37 : decode cX2_parent 37 = .ok (.iload_n 3, 1) := by decide +kernel
theorem dX2_parent_38 : decode cX2_parent 38 = .ok (.ireturn, 1) := by decide +kernel
set_option maxRecDepth 20000 in
theorem ggX2_fill_X2_in : GoodIn wsX2_fill wsX2_in := goodIn_r _ [6] (by decide +kernel) (by decide +kernel)
set_option maxRecDepth 20000 in
theorem gX2_fill_X2_in : GoodIn wsX2_fill (va_wsS RX2 49 yX2_in wsX2_in) := goodIn_app (goodIn_of _ (by decide +kernel)) ggX2_fill_X2_in
theorem dX2_fill_0 : decode cX2_fill 0 = .ok (.iload_n 1, 1) := by decide +kernel
theorem dX2_fill_1 : decode cX2_fill 1 = .ok (.iconst 0, 1) := by decide +kernel
theorem dX2_fill_2 : decode cX2_fill 2 = .ok (.sipush 1000, 3) := by decide +kernel
theorem dX2_fill_5 : decode cX2_fill 5 = .ok (.invokestatic 49, 3) := by decide +kernel
theorem dX2_fill_8 : decode cX2_fill 8 = .ok (.ifCond .ne 5, 3) := by decide +kernel
theorem dX2_fill_11 : decode cX2_fill 11 = .ok (.iconst (-1), 1) := by decide +kernel
theorem dX2_fill_12 : decode cX2_fill 12 = .ok (.ireturn, 1) := by decide +kernel
theorem dX2_fill_13 : decode cX2_fill 13 = .ok (.aload_n 0, 1) := by decide +kernel
theorem dX2_fill_14 : decode cX2_fill 14 = .ok (.aload_n 0, 1) := by decide +kernel
theorem dX2_fill_15 : decode cX2_fill 15 = .ok (.getfield 57, 3) := by decide +kernel
theorem dX2_fill_18 : decode cX2_fill 18 = .ok (.iload_n 1, 1) := by decide +kernel
theorem dX2_fill_19 : decode cX2_fill 19 = .ok (.iadd, 1) := by decide +kernel
theorem dX2_fill_20 : decode cX2_fill 20 = .ok (.ldc 60, 2) := by decide +kernel
theorem dX2_fill_22 : decode cX2_fill 22 = .ok (.if_icmp .le 8, 3) := by decide +kernel
theorem dX2_fill_25 : decode cX2_fill 25 = .ok (.ldc 60, 2) := by decide +kernel
theorem dX2_fill_27 : decode cX2_fill 27 = .ok (.goto 9, 3) := by decide +kernel
theorem dX2_fill_30 : decode cX2_fill 30 = .ok (.aload_n 0, 1) := by decide +kernel
theorem dX2_fill_31 : decode cX2_fill 31 = .ok (.getfield 57, 3) := by decide +kernel
theorem dX2_fill_34 : decode cX2_fill 34 = .ok (.iload_n 1, 1) := by decide +kernel
theorem dX2_fill_35 : decode cX2_fill 35 = .ok (.iadd, 1) := by decide +kernel
theorem dX2_fill_36 : decode cX2_fill 36 = .ok (.putfield 57, 3) := by decide +kernel
theorem dX2_fill_39 : decode cX2_fill 39 = .ok (.aload_n 0, 1) := by decide +kernel
theorem dX2_fill_40 : decode cX2_fill 40 = .ok (.getfield 57, 3) := by decide +kernel
theorem dX2_fill_43 : decode cX2_fill 43 = .ok (.ireturn, 1) := by decide +kernel
theorem dX2_leave_0 : decode cX2_leave 0 = .ok (.aload_n 0, 1) := by decide +kernel
theorem dX2_leave_1 : decode cX2_leave 1 = .ok (.getfield 61, 3) := by decide +kernel
theorem dX2_leave_4 : decode cX2_leave 4 = .ok (.bipush 100, 2) := by decide +kernel
theorem dX2_leave_6 : decode cX2_leave 6 = .ok (.if_icmp .ge 23, 3) := by decide +kernel
theorem dX2_leave_9 : decode cX2_leave 9 = .ok (.aload_n 0, 1) := by decide +kernel
theorem dX2_leave_10 : decode cX2_leave 10 = .ok (.getfield 40, 3) := by decide +kernel
theorem dX2_leave_13 : decode cX2_leave 13 = .ok (.aload_n 0, 1) := by decide +kernel
theorem dX2_leave_14 : decode cX2_leave 14 = .ok (.getfield 61, 3) := by decide +kernel
theorem dX2_leave_17 : decode cX2_leave 17 = .ok (.iload_n 1, 1) := by decide +kernel
theorem dX2_leave_18 : decode cX2_leave 18 = .ok (.iastore, 1) := by decide +kernel
theorem dX2_leave_19 : decode cX2_leave 19 = .ok (.aload_n 0, 1) := by decide +kernel
theorem dX2_leave_20 : decode cX2_leave 20 = .ok (.dup, 1) := by decide +kernel
theorem dX2_leave_21 : decode cX2_leave 21 = .ok (.getfield 61, 3) := by decide +kernel
theorem dX2_leave_24 : decode cX2_leave 24 = .ok (.iconst 1, 1) := by decide +kernel
theorem dX2_leave_25 : decode cX2_leave 25 = .ok (.iadd, 1) := by decide +kernel
theorem dX2_leave_26 : decode cX2_leave 26 = .ok (.putfield 61, 3) := by decide +kernel
theorem dX2_leave_29 : decode cX2_leave 29 = .ok (.return_, 1) := by decide +kernel
theorem dX2_charge_0 : decode cX2_charge 0 = .ok (.aload_n 0, 1) := by decide +kernel
theorem dX2_charge_1 : decode cX2_charge 1 = .ok (.getfield 7, 3) := by decide +kernel
theorem dX2_charge_4 : decode cX2_charge 4 = .ok (.iload_n 1, 1) := by decide +kernel
theorem dX2_charge_5 : decode cX2_charge 5 = .ok (.iaload, 1) := by decide +kernel
theorem dX2_charge_6 : decode cX2_charge 6 = .ok (.ifCond .ne 12, 3) := by decide +kernel
theorem dX2_charge_9 : decode cX2_charge 9 = .ok (.aload_n 0, 1) := by decide +kernel
theorem dX2_charge_10 : decode cX2_charge 10 = .ok (.getfield 13, 3) := by decide +kernel
theorem dX2_charge_13 : decode cX2_charge 13 = .ok (.iload_n 1, 1) := by decide +kernel
theorem dX2_charge_14 : decode cX2_charge 14 = .ok (.iaload, 1) := by decide +kernel
theorem dX2_charge_15 : decode cX2_charge 15 = .ok (.goto 44, 3) := by decide +kernel
theorem dX2_charge_18 : decode cX2_charge 18 = .ok (.aload_n 0, 1) := by decide +kernel
theorem dX2_charge_19 : decode cX2_charge 19 = .ok (.getfield 7, 3) := by decide +kernel
theorem dX2_charge_22 : decode cX2_charge 22 = .ok (.iload_n 1, 1) := by decide +kernel
theorem dX2_charge_23 : decode cX2_charge 23 = .ok (.iaload, 1) := by decide +kernel
theorem dX2_charge_24 : decode cX2_charge 24 = .ok (.iconst 1, 1) := by decide +kernel
theorem dX2_charge_25 : decode cX2_charge 25 = .ok (.if_icmp .ne 19, 3) := by decide +kernel
theorem dX2_charge_28 : decode cX2_charge 28 = .ok (.aload_n 0, 1) := by decide +kernel
theorem dX2_charge_29 : decode cX2_charge 29 = .ok (.getfield 13, 3) := by decide +kernel
theorem dX2_charge_32 : decode cX2_charge 32 = .ok (.iload_n 1, 1) := by decide +kernel
theorem dX2_charge_33 : decode cX2_charge 33 = .ok (.iaload, 1) := by decide +kernel
theorem dX2_charge_34 : decode cX2_charge 34 = .ok (.aload_n 0, 1) := by decide +kernel
theorem dX2_charge_35 : decode cX2_charge 35 = .ok (.getfield 19, 3) := by decide +kernel
theorem dX2_charge_38 : decode cX2_charge 38 = .ok (.iload_n 1, 1) := by decide +kernel
theorem dX2_charge_39 : decode cX2_charge 39 = .ok (.iaload, 1) := by decide +kernel
theorem dX2_charge_40 : decode cX2_charge 40 = .ok (.iadd, 1) := by decide +kernel
theorem dX2_charge_41 : decode cX2_charge 41 = .ok (.goto 18, 3) := by decide +kernel
theorem dX2_charge_44 : decode cX2_charge 44 = .ok (.iconst 2, 1) := by decide +kernel
theorem dX2_charge_45 : decode cX2_charge 45 = .ok (.aload_n 0, 1) := by decide +kernel
theorem dX2_charge_46 : decode cX2_charge 46 = .ok (.getfield 13, 3) := by decide +kernel
theorem dX2_charge_49 : decode cX2_charge 49 = .ok (.iload_n 1, 1) := by decide +kernel
theorem dX2_charge_50 : decode cX2_charge 50 = .ok (.iaload, 1) := by decide +kernel
theorem dX2_charge_51 : decode cX2_charge 51 = .ok (.aload_n 0, 1) := by decide +kernel
theorem dX2_charge_52 : decode cX2_charge 52 = .ok (.getfield 19, 3) := by decide +kernel
theorem dX2_charge_55 : decode cX2_charge 55 = .ok (.iload_n 1, 1) := by decide +kernel
theorem dX2_charge_56 : decode cX2_charge 56 = .ok (.iaload, 1) := by decide +kernel
theorem dX2_charge_57 : decode cX2_charge 57 = .ok (.iadd, 1) := by decide +kernel
theorem dX2_charge_58 : decode cX2_charge 58 = .ok (.imul, 1) := by decide +kernel
theorem dX2_charge_59 : decode cX2_charge 59 = .ok (.ireturn, 1) := by decide +kernel
set_option maxRecDepth 20000 in
theorem ggX2_pass_X2_leave : GoodIn wsX2_pass wsX2_leave := goodIn_r _ [14, 15, 16, 22, 23, 24, 25, 26, 27, 28, 29, 30, 31, 32, 33, 34, 35, 36, 37, 38, 39, 40, 41] (by decide +kernel) (by decide +kernel)
set_option maxRecDepth 20000 in
theorem gX2_pass_X2_leave : GoodIn wsX2_pass (wsV RX2 64 RX2 yX2_leave wsX2_leave) := goodIn_app (goodIn_of _ (by decide +kernel)) ggX2_pass_X2_leave
set_option maxRecDepth 20000 in
theorem ggX2_pass_X2_charge : GoodIn wsX2_pass wsX2_charge := goodIn_r _ [20, 7, 21, 1, 22, 23, 24, 25, 26, 27, 28, 29, 30, 31, 32, 33, 34, 35, 36, 37, 38, 39, 40, 41] (by decide +kernel) (by decide +kernel)
set_option maxRecDepth 20000 in
theorem gX2_pass_X2_charge : GoodIn wsX2_pass (wsV RX2 74 RX2 yX2_charge wsX2_charge) := goodIn_app (goodIn_of _ (by decide +kernel)) ggX2_pass_X2_charge
theorem dX2_pass_0 : decode cX2_pass 0 = .ok (.aload_n 0, 1) := by decide +kernel
theorem dX2_pass_1 : decode cX2_pass 1 = .ok (.getfield 19, 3) := by decide +kernel
theorem dX2_pass_4 : decode cX2_pass 4 = .ok (.iload_n 1, 1) := by decide +kernel
theorem dX2_pass_5 : decode cX2_pass 5 = .ok (.dup2, 1) := by decide +kernel
theorem dX2_pass_6 : decode cX2_pass 6 = .ok (.iaload, 1) := by decide +kernel
theorem dX2_pass_7 : decode cX2_pass 7 = .ok (.iconst 1, 1) := by decide +kernel
theorem dX2_pass_8 : decode cX2_pass 8 = .ok (.iadd, 1) := by decide +kernel
theorem dX2_pass_9 : decode cX2_pass 9 = .ok (.iastore, 1) := by decide +kernel
theorem dX2_pass_10 : decode cX2_pass 10 = .ok (.aload_n 0, 1) := by decide +kernel
theorem dX2_pass_11 : decode cX2_pass 11 = .ok (.getfield 28, 3) := by decide +kernel
theorem dX2_pass_14 : decode cX2_pass 14 = .ok (.iload_n 1, 1) := by decide +kernel
theorem dX2_pass_15 : decode cX2_pass 15 = .ok (.dup2, 1) := by decide +kernel
theorem dX2_pass_16 : decode cX2_pass 16 = .ok (.iaload, 1) := by decide +kernel
theorem dX2_pass_17 : decode cX2_pass 17 = .ok (.iconst 1, 1) := by decide +kernel
theorem dX2_pass_18 : decode cX2_pass 18 = .ok (.iadd, 1) := by decide +kernel
theorem dX2_pass_19 : decode cX2_pass 19 = .ok (.iastore, 1) := by decide +kernel
theorem dX2_pass_20 : decode cX2_pass 20 = .ok (.aload_n 0, 1) := by decide +kernel
theorem dX2_pass_21 : decode cX2_pass 21 = .ok (.getfield 31, 3) := by decide +kernel
theorem dX2_pass_24 : decode cX2_pass 24 = .ok (.iload_n 1, 1) := by decide +kernel
theorem dX2_pass_25 : decode cX2_pass 25 = .ok (.aload_n 0, 1) := by decide +kernel
theorem dX2_pass_26 : decode cX2_pass 26 = .ok (.getfield 28, 3) := by decide +kernel
theorem dX2_pass_29 : decode cX2_pass 29 = .ok (.iload_n 1, 1) := by decide +kernel
theorem dX2_pass_30 : decode cX2_pass 30 = .ok (.iaload, 1) := by decide +kernel
theorem dX2_pass_31 : decode cX2_pass 31 = .ok (.aload_n 0, 1) := by decide +kernel
theorem dX2_pass_32 : decode cX2_pass 32 = .ok (.getfield 31, 3) := by decide +kernel
theorem dX2_pass_35 : decode cX2_pass 35 = .ok (.iload_n 1, 1) := by decide +kernel
theorem dX2_pass_36 : decode cX2_pass 36 = .ok (.iaload, 1) := by decide +kernel
theorem dX2_pass_37 : decode cX2_pass 37 = .ok (.if_icmp .le 12, 3) := by decide +kernel
theorem dX2_pass_40 : decode cX2_pass 40 = .ok (.aload_n 0, 1) := by decide +kernel
theorem dX2_pass_41 : decode cX2_pass 41 = .ok (.getfield 28, 3) := by decide +kernel
theorem dX2_pass_44 : decode cX2_pass 44 = .ok (.iload_n 1, 1) := by decide +kernel
theorem dX2_pass_45 : decode cX2_pass 45 = .ok (.iaload, 1) := by decide +kernel
theorem dX2_pass_46 : decode cX2_pass 46 = .ok (.goto 9, 3) := by decide +kernel
theorem dX2_pass_49 : decode cX2_pass 49 = .ok (.aload_n 0, 1) := by decide +kernel
theorem dX2_pass_50 : decode cX2_pass 50 = .ok (.getfield 31, 3) := by decide +kernel
theorem dX2_pass_53 : decode cX2_pass 53 = .ok (.iload_n 1, 1) := by decide +kernel
theorem dX2_pass_54 : decode cX2_pass 54 = .ok (.iaload, 1) := by decide +kernel
theorem dX2_pass_55 : decode cX2_pass 55 = .ok (.iastore, 1) := by decide +kernel
theorem dX2_pass_56 : decode cX2_pass 56 = .ok (.aload_n 0, 1) := by decide +kernel
theorem dX2_pass_57 : decode cX2_pass 57 = .ok (.iload_n 1, 1) := by decide +kernel
theorem dX2_pass_58 : decode cX2_pass 58 = .ok (.bipush 100, 2) := by decide +kernel
theorem dX2_pass_60 : decode cX2_pass 60 = .ok (.irem, 1) := by decide +kernel
theorem dX2_pass_61 : decode cX2_pass 61 = .ok (.invokevirtual 64, 3) := by decide +kernel
theorem dX2_pass_64 : decode cX2_pass 64 = .ok (.aload_n 0, 1) := by decide +kernel
theorem dX2_pass_65 : decode cX2_pass 65 = .ok (.getfield 43, 3) := by decide +kernel
theorem dX2_pass_68 : decode cX2_pass 68 = .ok (.aload_n 0, 1) := by decide +kernel
theorem dX2_pass_69 : decode cX2_pass 69 = .ok (.getfield 68, 3) := by decide +kernel
theorem dX2_pass_72 : decode cX2_pass 72 = .ok (.iload_n 1, 1) := by decide +kernel
theorem dX2_pass_73 : decode cX2_pass 73 = .ok (.iastore, 1) := by decide +kernel
theorem dX2_pass_74 : decode cX2_pass 74 = .ok (.aload_n 0, 1) := by decide +kernel
theorem dX2_pass_75 : decode cX2_pass 75 = .ok (.dup, 1) := by decide +kernel
theorem dX2_pass_76 : decode cX2_pass 76 = .ok (.getfield 68, 3) := by decide +kernel
theorem dX2_pass_79 : decode cX2_pass 79 = .ok (.iconst 1, 1) := by decide +kernel
theorem dX2_pass_80 : decode cX2_pass 80 = .ok (.iadd, 1) := by decide +kernel
theorem dX2_pass_81 : decode cX2_pass 81 = .ok (.putfield 68, 3) := by decide +kernel
theorem dX2_pass_84 : decode cX2_pass 84 = .ok (.aload_n 0, 1) := by decide +kernel
theorem dX2_pass_85 : decode cX2_pass 85 = .ok (.aload_n 0, 1) := by decide +kernel
theorem dX2_pass_86 : decode cX2_pass 86 = .ok (.getfield 68, 3) := by decide +kernel
theorem dX2_pass_89 : decode cX2_pass 89 = .ok (.aload_n 0, 1) := by decide +kernel
theorem dX2_pass_90 : decode cX2_pass 90 = .ok (.getfield 71, 3) := by decide +kernel
theorem dX2_pass_93 : decode cX2_pass 93 = .ok (.if_icmp .le 10, 3) := by decide +kernel
theorem dX2_pass_96 : decode cX2_pass 96 = .ok (.aload_n 0, 1) := by decide +kernel
theorem dX2_pass_97 : decode cX2_pass 97 = .ok (.getfield 68, 3) := by decide +kernel
theorem dX2_pass_100 : decode cX2_pass 100 = .ok (.goto 7, 3) := by decide +kernel
theorem dX2_pass_103 : decode cX2_pass 103 = .ok (.aload_n 0, 1) := by decide +kernel
theorem dX2_pass_104 : decode cX2_pass 104 = .ok (.getfield 71, 3) := by decide +kernel
theorem dX2_pass_107 : decode cX2_pass 107 = .ok (.putfield 71, 3) := by decide +kernel
theorem dX2_pass_110 : decode cX2_pass 110 = .ok (.aload_n 0, 1) := by decide +kernel
theorem dX2_pass_111 : decode cX2_pass 111 = .ok (.getfield 7, 3) := by decide +kernel
theorem dX2_pass_114 : decode cX2_pass 114 = .ok (.iload_n 1, 1) := by decide +kernel
theorem dX2_pass_115 : decode cX2_pass 115 = .ok (.iaload, 1) := by decide +kernel
theorem dX2_pass_116 : decode cX2_pass 116 = .ok (.iconst 2, 1) := by decide +kernel
theorem dX2_pass_117 : decode cX2_pass 117 = .ok (.if_icmp .ne 17, 3) := by decide +kernel
theorem dX2_pass_120 : decode cX2_pass 120 = .ok (.aload_n 0, 1) := by decide +kernel
theorem dX2_pass_121 : decode cX2_pass 121 = .ok (.getfield 19, 3) := by decide +kernel
theorem dX2_pass_124 : decode cX2_pass 124 = .ok (.iload_n 1, 1) := by decide +kernel
theorem dX2_pass_125 : decode cX2_pass 125 = .ok (.iaload, 1) := by decide +kernel
theorem dX2_pass_126 : decode cX2_pass 126 = .ok (.iconst 3, 1) := by decide +kernel
theorem dX2_pass_127 : decode cX2_pass 127 = .ok (.irem, 1) := by decide +kernel
theorem dX2_pass_128 : decode cX2_pass 128 = .ok (.ifCond .ne 6, 3) := by decide +kernel
theorem dX2_pass_131 : decode cX2_pass 131 = .ok (.bipush 21, 2) := by decide +kernel
theorem dX2_pass_133 : decode cX2_pass 133 = .ok (.ireturn, 1) := by decide +kernel
theorem dX2_pass_134 : decode cX2_pass 134 = .ok (.aload_n 0, 1) := by decide +kernel
theorem dX2_pass_135 : decode cX2_pass 135 = .ok (.getfield 57, 3) := by decide +kernel
theorem dX2_pass_138 : decode cX2_pass 138 = .ok (.aload_n 0, 1) := by decide +kernel
theorem dX2_pass_139 : decode cX2_pass 139 = .ok (.iload_n 1, 1) := by decide +kernel
theorem dX2_pass_140 : decode cX2_pass 140 = .ok (.invokevirtual 74, 3) := by decide +kernel
theorem dX2_pass_143 : decode cX2_pass 143 = .ok (.if_icmp .ge 6, 3) := by decide +kernel
theorem dX2_pass_146 : decode cX2_pass 146 = .ok (.bipush 20, 2) := by decide +kernel
theorem dX2_pass_148 : decode cX2_pass 148 = .ok (.ireturn, 1) := by decide +kernel
theorem dX2_pass_149 : decode cX2_pass 149 = .ok (.aload_n 0, 1) := by decide +kernel
theorem dX2_pass_150 : decode cX2_pass 150 = .ok (.aload_n 0, 1) := by decide +kernel
theorem dX2_pass_151 : decode cX2_pass 151 = .ok (.getfield 57, 3) := by decide +kernel
theorem dX2_pass_154 : decode cX2_pass 154 = .ok (.aload_n 0, 1) := by decide +kernel
theorem dX2_pass_155 : decode cX2_pass 155 = .ok (.iload_n 1, 1) := by decide +kernel
theorem dX2_pass_156 : decode cX2_pass 156 = .ok (.invokevirtual 74, 3) := by decide +kernel
theorem dX2_pass_159 : decode cX2_pass 159 = .ok (.isub, 1) := by decide +kernel
theorem dX2_pass_160 : decode cX2_pass 160 = .ok (.putfield 57, 3) := by decide +kernel
theorem dX2_pass_163 : decode cX2_pass 163 = .ok (.aload_n 0, 1) := by decide +kernel
theorem dX2_pass_164 : decode cX2_pass 164 = .ok (.getfield 25, 3) := by decide +kernel
theorem dX2_pass_167 : decode cX2_pass 167 = .ok (.iload_n 1, 1) := by decide +kernel
theorem dX2_pass_168 : decode cX2_pass 168 = .ok (.aload_n 0, 1) := by decide +kernel
theorem dX2_pass_169 : decode cX2_pass 169 = .ok (.getfield 25, 3) := by decide +kernel
theorem dX2_pass_172 : decode cX2_pass 172 = .ok (.iload_n 1, 1) := by decide +kernel
theorem dX2_pass_173 : decode cX2_pass 173 = .ok (.iaload, 1) := by decide +kernel
theorem dX2_pass_174 : decode cX2_pass 174 = .ok (.aload_n 0, 1) := by decide +kernel
theorem dX2_pass_175 : decode cX2_pass 175 = .ok (.iload_n 1, 1) := by decide +kernel
theorem dX2_pass_176 : decode cX2_pass 176 = .ok (.invokevirtual 74, 3) := by decide +kernel
theorem dX2_pass_179 : decode cX2_pass 179 = .ok (.iadd, 1) := by decide +kernel
theorem dX2_pass_180 : decode cX2_pass 180 = .ok (.iastore, 1) := by decide +kernel
theorem dX2_pass_181 : decode cX2_pass 181 = .ok (.iconst 0, 1) := by decide +kernel
theorem dX2_pass_182 : decode cX2_pass 182 = .ok (.ireturn, 1) := by decide +kernel
set_option maxRecDepth 20000 in
theorem ggX2_leaveTo_X2_leave : GoodIn wsX2_leaveTo wsX2_leave := goodIn_r _ [8, 9, 10, 11, 12, 13, 14, 15, 16, 17, 18, 19, 20, 21, 22, 23, 24, 25, 26, 27, 28, 29, 30] (by decide +kernel) (by decide +kernel)
set_option maxRecDepth 20000 in
theorem gX2_leaveTo_X2_leave : GoodIn wsX2_leaveTo (wsV RX2 64 RX2 yX2_leave wsX2_leave) := goodIn_app (goodIn_of _ (by decide +kernel)) ggX2_leaveTo_X2_leave
theorem dX2_leaveTo_0 : decode cX2_leaveTo 0 = .ok (.aload_n 0, 1) := by decide +kernel
theorem dX2_leaveTo_1 : decode cX2_leaveTo 1 = .ok (.getfield 68, 3) := by decide +kernel
theorem dX2_leaveTo_4 : decode cX2_leaveTo 4 = .ok (.iload_n 1, 1) := by decide +kernel
theorem dX2_leaveTo_5 : decode cX2_leaveTo 5 = .ok (.if_icmp .le 53, 3) := by decide +kernel
theorem dX2_leaveTo_8 : decode cX2_leaveTo 8 = .ok (.aload_n 0, 1) := by decide +kernel
theorem dX2_leaveTo_9 : decode cX2_leaveTo 9 = .ok (.dup, 1) := by decide +kernel
theorem dX2_leaveTo_10 : decode cX2_leaveTo 10 = .ok (.getfield 68, 3) := by decide +kernel
theorem dX2_leaveTo_13 : decode cX2_leaveTo 13 = .ok (.iconst 1, 1) := by decide +kernel
theorem dX2_leaveTo_14 : decode cX2_leaveTo 14 = .ok (.isub, 1) := by decide +kernel
theorem dX2_leaveTo_15 : decode cX2_leaveTo 15 = .ok (.putfield 68, 3) := by decide +kernel
theorem dX2_leaveTo_18 : decode cX2_leaveTo 18 = .ok (.aload_n 0, 1) := by decide +kernel
theorem dX2_leaveTo_19 : decode cX2_leaveTo 19 = .ok (.getfield 28, 3) := by decide +kernel
theorem dX2_leaveTo_22 : decode cX2_leaveTo 22 = .ok (.aload_n 0, 1) := by decide +kernel
theorem dX2_leaveTo_23 : decode cX2_leaveTo 23 = .ok (.getfield 43, 3) := by decide +kernel
theorem dX2_leaveTo_26 : decode cX2_leaveTo 26 = .ok (.aload_n 0, 1) := by decide +kernel
theorem dX2_leaveTo_27 : decode cX2_leaveTo 27 = .ok (.getfield 68, 3) := by decide +kernel
theorem dX2_leaveTo_30 : decode cX2_leaveTo 30 = .ok (.iaload, 1) := by decide +kernel
theorem dX2_leaveTo_31 : decode cX2_leaveTo 31 = .ok (.dup2, 1) := by decide +kernel
theorem dX2_leaveTo_32 : decode cX2_leaveTo 32 = .ok (.iaload, 1) := by decide +kernel
theorem dX2_leaveTo_33 : decode cX2_leaveTo 33 = .ok (.iconst 1, 1) := by decide +kernel
theorem dX2_leaveTo_34 : decode cX2_leaveTo 34 = .ok (.isub, 1) := by decide +kernel
theorem dX2_leaveTo_35 : decode cX2_leaveTo 35 = .ok (.iastore, 1) := by decide +kernel
theorem dX2_leaveTo_36 : decode cX2_leaveTo 36 = .ok (.aload_n 0, 1) := by decide +kernel
theorem dX2_leaveTo_37 : decode cX2_leaveTo 37 = .ok (.bipush 100, 2) := by decide +kernel
theorem dX2_leaveTo_39 : decode cX2_leaveTo 39 = .ok (.aload_n 0, 1) := by decide +kernel
theorem dX2_leaveTo_40 : decode cX2_leaveTo 40 = .ok (.getfield 43, 3) := by decide +kernel
theorem dX2_leaveTo_43 : decode cX2_leaveTo 43 = .ok (.aload_n 0, 1) := by decide +kernel
theorem dX2_leaveTo_44 : decode cX2_leaveTo 44 = .ok (.getfield 68, 3) := by decide +kernel
theorem dX2_leaveTo_47 : decode cX2_leaveTo 47 = .ok (.iaload, 1) := by decide +kernel
theorem dX2_leaveTo_48 : decode cX2_leaveTo 48 = .ok (.bipush 100, 2) := by decide +kernel
theorem dX2_leaveTo_50 : decode cX2_leaveTo 50 = .ok (.irem, 1) := by decide +kernel
theorem dX2_leaveTo_51 : decode cX2_leaveTo 51 = .ok (.iadd, 1) := by decide +kernel
theorem dX2_leaveTo_52 : decode cX2_leaveTo 52 = .ok (.invokevirtual 64, 3) := by decide +kernel
theorem dX2_leaveTo_55 : decode cX2_leaveTo 55 = .ok (.goto (-55), 3) := by decide +kernel
theorem dX2_leaveTo_58 : decode cX2_leaveTo 58 = .ok (.return_, 1) := by decide +kernel
set_option maxRecDepth 20000 in
theorem ggX2_goTo_X2_pass : GoodIn wsX2_goTo wsX2_pass := goodIn_r _ [9, 10, 11, 12, 13, 14, 15, 16, 17, 18, 19, 20, 21, 8, 22, 23, 24, 25, 26, 27, 28, 29, 30, 31, 32, 33, 34, 35, 36, 37, 38, 39, 40, 41, 42, 43, 44, 45, 46, 47, 48, 49] (by decide +kernel) (by decide +kernel)
set_option maxRecDepth 20000 in
theorem gX2_goTo_X2_pass : GoodIn wsX2_goTo (wsV RX2 81 RX2 yX2_pass wsX2_pass) := goodIn_app (goodIn_of _ (by decide +kernel)) ggX2_goTo_X2_pass
theorem dX2_goTo_0 : decode cX2_goTo 0 = .ok (.aload_n 0, 1) := by decide +kernel
theorem dX2_goTo_1 : decode cX2_goTo 1 = .ok (.dup, 1) := by decide +kernel
theorem dX2_goTo_2 : decode cX2_goTo 2 = .ok (.getfield 78, 3) := by decide +kernel
theorem dX2_goTo_5 : decode cX2_goTo 5 = .ok (.iconst 1, 1) := by decide +kernel
theorem dX2_goTo_6 : decode cX2_goTo 6 = .ok (.iadd, 1) := by decide +kernel
theorem dX2_goTo_7 : decode cX2_goTo 7 = .ok (.putfield 78, 3) := by decide +kernel
theorem dX2_goTo_10 : decode cX2_goTo 10 = .ok (.iconst 0, 1) := by decide +kernel
theorem dX2_goTo_11 : decode cX2_goTo 11 = .ok (.istore_n 2, 1) := by decide +kernel
theorem dX2_goTo_12 : decode cX2_goTo 12 = .ok (.iload_n 1, 1) := by decide +kernel
theorem dX2_goTo_13 : decode cX2_goTo 13 = .ok (.istore_n 3, 1) := by decide +kernel
theorem dX2_goTo_14 : decode cX2_goTo 14 = .ok (.iload_n 3, 1) := by decide +kernel
theorem dX2_goTo_15 : decode cX2_goTo 15 = .ok (.iconst (-1), 1) := by decide +kernel
theorem dX2_goTo_16 : decode cX2_goTo 16 = .ok (.if_icmp .eq 52, 3) := by decide +kernel
theorem dX2_goTo_19 : decode cX2_goTo 19 = .ok (.iconst 0, 1) := by decide +kernel
theorem dX2_goTo_20 : decode cX2_goTo 20 = .ok (.istore 4, 2) := by decide +kernel
theorem dX2_goTo_22 : decode cX2_goTo 22 = .ok (.iload 4, 2) := by decide +kernel
theorem dX2_goTo_24 : decode cX2_goTo 24 = .ok (.iload_n 2, 1) := by decide +kernel
theorem dX2_goTo_25 : decode cX2_goTo 25 = .ok (.if_icmp .ge 23, 3) := by decide +kernel
theorem dX2_goTo_28 : decode cX2_goTo 28 = .ok (.aload_n 0, 1) := by decide +kernel
theorem dX2_goTo_29 : decode cX2_goTo 29 = .ok (.getfield 46, 3) := by decide +kernel
theorem dX2_goTo_32 : decode cX2_goTo 32 = .ok (.iload 4, 2) := by decide +kernel
theorem dX2_goTo_34 : decode cX2_goTo 34 = .ok (.iaload, 1) := by decide +kernel
theorem dX2_goTo_35 : decode cX2_goTo 35 = .ok (.iload_n 3, 1) := by decide +kernel
theorem dX2_goTo_36 : decode cX2_goTo 36 = .ok (.if_icmp .ne 6, 3) := by decide +kernel
theorem dX2_goTo_39 : decode cX2_goTo 39 = .ok (.bipush 8, 2) := by decide +kernel
theorem dX2_goTo_41 : decode cX2_goTo 41 = .ok (.ireturn, 1) := by decide +kernel
theorem dX2_goTo_42 : decode cX2_goTo 42 = .ok (.iinc 4 1, 3) := by decide +kernel
theorem dX2_goTo_45 : decode cX2_goTo 45 = .ok (.goto (-23), 3) := by decide +kernel
theorem dX2_goTo_48 : decode cX2_goTo 48 = .ok (.aload_n 0, 1) := by decide +kernel
theorem dX2_goTo_49 : decode cX2_goTo 49 = .ok (.getfield 46, 3) := by decide +kernel
theorem dX2_goTo_52 : decode cX2_goTo 52 = .ok (.iload_n 2, 1) := by decide +kernel
theorem dX2_goTo_53 : decode cX2_goTo 53 = .ok (.iload_n 3, 1) := by decide +kernel
theorem dX2_goTo_54 : decode cX2_goTo 54 = .ok (.iastore, 1) := by decide +kernel
theorem dX2_goTo_55 : decode cX2_goTo 55 = .ok (.iinc 2 1, 3) := by decide +kernel
theorem dX2_goTo_58 : decode cX2_goTo 58 = .ok (.aload_n 0, 1) := by decide +kernel
theorem dX2_goTo_59 : decode cX2_goTo 59 = .ok (.getfield 37, 3) := by decide +kernel
theorem dX2_goTo_62 : decode cX2_goTo 62 = .ok (.iload_n 3, 1) := by decide +kernel
theorem dX2_goTo_63 : decode cX2_goTo 63 = .ok (.iaload, 1) := by decide +kernel
theorem dX2_goTo_64 : decode cX2_goTo 64 = .ok (.istore_n 3, 1) := by decide +kernel
theorem dX2_goTo_65 : decode cX2_goTo 65 = .ok (.goto (-51), 3) := by decide +kernel
theorem dX2_goTo_68 : decode cX2_goTo 68 = .ok (.iload_n 2, 1) := by decide +kernel
theorem dX2_goTo_69 : decode cX2_goTo 69 = .ok (.iconst 1, 1) := by decide +kernel
theorem dX2_goTo_70 : decode cX2_goTo 70 = .ok (.isub, 1) := by decide +kernel
theorem dX2_goTo_71 : decode cX2_goTo 71 = .ok (.istore 4, 2) := by decide +kernel
theorem dX2_goTo_73 : decode cX2_goTo 73 = .ok (.iload 4, 2) := by decide +kernel
theorem dX2_goTo_75 : decode cX2_goTo 75 = .ok (.ifCond .lt 49, 3) := by decide +kernel
theorem dX2_goTo_78 : decode cX2_goTo 78 = .ok (.aload_n 0, 1) := by decide +kernel
theorem dX2_goTo_79 : decode cX2_goTo 79 = .ok (.getfield 34, 3) := by decide +kernel
theorem dX2_goTo_82 : decode cX2_goTo 82 = .ok (.aload_n 0, 1) := by decide +kernel
theorem dX2_goTo_83 : decode cX2_goTo 83 = .ok (.getfield 46, 3) := by decide +kernel
theorem dX2_goTo_86 : decode cX2_goTo 86 = .ok (.iload 4, 2) := by decide +kernel
theorem dX2_goTo_88 : decode cX2_goTo 88 = .ok (.iaload, 1) := by decide +kernel
theorem dX2_goTo_89 : decode cX2_goTo 89 = .ok (.iaload, 1) := by decide +kernel
theorem dX2_goTo_90 : decode cX2_goTo 90 = .ok (.istore 5, 2) := by decide +kernel
theorem dX2_goTo_92 : decode cX2_goTo 92 = .ok (.iload 5, 2) := by decide +kernel
theorem dX2_goTo_94 : decode cX2_goTo 94 = .ok (.iconst (-1), 1) := by decide +kernel
theorem dX2_goTo_95 : decode cX2_goTo 95 = .ok (.if_icmp .ne 7, 3) := by decide +kernel
theorem dX2_goTo_98 : decode cX2_goTo 98 = .ok (.iconst 1, 1) := by decide +kernel
theorem dX2_goTo_99 : decode cX2_goTo 99 = .ok (.goto 9, 3) := by decide +kernel
theorem dX2_goTo_102 : decode cX2_goTo 102 = .ok (.aload_n 0, 1) := by decide +kernel
theorem dX2_goTo_103 : decode cX2_goTo 103 = .ok (.iload 5, 2) := by decide +kernel
theorem dX2_goTo_105 : decode cX2_goTo 105 = .ok (.invokevirtual 81, 3) := by decide +kernel
theorem dX2_goTo_108 : decode cX2_goTo 108 = .ok (.istore 6, 2) := by decide +kernel
theorem dX2_goTo_110 : decode cX2_goTo 110 = .ok (.iload 6, 2) := by decide +kernel
theorem dX2_goTo_112 : decode cX2_goTo 112 = .ok (.ifCond .eq 6, 3) := by decide +kernel
theorem dX2_goTo_115 : decode cX2_goTo 115 = .ok (.iload 6, 2) := by decide +kernel
theorem dX2_goTo_117 : decode cX2_goTo 117 = .ok (.ireturn, 1) := by decide +kernel
theorem dX2_goTo_118 : decode cX2_goTo 118 = .ok (.iinc 4 (-1), 3) := by decide +kernel
theorem dX2_goTo_121 : decode cX2_goTo 121 = .ok (.goto (-48), 3) := by decide +kernel
theorem dX2_goTo_124 : decode cX2_goTo 124 = .ok (.iconst 0, 1) := by decide +kernel
theorem dX2_goTo_125 : decode cX2_goTo 125 = .ok (.ireturn, 1) := by decide +kernel
theorem dX2_rich_0 : decode cX2_rich 0 = .ok (.aload_n 0, 1) := by decide +kernel
theorem dX2_rich_1 : decode cX2_rich 1 = .ok (.getfield 57, 3) := by decide +kernel
theorem dX2_rich_4 : decode cX2_rich 4 = .ok (.i2l, 1) := by decide +kernel
theorem dX2_rich_5 : decode cX2_rich 5 = .ok (.lload_n 1, 1) := by decide +kernel
theorem dX2_rich_6 : decode cX2_rich 6 = .ok (.ladd, 1) := by decide +kernel
theorem dX2_rich_7 : decode cX2_rich 7 = .ok (.lstore_n 3, 1) := by decide +kernel
theorem dX2_rich_8 : decode cX2_rich 8 = .ok (.lload_n 3, 1) := by decide +kernel
theorem dX2_rich_9 : decode cX2_rich 9 = .ok (.lconst 0, 1) := by decide +kernel
theorem dX2_rich_10 : decode cX2_rich 10 = .ok (.lcmp, 1) := by decide +kernel
theorem dX2_rich_11 : decode cX2_rich 11 = .ok (.ifCond .lt 11, 3) := by decide +kernel
theorem dX2_rich_14 : decode cX2_rich 14 = .ok (.lload_n 3, 1) := by decide +kernel
theorem dX2_rich_15 : decode cX2_rich 15 = .ok (.ldc2_w 84, 3) := by decide +kernel
theorem dX2_rich_18 : decode cX2_rich 18 = .ok (.lcmp, 1) := by decide +kernel
theorem dX2_rich_19 : decode cX2_rich 19 = .ok (.ifCond .le 6, 3) := by decide +kernel
theorem dX2_rich_22 : decode cX2_rich 22 = .ok (.bipush 22, 2) := by decide +kernel
theorem dX2_rich_24 : decode cX2_rich 24 = .ok (.ireturn, 1) := by decide +kernel
theorem dX2_rich_25 : decode cX2_rich 25 = .ok (.aload_n 0, 1) := by decide +kernel
theorem dX2_rich_26 : decode cX2_rich 26 = .ok (.lload_n 3, 1) := by decide +kernel
theorem dX2_rich_27 : decode cX2_rich 27 = .ok (.l2i, 1) := by decide +kernel
theorem dX2_rich_28 : decode cX2_rich 28 = .ok (.putfield 57, 3) := by decide +kernel
theorem dX2_rich_31 : decode cX2_rich 31 = .ok (.iconst 0, 1) := by decide +kernel
theorem dX2_rich_32 : decode cX2_rich 32 = .ok (.ireturn, 1) := by decide +kernel
set_option maxRecDepth 20000 in
theorem ggX2_goesOn_X2_ten : GoodIn wsX2_goesOn wsX2_ten := goodIn_r _ [5] (by decide +kernel) (by decide +kernel)
set_option maxRecDepth 20000 in
theorem gX2_goesOn_X2_ten : GoodIn wsX2_goesOn (va_wsS RX2 86 yX2_ten wsX2_ten) := goodIn_app (goodIn_of _ (by decide +kernel)) ggX2_goesOn_X2_ten
set_option maxRecDepth 20000 in
theorem ggX2_goesOn_X2_goTo : GoodIn wsX2_goesOn wsX2_goTo := goodIn_r _ [9, 10, 11, 12, 13, 14, 15, 16, 4, 17, 18, 19, 20, 21, 1, 22, 23, 24, 25, 26, 27, 28, 29, 30, 31, 32, 33, 34, 35, 36, 41, 42, 43, 44, 45, 46, 47, 48, 49, 50, 51, 52, 53, 54, 55, 56, 57, 58, 59, 60] (by decide +kernel) (by decide +kernel)
set_option maxRecDepth 20000 in
theorem gX2_goesOn_X2_goTo : GoodIn wsX2_goesOn (wsV RX2 89 RX2 yX2_goTo wsX2_goTo) := goodIn_app (goodIn_of _ (by decide +kernel)) ggX2_goesOn_X2_goTo
set_option maxRecDepth 20000 in
theorem ggX2_goesOn_X2_leaveTo : GoodIn wsX2_goesOn wsX2_leaveTo := goodIn_r _ [40, 1, 19, 21, 26, 27, 28, 4, 29, 30, 31, 41, 42, 43, 44, 45, 46, 47, 48, 49, 50, 51, 52, 53, 54, 55, 56, 57, 58, 59, 60] (by decide +kernel) (by decide +kernel)
set_option maxRecDepth 20000 in
theorem gX2_goesOn_X2_leaveTo : GoodIn wsX2_goesOn (wsV RX2 92 RX2 yX2_leaveTo wsX2_leaveTo) := goodIn_app (goodIn_of _ (by decide +kernel)) ggX2_goesOn_X2_leaveTo
theorem dX2_goesOn_0 : decode cX2_goesOn 0 = .ok (.aload_n 0, 1) := by decide +kernel
theorem dX2_goesOn_1 : decode cX2_goesOn 1 = .ok (.getfield 68, 3) := by decide +kernel
theorem dX2_goesOn_4 : decode cX2_goesOn 4 = .ok (.istore_n 2, 1) := by decide +kernel
theorem dX2_goesOn_5 : decode cX2_goesOn 5 = .ok (.iconst 1, 1) := by decide +kernel
theorem dX2_goesOn_6 : decode cX2_goesOn 6 = .ok (.istore_n 3, 1) := by decide +kernel
theorem dX2_goesOn_7 : decode cX2_goesOn 7 = .ok (.iload_n 1, 1) := by decide +kernel
theorem dX2_goesOn_8 : decode cX2_goesOn 8 = .ok (.istore 4, 2) := by decide +kernel
theorem dX2_goesOn_10 : decode cX2_goesOn 10 = .ok (.iconst 1, 1) := by decide +kernel
theorem dX2_goesOn_11 : decode cX2_goesOn 11 = .ok (.istore 5, 2) := by decide +kernel
theorem dX2_goesOn_13 : decode cX2_goesOn 13 = .ok (.iload 5, 2) := by decide +kernel
theorem dX2_goesOn_15 : decode cX2_goesOn 15 = .ok (.ifCond .eq 54, 3) := by decide +kernel
theorem dX2_goesOn_18 : decode cX2_goesOn 18 = .ok (.iload_n 3, 1) := by decide +kernel
theorem dX2_goesOn_19 : decode cX2_goesOn 19 = .ok (.iconst 3, 1) := by decide +kernel
theorem dX2_goesOn_20 : decode cX2_goesOn 20 = .ok (.if_icmp .ne 5, 3) := by decide +kernel
theorem dX2_goesOn_23 : decode cX2_goesOn 23 = .ok (.iconst 2, 1) := by decide +kernel
theorem dX2_goesOn_24 : decode cX2_goesOn 24 = .ok (.ireturn, 1) := by decide +kernel
theorem dX2_goesOn_25 : decode cX2_goesOn 25 = .ok (.aload_n 0, 1) := by decide +kernel
theorem dX2_goesOn_26 : decode cX2_goesOn 26 = .ok (.iload 4, 2) := by decide +kernel
theorem dX2_goesOn_28 : decode cX2_goesOn 28 = .ok (.invokestatic 86, 3) := by decide +kernel
theorem dX2_goesOn_31 : decode cX2_goesOn 31 = .ok (.invokevirtual 89, 3) := by decide +kernel
theorem dX2_goesOn_34 : decode cX2_goesOn 34 = .ok (.istore 6, 2) := by decide +kernel
theorem dX2_goesOn_36 : decode cX2_goesOn 36 = .ok (.iload 6, 2) := by decide +kernel
theorem dX2_goesOn_38 : decode cX2_goesOn 38 = .ok (.ifCond .eq 6, 3) := by decide +kernel
theorem dX2_goesOn_41 : decode cX2_goesOn 41 = .ok (.iload 6, 2) := by decide +kernel
theorem dX2_goesOn_43 : decode cX2_goesOn 43 = .ok (.ireturn, 1) := by decide +kernel
theorem dX2_goesOn_44 : decode cX2_goesOn 44 = .ok (.iinc 3 1, 3) := by decide +kernel
theorem dX2_goesOn_47 : decode cX2_goesOn 47 = .ok (.iload 4, 2) := by decide +kernel
theorem dX2_goesOn_49 : decode cX2_goesOn 49 = .ok (.bipush 10, 2) := by decide +kernel
theorem dX2_goesOn_51 : decode cX2_goesOn 51 = .ok (.idiv, 1) := by decide +kernel
theorem dX2_goesOn_52 : decode cX2_goesOn 52 = .ok (.istore 4, 2) := by decide +kernel
theorem dX2_goesOn_54 : decode cX2_goesOn 54 = .ok (.iload 4, 2) := by decide +kernel
theorem dX2_goesOn_56 : decode cX2_goesOn 56 = .ok (.ifCond .eq 7, 3) := by decide +kernel
theorem dX2_goesOn_59 : decode cX2_goesOn 59 = .ok (.iconst 1, 1) := by decide +kernel
theorem dX2_goesOn_60 : decode cX2_goesOn 60 = .ok (.goto 4, 3) := by decide +kernel
theorem dX2_goesOn_63 : decode cX2_goesOn 63 = .ok (.iconst 0, 1) := by decide +kernel
theorem dX2_goesOn_64 : decode cX2_goesOn 64 = .ok (.istore 5, 2) := by decide +kernel
theorem dX2_goesOn_66 : decode cX2_goesOn 66 = .ok (.goto (-53), 3) := by decide +kernel
theorem dX2_goesOn_69 : decode cX2_goesOn 69 = .ok (.aload_n 0, 1) := by decide +kernel
theorem dX2_goesOn_70 : decode cX2_goesOn 70 = .ok (.iload_n 2, 1) := by decide +kernel
theorem dX2_goesOn_71 : decode cX2_goesOn 71 = .ok (.invokevirtual 92, 3) := by decide +kernel
theorem dX2_goesOn_74 : decode cX2_goesOn 74 = .ok (.iconst 0, 1) := by decide +kernel
theorem dX2_goesOn_75 : decode cX2_goesOn 75 = .ok (.ireturn, 1) := by decide +kernel
set_option maxRecDepth 20000 in
theorem ggX2_does_X2_rich : GoodIn wsX2_does wsX2_rich := goodIn_r _ [9, 10, 11, 51, 52, 53, 54, 55, 56, 57, 58, 59, 60, 61, 62, 63, 64, 65, 66, 67, 68, 69, 70] (by decide +kernel) (by decide +kernel)
set_option maxRecDepth 20000 in
theorem gX2_does_X2_rich : GoodIn wsX2_does (wsV RX2 95 RX2 yX2_rich wsX2_rich) := goodIn_app (goodIn_of _ (by decide +kernel)) ggX2_does_X2_rich
set_option maxRecDepth 20000 in
theorem ggX2_does_X2_ten : GoodIn wsX2_does wsX2_ten := goodIn_r _ [14] (by decide +kernel) (by decide +kernel)
set_option maxRecDepth 20000 in
theorem gX2_does_X2_ten : GoodIn wsX2_does (va_wsS RX2 86 yX2_ten wsX2_ten) := goodIn_app (goodIn_of _ (by decide +kernel)) ggX2_does_X2_ten
set_option maxRecDepth 20000 in
theorem ggX2_does_X2_goesOn : GoodIn wsX2_does wsX2_goesOn := goodIn_r _ [18, 2, 12, 13, 8, 14, 19, 20, 21, 22, 23, 24, 25, 4, 26, 27, 28, 29, 30, 31, 32, 1, 33, 34, 10, 35, 36, 37, 38, 39, 40, 41, 42, 43, 44, 45, 46, 47, 48, 49, 50, 51, 52, 53, 54, 55, 56, 57, 58, 59, 60, 61, 62, 63, 64, 65, 66, 67, 68, 69, 70] (by decide +kernel) (by decide +kernel)
set_option maxRecDepth 20000 in
theorem gX2_does_X2_goesOn : GoodIn wsX2_does (wsV RX2 99 RX2 yX2_goesOn wsX2_goesOn) := goodIn_app (goodIn_of _ (by decide +kernel)) ggX2_does_X2_goesOn
theorem dX2_does_0 : decode cX2_does 0 = .ok (.aload_n 0, 1) := by decide +kernel
theorem dX2_does_1 : decode cX2_does 1 = .ok (.getfield 43, 3) := by decide +kernel
theorem dX2_does_4 : decode cX2_does 4 = .ok (.aload_n 0, 1) := by decide +kernel
theorem dX2_does_5 : decode cX2_does 5 = .ok (.getfield 68, 3) := by decide +kernel
theorem dX2_does_8 : decode cX2_does 8 = .ok (.iconst 1, 1) := by decide +kernel
theorem dX2_does_9 : decode cX2_does 9 = .ok (.isub, 1) := by decide +kernel
theorem dX2_does_10 : decode cX2_does 10 = .ok (.iaload, 1) := by decide +kernel
theorem dX2_does_11 : decode cX2_does 11 = .ok (.istore_n 3, 1) := by decide +kernel
theorem dX2_does_12 : decode cX2_does 12 = .ok (.iload_n 1, 1) := by decide +kernel
theorem dX2_does_13 : decode cX2_does 13 = .ok (.tableswitch 143 1 7 #[43, 59, 85, 108, 120, 126, 133], 43) := by decide +kernel
theorem dX2_does_56 : decode cX2_does 56 = .ok (.aload_n 0, 1) := by decide +kernel
theorem dX2_does_57 : decode cX2_does 57 = .ok (.getfield 16, 3) := by decide +kernel
theorem dX2_does_60 : decode cX2_does 60 = .ok (.iload_n 3, 1) := by decide +kernel
theorem dX2_does_61 : decode cX2_does 61 = .ok (.aload_n 0, 1) := by decide +kernel
theorem dX2_does_62 : decode cX2_does 62 = .ok (.getfield 16, 3) := by decide +kernel
theorem dX2_does_65 : decode cX2_does 65 = .ok (.iload_n 3, 1) := by decide +kernel
theorem dX2_does_66 : decode cX2_does 66 = .ok (.iaload, 1) := by decide +kernel
theorem dX2_does_67 : decode cX2_does 67 = .ok (.iload_n 2, 1) := by decide +kernel
theorem dX2_does_68 : decode cX2_does 68 = .ok (.iadd, 1) := by decide +kernel
theorem dX2_does_69 : decode cX2_does 69 = .ok (.iastore, 1) := by decide +kernel
theorem dX2_does_70 : decode cX2_does 70 = .ok (.iconst 0, 1) := by decide +kernel
theorem dX2_does_71 : decode cX2_does 71 = .ok (.ireturn, 1) := by decide +kernel
theorem dX2_does_72 : decode cX2_does 72 = .ok (.aload_n 0, 1) := by decide +kernel
theorem dX2_does_73 : decode cX2_does 73 = .ok (.aload_n 0, 1) := by decide +kernel
theorem dX2_does_74 : decode cX2_does 74 = .ok (.getfield 16, 3) := by decide +kernel
theorem dX2_does_77 : decode cX2_does 77 = .ok (.iload_n 3, 1) := by decide +kernel
theorem dX2_does_78 : decode cX2_does 78 = .ok (.iaload, 1) := by decide +kernel
theorem dX2_does_79 : decode cX2_does 79 = .ok (.i2l, 1) := by decide +kernel
theorem dX2_does_80 : decode cX2_does 80 = .ok (.invokevirtual 95, 3) := by decide +kernel
theorem dX2_does_83 : decode cX2_does 83 = .ok (.ifCond .eq 6, 3) := by decide +kernel
theorem dX2_does_86 : decode cX2_does 86 = .ok (.bipush 22, 2) := by decide +kernel
theorem dX2_does_88 : decode cX2_does 88 = .ok (.ireturn, 1) := by decide +kernel
theorem dX2_does_89 : decode cX2_does 89 = .ok (.aload_n 0, 1) := by decide +kernel
theorem dX2_does_90 : decode cX2_does 90 = .ok (.getfield 16, 3) := by decide +kernel
theorem dX2_does_93 : decode cX2_does 93 = .ok (.iload_n 3, 1) := by decide +kernel
theorem dX2_does_94 : decode cX2_does 94 = .ok (.iconst 0, 1) := by decide +kernel
theorem dX2_does_95 : decode cX2_does 95 = .ok (.iastore, 1) := by decide +kernel
theorem dX2_does_96 : decode cX2_does 96 = .ok (.iconst 0, 1) := by decide +kernel
theorem dX2_does_97 : decode cX2_does 97 = .ok (.ireturn, 1) := by decide +kernel
theorem dX2_does_98 : decode cX2_does 98 = .ok (.iload_n 2, 1) := by decide +kernel
theorem dX2_does_99 : decode cX2_does 99 = .ok (.ifCond .ne 6, 3) := by decide +kernel
theorem dX2_does_102 : decode cX2_does 102 = .ok (.bipush 6, 2) := by decide +kernel
theorem dX2_does_104 : decode cX2_does 104 = .ok (.ireturn, 1) := by decide +kernel
theorem dX2_does_105 : decode cX2_does 105 = .ok (.aload_n 0, 1) := by decide +kernel
theorem dX2_does_106 : decode cX2_does 106 = .ok (.getfield 16, 3) := by decide +kernel
theorem dX2_does_109 : decode cX2_does 109 = .ok (.iload_n 3, 1) := by decide +kernel
theorem dX2_does_110 : decode cX2_does 110 = .ok (.aload_n 0, 1) := by decide +kernel
theorem dX2_does_111 : decode cX2_does 111 = .ok (.getfield 16, 3) := by decide +kernel
theorem dX2_does_114 : decode cX2_does 114 = .ok (.iload_n 3, 1) := by decide +kernel
theorem dX2_does_115 : decode cX2_does 115 = .ok (.iaload, 1) := by decide +kernel
theorem dX2_does_116 : decode cX2_does 116 = .ok (.iload_n 2, 1) := by decide +kernel
theorem dX2_does_117 : decode cX2_does 117 = .ok (.idiv, 1) := by decide +kernel
theorem dX2_does_118 : decode cX2_does 118 = .ok (.iastore, 1) := by decide +kernel
theorem dX2_does_119 : decode cX2_does 119 = .ok (.iconst 0, 1) := by decide +kernel
theorem dX2_does_120 : decode cX2_does 120 = .ok (.ireturn, 1) := by decide +kernel
theorem dX2_does_121 : decode cX2_does 121 = .ok (.aload_n 0, 1) := by decide +kernel
theorem dX2_does_122 : decode cX2_does 122 = .ok (.getfield 34, 3) := by decide +kernel
theorem dX2_does_125 : decode cX2_does 125 = .ok (.iload_n 2, 1) := by decide +kernel
theorem dX2_does_126 : decode cX2_does 126 = .ok (.invokestatic 86, 3) := by decide +kernel
theorem dX2_does_129 : decode cX2_does 129 = .ok (.iconst (-1), 1) := by decide +kernel
theorem dX2_does_130 : decode cX2_does 130 = .ok (.iastore, 1) := by decide +kernel
theorem dX2_does_131 : decode cX2_does 131 = .ok (.iconst 0, 1) := by decide +kernel
theorem dX2_does_132 : decode cX2_does 132 = .ok (.ireturn, 1) := by decide +kernel
theorem dX2_does_133 : decode cX2_does 133 = .ok (.aload_n 0, 1) := by decide +kernel
theorem dX2_does_134 : decode cX2_does 134 = .ok (.iload_n 2, 1) := by decide +kernel
theorem dX2_does_135 : decode cX2_does 135 = .ok (.invokevirtual 99, 3) := by decide +kernel
theorem dX2_does_138 : decode cX2_does 138 = .ok (.ireturn, 1) := by decide +kernel
theorem dX2_does_139 : decode cX2_does 139 = .ok (.bipush 20, 2) := by decide +kernel
theorem dX2_does_141 : decode cX2_does 141 = .ok (.iload_n 2, 1) := by decide +kernel
theorem dX2_does_142 : decode cX2_does 142 = .ok (.iconst 3, 1) := by decide +kernel
theorem dX2_does_143 : decode cX2_does 143 = .ok (.iand, 1) := by decide +kernel
theorem dX2_does_144 : decode cX2_does 144 = .ok (.iadd, 1) := by decide +kernel
theorem dX2_does_145 : decode cX2_does 145 = .ok (.ireturn, 1) := by decide +kernel
theorem dX2_does_146 : decode cX2_does 146 = .ok (.aload_n 0, 1) := by decide +kernel
theorem dX2_does_147 : decode cX2_does 147 = .ok (.aload_n 0, 1) := by decide +kernel
theorem dX2_does_148 : decode cX2_does 148 = .ok (.getfield 68, 3) := by decide +kernel
theorem dX2_does_151 : decode cX2_does 151 = .ok (.i2l, 1) := by decide +kernel
theorem dX2_does_152 : decode cX2_does 152 = .ok (.invokevirtual 95, 3) := by decide +kernel
theorem dX2_does_155 : decode cX2_does 155 = .ok (.ireturn, 1) := by decide +kernel
theorem dX2_does_156 : decode cX2_does 156 = .ok (.iconst 0, 1) := by decide +kernel
theorem dX2_does_157 : decode cX2_does 157 = .ok (.ireturn, 1) := by decide +kernel
set_option maxRecDepth 20000 in
theorem ggX2_walk_X2_in : GoodIn wsX2_walk wsX2_in := goodIn_r _ [8] (by decide +kernel) (by decide +kernel)
set_option maxRecDepth 20000 in
theorem gX2_walk_X2_in : GoodIn wsX2_walk (va_wsS RX2 49 yX2_in wsX2_in) := goodIn_app (goodIn_of _ (by decide +kernel)) ggX2_walk_X2_in
set_option maxRecDepth 20000 in
theorem ggX2_walk_X2_goTo : GoodIn wsX2_walk wsX2_goTo := goodIn_r _ [12, 13, 14, 15, 16, 17, 18, 19, 7, 20, 21, 22, 23, 24, 3, 2, 25, 26, 27, 28, 29, 30, 31, 1, 32, 33, 34, 35, 36, 37, 59, 60, 61, 62, 63, 64, 65, 66, 67, 68, 69, 70, 71, 72, 73, 74, 75, 76, 77, 78] (by decide +kernel) (by decide +kernel)
set_option maxRecDepth 20000 in
theorem gX2_walk_X2_goTo : GoodIn wsX2_walk (wsV RX2 89 RX2 yX2_goTo wsX2_goTo) := goodIn_app (goodIn_of _ (by decide +kernel)) ggX2_walk_X2_goTo
set_option maxRecDepth 20000 in
theorem ggX2_walk_X2_does : GoodIn wsX2_walk wsX2_does := goodIn_r _ [41, 24, 3, 42, 16, 43, 44, 45, 7, 46, 26, 47, 48, 49, 50, 51, 52, 53, 54, 9, 10, 11, 12, 13, 14, 15, 17, 18, 19, 20, 21, 22, 23, 2, 25, 27, 28, 29, 30, 31, 1, 32, 33, 34, 35, 36, 37, 55, 56, 57, 58, 59, 60, 61, 62, 63, 64, 65, 66, 67, 68, 69, 70, 71, 72, 73, 74, 75, 76, 77, 78] (by decide +kernel) (by decide +kernel)
set_option maxRecDepth 20000 in
theorem gX2_walk_X2_does : GoodIn wsX2_walk (wsV RX2 105 RX2 yX2_does wsX2_does) := goodIn_app (goodIn_of _ (by decide +kernel)) ggX2_walk_X2_does
set_option maxRecDepth 20000 in
theorem ggX2_walk_X2_leaveTo : GoodIn wsX2_walk wsX2_leaveTo := goodIn_r _ [58, 3, 22, 24, 28, 29, 30, 7, 31, 1, 32, 59, 60, 61, 62, 63, 64, 65, 66, 67, 68, 69, 70, 71, 72, 73, 74, 75, 76, 77, 78] (by decide +kernel) (by decide +kernel)
set_option maxRecDepth 20000 in
theorem gX2_walk_X2_leaveTo : GoodIn wsX2_walk (wsV RX2 92 RX2 yX2_leaveTo wsX2_leaveTo) := goodIn_app (goodIn_of _ (by decide +kernel)) ggX2_walk_X2_leaveTo
theorem dX2_walk_0 : decode cX2_walk 0 = .ok (.iload_n 1, 1) := by decide +kernel
theorem dX2_walk_1 : decode cX2_walk 1 = .ok (.iconst 0, 1) := by decide +kernel
theorem dX2_walk_2 : decode cX2_walk 2 = .ok (.bipush 9, 2) := by decide +kernel
theorem dX2_walk_4 : decode cX2_walk 4 = .ok (.invokestatic 49, 3) := by decide +kernel
theorem dX2_walk_7 : decode cX2_walk 7 = .ok (.ifCond .eq 13, 3) := by decide +kernel
theorem dX2_walk_10 : decode cX2_walk 10 = .ok (.iload_n 2, 1) := by decide +kernel
theorem dX2_walk_11 : decode cX2_walk 11 = .ok (.iconst 0, 1) := by decide +kernel
theorem dX2_walk_12 : decode cX2_walk 12 = .ok (.bipush 7, 2) := by decide +kernel
theorem dX2_walk_14 : decode cX2_walk 14 = .ok (.invokestatic 49, 3) := by decide +kernel
theorem dX2_walk_17 : decode cX2_walk 17 = .ok (.ifCond .ne 5, 3) := by decide +kernel
theorem dX2_walk_20 : decode cX2_walk 20 = .ok (.iconst (-1), 1) := by decide +kernel
theorem dX2_walk_21 : decode cX2_walk 21 = .ok (.ireturn, 1) := by decide +kernel
theorem dX2_walk_22 : decode cX2_walk 22 = .ok (.aload_n 0, 1) := by decide +kernel
theorem dX2_walk_23 : decode cX2_walk 23 = .ok (.iconst 0, 1) := by decide +kernel
theorem dX2_walk_24 : decode cX2_walk 24 = .ok (.putfield 61, 3) := by decide +kernel
theorem dX2_walk_27 : decode cX2_walk 27 = .ok (.aload_n 0, 1) := by decide +kernel
theorem dX2_walk_28 : decode cX2_walk 28 = .ok (.iconst 0, 1) := by decide +kernel
theorem dX2_walk_29 : decode cX2_walk 29 = .ok (.putfield 71, 3) := by decide +kernel
theorem dX2_walk_32 : decode cX2_walk 32 = .ok (.aload_n 0, 1) := by decide +kernel
theorem dX2_walk_33 : decode cX2_walk 33 = .ok (.iconst 0, 1) := by decide +kernel
theorem dX2_walk_34 : decode cX2_walk 34 = .ok (.putfield 68, 3) := by decide +kernel
theorem dX2_walk_37 : decode cX2_walk 37 = .ok (.aload_n 0, 1) := by decide +kernel
theorem dX2_walk_38 : decode cX2_walk 38 = .ok (.aload_n 0, 1) := by decide +kernel
theorem dX2_walk_39 : decode cX2_walk 39 = .ok (.iload_n 1, 1) := by decide +kernel
theorem dX2_walk_40 : decode cX2_walk 40 = .ok (.invokevirtual 89, 3) := by decide +kernel
theorem dX2_walk_43 : decode cX2_walk 43 = .ok (.putfield 102, 3) := by decide +kernel
theorem dX2_walk_46 : decode cX2_walk 46 = .ok (.aload_n 0, 1) := by decide +kernel
theorem dX2_walk_47 : decode cX2_walk 47 = .ok (.getfield 102, 3) := by decide +kernel
theorem dX2_walk_50 : decode cX2_walk 50 = .ok (.ifCond .ne 13, 3) := by decide +kernel
theorem dX2_walk_53 : decode cX2_walk 53 = .ok (.aload_n 0, 1) := by decide +kernel
theorem dX2_walk_54 : decode cX2_walk 54 = .ok (.aload_n 0, 1) := by decide +kernel
theorem dX2_walk_55 : decode cX2_walk 55 = .ok (.iload_n 2, 1) := by decide +kernel
theorem dX2_walk_56 : decode cX2_walk 56 = .ok (.iload_n 3, 1) := by decide +kernel
theorem dX2_walk_57 : decode cX2_walk 57 = .ok (.invokevirtual 105, 3) := by decide +kernel
theorem dX2_walk_60 : decode cX2_walk 60 = .ok (.putfield 102, 3) := by decide +kernel
theorem dX2_walk_63 : decode cX2_walk 63 = .ok (.aload_n 0, 1) := by decide +kernel
theorem dX2_walk_64 : decode cX2_walk 64 = .ok (.iconst 0, 1) := by decide +kernel
theorem dX2_walk_65 : decode cX2_walk 65 = .ok (.invokevirtual 92, 3) := by decide +kernel
theorem dX2_walk_68 : decode cX2_walk 68 = .ok (.aload_n 0, 1) := by decide +kernel
theorem dX2_walk_69 : decode cX2_walk 69 = .ok (.getfield 102, 3) := by decide +kernel
theorem dX2_walk_72 : decode cX2_walk 72 = .ok (.ifCond .ne 7, 3) := by decide +kernel
theorem dX2_walk_75 : decode cX2_walk 75 = .ok (.iconst 1, 1) := by decide +kernel
theorem dX2_walk_76 : decode cX2_walk 76 = .ok (.goto 10, 3) := by decide +kernel
theorem dX2_walk_79 : decode cX2_walk 79 = .ok (.bipush (-10), 2) := by decide +kernel
theorem dX2_walk_81 : decode cX2_walk 81 = .ok (.aload_n 0, 1) := by decide +kernel
theorem dX2_walk_82 : decode cX2_walk 82 = .ok (.getfield 102, 3) := by decide +kernel
theorem dX2_walk_85 : decode cX2_walk 85 = .ok (.isub, 1) := by decide +kernel
theorem dX2_walk_86 : decode cX2_walk 86 = .ok (.ireturn, 1) := by decide +kernel
theorem dX2_seek_0 : decode cX2_seek 0 = .ok (.iconst 0, 1) := by decide +kernel
theorem dX2_seek_1 : decode cX2_seek 1 = .ok (.istore_n 3, 1) := by decide +kernel
theorem dX2_seek_2 : decode cX2_seek 2 = .ok (.iload_n 3, 1) := by decide +kernel
theorem dX2_seek_3 : decode cX2_seek 3 = .ok (.bipush 10, 2) := by decide +kernel
theorem dX2_seek_5 : decode cX2_seek 5 = .ok (.if_icmp .ge 139, 3) := by decide +kernel
theorem dX2_seek_8 : decode cX2_seek 8 = .ok (.aload_n 0, 1) := by decide +kernel
theorem dX2_seek_9 : decode cX2_seek 9 = .ok (.getfield 34, 3) := by decide +kernel
theorem dX2_seek_12 : decode cX2_seek 12 = .ok (.iload_n 3, 1) := by decide +kernel
theorem dX2_seek_13 : decode cX2_seek 13 = .ok (.iaload, 1) := by decide +kernel
theorem dX2_seek_14 : decode cX2_seek 14 = .ok (.istore 4, 2) := by decide +kernel
theorem dX2_seek_16 : decode cX2_seek 16 = .ok (.iload 4, 2) := by decide +kernel
theorem dX2_seek_18 : decode cX2_seek 18 = .ok (.iconst (-1), 1) := by decide +kernel
theorem dX2_seek_19 : decode cX2_seek 19 = .ok (.if_icmp .ne 6, 3) := by decide +kernel
theorem dX2_seek_22 : decode cX2_seek 22 = .ok (.goto 116, 3) := by decide +kernel
theorem dX2_seek_25 : decode cX2_seek 25 = .ok (.aload_n 0, 1) := by decide +kernel
theorem dX2_seek_26 : decode cX2_seek 26 = .ok (.getfield 22, 3) := by decide +kernel
theorem dX2_seek_29 : decode cX2_seek 29 = .ok (.iload 4, 2) := by decide +kernel
theorem dX2_seek_31 : decode cX2_seek 31 = .ok (.dup2, 1) := by decide +kernel
theorem dX2_seek_32 : decode cX2_seek 32 = .ok (.iaload, 1) := by decide +kernel
theorem dX2_seek_33 : decode cX2_seek 33 = .ok (.iconst 1, 1) := by decide +kernel
theorem dX2_seek_34 : decode cX2_seek 34 = .ok (.iadd, 1) := by decide +kernel
theorem dX2_seek_35 : decode cX2_seek 35 = .ok (.iastore, 1) := by decide +kernel
theorem dX2_seek_36 : decode cX2_seek 36 = .ok (.iconst 1, 1) := by decide +kernel
theorem dX2_seek_37 : decode cX2_seek 37 = .ok (.istore 5, 2) := by decide +kernel
theorem dX2_seek_39 : decode cX2_seek 39 = .ok (.iload_n 3, 1) := by decide +kernel
theorem dX2_seek_40 : decode cX2_seek 40 = .ok (.iconst 1, 1) := by decide +kernel
theorem dX2_seek_41 : decode cX2_seek 41 = .ok (.iadd, 1) := by decide +kernel
theorem dX2_seek_42 : decode cX2_seek 42 = .ok (.istore 6, 2) := by decide +kernel
theorem dX2_seek_44 : decode cX2_seek 44 = .ok (.iload 6, 2) := by decide +kernel
theorem dX2_seek_46 : decode cX2_seek 46 = .ok (.bipush 10, 2) := by decide +kernel
theorem dX2_seek_48 : decode cX2_seek 48 = .ok (.if_icmp .ge 90, 3) := by decide +kernel
theorem dX2_seek_51 : decode cX2_seek 51 = .ok (.iload 5, 2) := by decide +kernel
theorem dX2_seek_53 : decode cX2_seek 53 = .ok (.ifCond .eq 85, 3) := by decide +kernel
theorem dX2_seek_56 : decode cX2_seek 56 = .ok (.aload_n 0, 1) := by decide +kernel
theorem dX2_seek_57 : decode cX2_seek 57 = .ok (.getfield 34, 3) := by decide +kernel
theorem dX2_seek_60 : decode cX2_seek 60 = .ok (.iload 6, 2) := by decide +kernel
theorem dX2_seek_62 : decode cX2_seek 62 = .ok (.iaload, 1) := by decide +kernel
theorem dX2_seek_63 : decode cX2_seek 63 = .ok (.istore 7, 2) := by decide +kernel
theorem dX2_seek_65 : decode cX2_seek 65 = .ok (.iload 7, 2) := by decide +kernel
theorem dX2_seek_67 : decode cX2_seek 67 = .ok (.iconst (-1), 1) := by decide +kernel
theorem dX2_seek_68 : decode cX2_seek 68 = .ok (.if_icmp .ne 6, 3) := by decide +kernel
theorem dX2_seek_71 : decode cX2_seek 71 = .ok (.goto 61, 3) := by decide +kernel
theorem dX2_seek_74 : decode cX2_seek 74 = .ok (.aload_n 0, 1) := by decide +kernel
theorem dX2_seek_75 : decode cX2_seek 75 = .ok (.getfield 22, 3) := by decide +kernel
theorem dX2_seek_78 : decode cX2_seek 78 = .ok (.iload 7, 2) := by decide +kernel
theorem dX2_seek_80 : decode cX2_seek 80 = .ok (.dup2, 1) := by decide +kernel
theorem dX2_seek_81 : decode cX2_seek 81 = .ok (.iaload, 1) := by decide +kernel
theorem dX2_seek_82 : decode cX2_seek 82 = .ok (.iconst 1, 1) := by decide +kernel
theorem dX2_seek_83 : decode cX2_seek 83 = .ok (.iadd, 1) := by decide +kernel
theorem dX2_seek_84 : decode cX2_seek 84 = .ok (.iastore, 1) := by decide +kernel
theorem dX2_seek_85 : decode cX2_seek 85 = .ok (.aload_n 0, 1) := by decide +kernel
theorem dX2_seek_86 : decode cX2_seek 86 = .ok (.getfield 16, 3) := by decide +kernel
theorem dX2_seek_89 : decode cX2_seek 89 = .ok (.iload 4, 2) := by decide +kernel
theorem dX2_seek_91 : decode cX2_seek 91 = .ok (.iaload, 1) := by decide +kernel
theorem dX2_seek_92 : decode cX2_seek 92 = .ok (.i2l, 1) := by decide +kernel
theorem dX2_seek_93 : decode cX2_seek 93 = .ok (.aload_n 0, 1) := by decide +kernel
theorem dX2_seek_94 : decode cX2_seek 94 = .ok (.getfield 16, 3) := by decide +kernel
theorem dX2_seek_97 : decode cX2_seek 97 = .ok (.iload 7, 2) := by decide +kernel
theorem dX2_seek_99 : decode cX2_seek 99 = .ok (.iaload, 1) := by decide +kernel
theorem dX2_seek_100 : decode cX2_seek 100 = .ok (.i2l, 1) := by decide +kernel
theorem dX2_seek_101 : decode cX2_seek 101 = .ok (.ladd, 1) := by decide +kernel
theorem dX2_seek_102 : decode cX2_seek 102 = .ok (.lload_n 1, 1) := by decide +kernel
theorem dX2_seek_103 : decode cX2_seek 103 = .ok (.lcmp, 1) := by decide +kernel
theorem dX2_seek_104 : decode cX2_seek 104 = .ok (.ifCond .ne 11, 3) := by decide +kernel
theorem dX2_seek_107 : decode cX2_seek 107 = .ok (.bipush 10, 2) := by decide +kernel
theorem dX2_seek_109 : decode cX2_seek 109 = .ok (.iload_n 3, 1) := by decide +kernel
theorem dX2_seek_110 : decode cX2_seek 110 = .ok (.imul, 1) := by decide +kernel
theorem dX2_seek_111 : decode cX2_seek 111 = .ok (.iload 6, 2) := by decide +kernel
theorem dX2_seek_113 : decode cX2_seek 113 = .ok (.iadd, 1) := by decide +kernel
theorem dX2_seek_114 : decode cX2_seek 114 = .ok (.ireturn, 1) := by decide +kernel
theorem dX2_seek_115 : decode cX2_seek 115 = .ok (.aload_n 0, 1) := by decide +kernel
theorem dX2_seek_116 : decode cX2_seek 116 = .ok (.getfield 16, 3) := by decide +kernel
theorem dX2_seek_119 : decode cX2_seek 119 = .ok (.iload 7, 2) := by decide +kernel
theorem dX2_seek_121 : decode cX2_seek 121 = .ok (.iaload, 1) := by decide +kernel
theorem dX2_seek_122 : decode cX2_seek 122 = .ok (.ifCond .lt 7, 3) := by decide +kernel
theorem dX2_seek_125 : decode cX2_seek 125 = .ok (.iconst 1, 1) := by decide +kernel
theorem dX2_seek_126 : decode cX2_seek 126 = .ok (.goto 4, 3) := by decide +kernel
theorem dX2_seek_129 : decode cX2_seek 129 = .ok (.iconst 0, 1) := by decide +kernel
theorem dX2_seek_130 : decode cX2_seek 130 = .ok (.istore 5, 2) := by decide +kernel
theorem dX2_seek_132 : decode cX2_seek 132 = .ok (.iinc 6 1, 3) := by decide +kernel
theorem dX2_seek_135 : decode cX2_seek 135 = .ok (.goto (-91), 3) := by decide +kernel
theorem dX2_seek_138 : decode cX2_seek 138 = .ok (.iinc 3 1, 3) := by decide +kernel
theorem dX2_seek_141 : decode cX2_seek 141 = .ok (.goto (-139), 3) := by decide +kernel
theorem dX2_seek_144 : decode cX2_seek 144 = .ok (.iconst (-1), 1) := by decide +kernel
theorem dX2_seek_145 : decode cX2_seek 145 = .ok (.ireturn, 1) := by decide +kernel
set_option maxRecDepth 20000 in
theorem ggX2_told_X2_in : GoodIn wsX2_told wsX2_in := goodIn_r _ [12] (by decide +kernel) (by decide +kernel)
set_option maxRecDepth 20000 in
theorem gX2_told_X2_in : GoodIn wsX2_told (va_wsS RX2 49 yX2_in wsX2_in) := goodIn_app (goodIn_of _ (by decide +kernel)) ggX2_told_X2_in
theorem dX2_told_0 : decode cX2_told 0 = .ok (.iload_n 1, 1) := by decide +kernel
theorem dX2_told_1 : decode cX2_told 1 = .ok (.iconst 0, 1) := by decide +kernel
theorem dX2_told_2 : decode cX2_told 2 = .ok (.bipush 9, 2) := by decide +kernel
theorem dX2_told_4 : decode cX2_told 4 = .ok (.invokestatic 49, 3) := by decide +kernel
theorem dX2_told_7 : decode cX2_told 7 = .ok (.ifCond .eq 23, 3) := by decide +kernel
theorem dX2_told_10 : decode cX2_told 10 = .ok (.aload_n 0, 1) := by decide +kernel
theorem dX2_told_11 : decode cX2_told 11 = .ok (.getfield 34, 3) := by decide +kernel
theorem dX2_told_14 : decode cX2_told 14 = .ok (.iload_n 1, 1) := by decide +kernel
theorem dX2_told_15 : decode cX2_told 15 = .ok (.iaload, 1) := by decide +kernel
theorem dX2_told_16 : decode cX2_told 16 = .ok (.iconst (-1), 1) := by decide +kernel
theorem dX2_told_17 : decode cX2_told 17 = .ok (.if_icmp .eq 13, 3) := by decide +kernel
theorem dX2_told_20 : decode cX2_told 20 = .ok (.iload_n 2, 1) := by decide +kernel
theorem dX2_told_21 : decode cX2_told 21 = .ok (.iconst 0, 1) := by decide +kernel
theorem dX2_told_22 : decode cX2_told 22 = .ok (.bipush 7, 2) := by decide +kernel
theorem dX2_told_24 : decode cX2_told 24 = .ok (.invokestatic 49, 3) := by decide +kernel
theorem dX2_told_27 : decode cX2_told 27 = .ok (.ifCond .ne 5, 3) := by decide +kernel
theorem dX2_told_30 : decode cX2_told 30 = .ok (.iconst (-1), 1) := by decide +kernel
theorem dX2_told_31 : decode cX2_told 31 = .ok (.ireturn, 1) := by decide +kernel
theorem dX2_told_32 : decode cX2_told 32 = .ok (.aload_n 0, 1) := by decide +kernel
theorem dX2_told_33 : decode cX2_told 33 = .ok (.getfield 34, 3) := by decide +kernel
theorem dX2_told_36 : decode cX2_told 36 = .ok (.iload_n 1, 1) := by decide +kernel
theorem dX2_told_37 : decode cX2_told 37 = .ok (.iaload, 1) := by decide +kernel
theorem dX2_told_38 : decode cX2_told 38 = .ok (.istore_n 3, 1) := by decide +kernel
theorem dX2_told_39 : decode cX2_told 39 = .ok (.iload_n 2, 1) := by decide +kernel
theorem dX2_told_40 : decode cX2_told 40 = .ok (.tableswitch 88 0 6 #[44, 46, 53, 60, 67, 74, 81], 44) := by decide +kernel
theorem dX2_told_84 : decode cX2_told 84 = .ok (.iload_n 3, 1) := by decide +kernel
theorem dX2_told_85 : decode cX2_told 85 = .ok (.ireturn, 1) := by decide +kernel
theorem dX2_told_86 : decode cX2_told 86 = .ok (.aload_n 0, 1) := by decide +kernel
theorem dX2_told_87 : decode cX2_told 87 = .ok (.getfield 7, 3) := by decide +kernel
theorem dX2_told_90 : decode cX2_told 90 = .ok (.iload_n 3, 1) := by decide +kernel
theorem dX2_told_91 : decode cX2_told 91 = .ok (.iaload, 1) := by decide +kernel
theorem dX2_told_92 : decode cX2_told 92 = .ok (.ireturn, 1) := by decide +kernel
theorem dX2_told_93 : decode cX2_told 93 = .ok (.aload_n 0, 1) := by decide +kernel
theorem dX2_told_94 : decode cX2_told 94 = .ok (.getfield 13, 3) := by decide +kernel
theorem dX2_told_97 : decode cX2_told 97 = .ok (.iload_n 3, 1) := by decide +kernel
theorem dX2_told_98 : decode cX2_told 98 = .ok (.iaload, 1) := by decide +kernel
theorem dX2_told_99 : decode cX2_told 99 = .ok (.ireturn, 1) := by decide +kernel
theorem dX2_told_100 : decode cX2_told 100 = .ok (.aload_n 0, 1) := by decide +kernel
theorem dX2_told_101 : decode cX2_told 101 = .ok (.getfield 19, 3) := by decide +kernel
theorem dX2_told_104 : decode cX2_told 104 = .ok (.iload_n 3, 1) := by decide +kernel
theorem dX2_told_105 : decode cX2_told 105 = .ok (.iaload, 1) := by decide +kernel
theorem dX2_told_106 : decode cX2_told 106 = .ok (.ireturn, 1) := by decide +kernel
theorem dX2_told_107 : decode cX2_told 107 = .ok (.aload_n 0, 1) := by decide +kernel
theorem dX2_told_108 : decode cX2_told 108 = .ok (.getfield 22, 3) := by decide +kernel
theorem dX2_told_111 : decode cX2_told 111 = .ok (.iload_n 3, 1) := by decide +kernel
theorem dX2_told_112 : decode cX2_told 112 = .ok (.iaload, 1) := by decide +kernel
theorem dX2_told_113 : decode cX2_told 113 = .ok (.ireturn, 1) := by decide +kernel
theorem dX2_told_114 : decode cX2_told 114 = .ok (.aload_n 0, 1) := by decide +kernel
theorem dX2_told_115 : decode cX2_told 115 = .ok (.getfield 25, 3) := by decide +kernel
theorem dX2_told_118 : decode cX2_told 118 = .ok (.iload_n 3, 1) := by decide +kernel
theorem dX2_told_119 : decode cX2_told 119 = .ok (.iaload, 1) := by decide +kernel
theorem dX2_told_120 : decode cX2_told 120 = .ok (.ireturn, 1) := by decide +kernel
theorem dX2_told_121 : decode cX2_told 121 = .ok (.aload_n 0, 1) := by decide +kernel
theorem dX2_told_122 : decode cX2_told 122 = .ok (.getfield 28, 3) := by decide +kernel
theorem dX2_told_125 : decode cX2_told 125 = .ok (.iload_n 3, 1) := by decide +kernel
theorem dX2_told_126 : decode cX2_told 126 = .ok (.iaload, 1) := by decide +kernel
theorem dX2_told_127 : decode cX2_told 127 = .ok (.ireturn, 1) := by decide +kernel
theorem dX2_told_128 : decode cX2_told 128 = .ok (.aload_n 0, 1) := by decide +kernel
theorem dX2_told_129 : decode cX2_told 129 = .ok (.getfield 31, 3) := by decide +kernel
theorem dX2_told_132 : decode cX2_told 132 = .ok (.iload_n 3, 1) := by decide +kernel
theorem dX2_told_133 : decode cX2_told 133 = .ok (.iaload, 1) := by decide +kernel
theorem dX2_told_134 : decode cX2_told 134 = .ok (.ireturn, 1) := by decide +kernel
set_option maxRecDepth 20000 in
theorem ggX2_gifts_X2_in : GoodIn wsX2_gifts wsX2_in := goodIn_r _ [6] (by decide +kernel) (by decide +kernel)
set_option maxRecDepth 20000 in
theorem gX2_gifts_X2_in : GoodIn wsX2_gifts (va_wsS RX2 49 yX2_in wsX2_in) := goodIn_app (goodIn_of _ (by decide +kernel)) ggX2_gifts_X2_in
theorem dX2_gifts_0 : decode cX2_gifts 0 = .ok (.iload_n 1, 1) := by decide +kernel
theorem dX2_gifts_1 : decode cX2_gifts 1 = .ok (.iconst 0, 1) := by decide +kernel
theorem dX2_gifts_2 : decode cX2_gifts 2 = .ok (.bipush 9, 2) := by decide +kernel
theorem dX2_gifts_4 : decode cX2_gifts 4 = .ok (.invokestatic 49, 3) := by decide +kernel
theorem dX2_gifts_7 : decode cX2_gifts 7 = .ok (.ifCond .eq 27, 3) := by decide +kernel
theorem dX2_gifts_10 : decode cX2_gifts 10 = .ok (.aload_n 0, 1) := by decide +kernel
theorem dX2_gifts_11 : decode cX2_gifts 11 = .ok (.getfield 34, 3) := by decide +kernel
theorem dX2_gifts_14 : decode cX2_gifts 14 = .ok (.iload_n 1, 1) := by decide +kernel
theorem dX2_gifts_15 : decode cX2_gifts 15 = .ok (.iaload, 1) := by decide +kernel
theorem dX2_gifts_16 : decode cX2_gifts 16 = .ok (.iconst (-1), 1) := by decide +kernel
theorem dX2_gifts_17 : decode cX2_gifts 17 = .ok (.if_icmp .eq 17, 3) := by decide +kernel
theorem dX2_gifts_20 : decode cX2_gifts 20 = .ok (.aload_n 0, 1) := by decide +kernel
theorem dX2_gifts_21 : decode cX2_gifts 21 = .ok (.getfield 16, 3) := by decide +kernel
theorem dX2_gifts_24 : decode cX2_gifts 24 = .ok (.aload_n 0, 1) := by decide +kernel
theorem dX2_gifts_25 : decode cX2_gifts 25 = .ok (.getfield 34, 3) := by decide +kernel
theorem dX2_gifts_28 : decode cX2_gifts 28 = .ok (.iload_n 1, 1) := by decide +kernel
theorem dX2_gifts_29 : decode cX2_gifts 29 = .ok (.iaload, 1) := by decide +kernel
theorem dX2_gifts_30 : decode cX2_gifts 30 = .ok (.iaload, 1) := by decide +kernel
theorem dX2_gifts_31 : decode cX2_gifts 31 = .ok (.goto 4, 3) := by decide +kernel
theorem dX2_gifts_34 : decode cX2_gifts 34 = .ok (.iconst 0, 1) := by decide +kernel
theorem dX2_gifts_35 : decode cX2_gifts 35 = .ok (.ireturn, 1) := by decide +kernel
set_option maxRecDepth 20000 in
theorem ggX2_trace_X2_in : GoodIn wsX2_trace wsX2_in := goodIn_r _ [6] (by decide +kernel) (by decide +kernel)
set_option maxRecDepth 20000 in
theorem gX2_trace_X2_in : GoodIn wsX2_trace (va_wsS RX2 49 yX2_in wsX2_in) := goodIn_app (goodIn_of _ (by decide +kernel)) ggX2_trace_X2_in
theorem dX2_trace_0 : decode cX2_trace 0 = .ok (.iload_n 1, 1) := by decide +kernel
theorem dX2_trace_1 : decode cX2_trace 1 = .ok (.iconst (-1), 1) := by decide +kernel
theorem dX2_trace_2 : decode cX2_trace 2 = .ok (.if_icmp .ne 10, 3) := by decide +kernel
theorem dX2_trace_5 : decode cX2_trace 5 = .ok (.aload_n 0, 1) := by decide +kernel
theorem dX2_trace_6 : decode cX2_trace 6 = .ok (.getfield 61, 3) := by decide +kernel
theorem dX2_trace_9 : decode cX2_trace 9 = .ok (.goto 27, 3) := by decide +kernel
theorem dX2_trace_12 : decode cX2_trace 12 = .ok (.iload_n 1, 1) := by decide +kernel
theorem dX2_trace_13 : decode cX2_trace 13 = .ok (.iconst 0, 1) := by decide +kernel
theorem dX2_trace_14 : decode cX2_trace 14 = .ok (.aload_n 0, 1) := by decide +kernel
theorem dX2_trace_15 : decode cX2_trace 15 = .ok (.getfield 61, 3) := by decide +kernel
theorem dX2_trace_18 : decode cX2_trace 18 = .ok (.iconst 1, 1) := by decide +kernel
theorem dX2_trace_19 : decode cX2_trace 19 = .ok (.isub, 1) := by decide +kernel
theorem dX2_trace_20 : decode cX2_trace 20 = .ok (.invokestatic 49, 3) := by decide +kernel
theorem dX2_trace_23 : decode cX2_trace 23 = .ok (.ifCond .eq 12, 3) := by decide +kernel
theorem dX2_trace_26 : decode cX2_trace 26 = .ok (.aload_n 0, 1) := by decide +kernel
theorem dX2_trace_27 : decode cX2_trace 27 = .ok (.getfield 40, 3) := by decide +kernel
theorem dX2_trace_30 : decode cX2_trace 30 = .ok (.iload_n 1, 1) := by decide +kernel
theorem dX2_trace_31 : decode cX2_trace 31 = .ok (.iaload, 1) := by decide +kernel
theorem dX2_trace_32 : decode cX2_trace 32 = .ok (.goto 4, 3) := by decide +kernel
theorem dX2_trace_35 : decode cX2_trace 35 = .ok (.iconst (-1), 1) := by decide +kernel
theorem dX2_trace_36 : decode cX2_trace 36 = .ok (.ireturn, 1) := by decide +kernel
theorem dX2_count_0 : decode cX2_count 0 = .ok (.iload_n 1, 1) := by decide +kernel
theorem dX2_count_1 : decode cX2_count 1 = .ok (.tableswitch 100 0 5 #[39, 44, 49, 85, 90, 95], 39) := by decide +kernel
theorem dX2_count_40 : decode cX2_count 40 = .ok (.aload_n 0, 1) := by decide +kernel
theorem dX2_count_41 : decode cX2_count 41 = .ok (.getfield 57, 3) := by decide +kernel
theorem dX2_count_44 : decode cX2_count 44 = .ok (.ireturn, 1) := by decide +kernel
theorem dX2_count_45 : decode cX2_count 45 = .ok (.aload_n 0, 1) := by decide +kernel
theorem dX2_count_46 : decode cX2_count 46 = .ok (.getfield 53, 3) := by decide +kernel
theorem dX2_count_49 : decode cX2_count 49 = .ok (.ireturn, 1) := by decide +kernel
theorem dX2_count_50 : decode cX2_count 50 = .ok (.iconst 0, 1) := by decide +kernel
theorem dX2_count_51 : decode cX2_count 51 = .ok (.istore_n 2, 1) := by decide +kernel
theorem dX2_count_52 : decode cX2_count 52 = .ok (.iconst 0, 1) := by decide +kernel
theorem dX2_count_53 : decode cX2_count 53 = .ok (.istore_n 3, 1) := by decide +kernel
theorem dX2_count_54 : decode cX2_count 54 = .ok (.iload_n 3, 1) := by decide +kernel
theorem dX2_count_55 : decode cX2_count 55 = .ok (.bipush 10, 2) := by decide +kernel
theorem dX2_count_57 : decode cX2_count 57 = .ok (.if_icmp .ge 27, 3) := by decide +kernel
theorem dX2_count_60 : decode cX2_count 60 = .ok (.aload_n 0, 1) := by decide +kernel
theorem dX2_count_61 : decode cX2_count 61 = .ok (.getfield 34, 3) := by decide +kernel
theorem dX2_count_64 : decode cX2_count 64 = .ok (.iload_n 3, 1) := by decide +kernel
theorem dX2_count_65 : decode cX2_count 65 = .ok (.iaload, 1) := by decide +kernel
theorem dX2_count_66 : decode cX2_count 66 = .ok (.iconst (-1), 1) := by decide +kernel
theorem dX2_count_67 : decode cX2_count 67 = .ok (.if_icmp .ne 7, 3) := by decide +kernel
theorem dX2_count_70 : decode cX2_count 70 = .ok (.iload_n 2, 1) := by decide +kernel
theorem dX2_count_71 : decode cX2_count 71 = .ok (.goto 6, 3) := by decide +kernel
theorem dX2_count_74 : decode cX2_count 74 = .ok (.iload_n 2, 1) := by decide +kernel
theorem dX2_count_75 : decode cX2_count 75 = .ok (.iconst 1, 1) := by decide +kernel
theorem dX2_count_76 : decode cX2_count 76 = .ok (.iadd, 1) := by decide +kernel
theorem dX2_count_77 : decode cX2_count 77 = .ok (.istore_n 2, 1) := by decide +kernel
theorem dX2_count_78 : decode cX2_count 78 = .ok (.iinc 3 1, 3) := by decide +kernel
theorem dX2_count_81 : decode cX2_count 81 = .ok (.goto (-27), 3) := by decide +kernel
theorem dX2_count_84 : decode cX2_count 84 = .ok (.iload_n 2, 1) := by decide +kernel
theorem dX2_count_85 : decode cX2_count 85 = .ok (.ireturn, 1) := by decide +kernel
theorem dX2_count_86 : decode cX2_count 86 = .ok (.aload_n 0, 1) := by decide +kernel
theorem dX2_count_87 : decode cX2_count 87 = .ok (.getfield 102, 3) := by decide +kernel
theorem dX2_count_90 : decode cX2_count 90 = .ok (.ireturn, 1) := by decide +kernel
theorem dX2_count_91 : decode cX2_count 91 = .ok (.aload_n 0, 1) := by decide +kernel
theorem dX2_count_92 : decode cX2_count 92 = .ok (.getfield 78, 3) := by decide +kernel
theorem dX2_count_95 : decode cX2_count 95 = .ok (.ireturn, 1) := by decide +kernel
theorem dX2_count_96 : decode cX2_count 96 = .ok (.aload_n 0, 1) := by decide +kernel
theorem dX2_count_97 : decode cX2_count 97 = .ok (.getfield 71, 3) := by decide +kernel
theorem dX2_count_100 : decode cX2_count 100 = .ok (.ireturn, 1) := by decide +kernel
theorem dX2_count_101 : decode cX2_count 101 = .ok (.iconst (-1), 1) := by decide +kernel
theorem dX2_count_102 : decode cX2_count 102 = .ok (.ireturn, 1) := by decide +kernel
theorem dJ9_floorMod_7cf53_0 : decode cJ9_floorMod_7cf53 0 = .ok (.iload_n 0, 1) := by decide +kernel
theorem dJ9_floorMod_7cf53_1 : decode cJ9_floorMod_7cf53 1 = .ok (.iload_n 1, 1) := by decide +kernel
theorem dJ9_floorMod_7cf53_2 : decode cJ9_floorMod_7cf53 2 = .ok (.irem, 1) := by decide +kernel
theorem dJ9_floorMod_7cf53_3 : decode cJ9_floorMod_7cf53 3 = .ok (.istore_n 2, 1) := by decide +kernel
theorem dJ9_floorMod_7cf53_4 : decode cJ9_floorMod_7cf53 4 = .ok (.iload_n 0, 1) := by decide +kernel
theorem dJ9_floorMod_7cf53_5 : decode cJ9_floorMod_7cf53 5 = .ok (.iload_n 1, 1) := by decide +kernel
theorem dJ9_floorMod_7cf53_6 : decode cJ9_floorMod_7cf53 6 = .ok (.ixor, 1) := by decide +kernel
theorem dJ9_floorMod_7cf53_7 : decode cJ9_floorMod_7cf53 7 = .ok (.ifCond .ge 11, 3) := by decide +kernel
theorem dJ9_floorMod_7cf53_10 : decode cJ9_floorMod_7cf53 10 = .ok (.iload_n 2, 1) := by decide +kernel
theorem dJ9_floorMod_7cf53_11 : decode cJ9_floorMod_7cf53 11 = .ok (.ifCond .eq 7, 3) := by decide +kernel
theorem dJ9_floorMod_7cf53_14 : decode cJ9_floorMod_7cf53 14 = .ok (.iload_n 2, 1) := by decide +kernel
theorem dJ9_floorMod_7cf53_15 : decode cJ9_floorMod_7cf53 15 = .ok (.iload_n 1, 1) := by decide +kernel
theorem dJ9_floorMod_7cf53_16 : decode cJ9_floorMod_7cf53 16 = .ok (.iadd, 1) := by decide +kernel
theorem dJ9_floorMod_7cf53_17 : decode cJ9_floorMod_7cf53 17 = .ok (.ireturn, 1) := by decide +kernel
theorem dJ9_floorMod_7cf53_18 : decode cJ9_floorMod_7cf53 18 = .ok (.iload_n 2, 1) := by decide +kernel
theorem dJ9_floorMod_7cf53_19 : decode cJ9_floorMod_7cf53 19 = .ok (.ireturn, 1) := by decide +kernel
theorem dJ9_max_7cf53_0 : decode cJ9_max_7cf53 0 = .ok (.iload_n 0, 1) := by decide +kernel
theorem dJ9_max_7cf53_1 : decode cJ9_max_7cf53 1 = .ok (.iload_n 1, 1) := by decide +kernel
theorem dJ9_max_7cf53_2 : decode cJ9_max_7cf53 2 = .ok (.if_icmp .lt 7, 3) := by decide +kernel
theorem dJ9_max_7cf53_5 : decode cJ9_max_7cf53 5 = .ok (.iload_n 0, 1) := by decide +kernel
theorem dJ9_max_7cf53_6 : decode cJ9_max_7cf53 6 = .ok (.goto 4, 3) := by decide +kernel
theorem dJ9_max_7cf53_9 : decode cJ9_max_7cf53 9 = .ok (.iload_n 1, 1) := by decide +kernel
theorem dJ9_max_7cf53_10 : decode cJ9_max_7cf53 10 = .ok (.ireturn, 1) := by decide +kernel
theorem dJ9_min_7cf53_0 : decode cJ9_min_7cf53 0 = .ok (.iload_n 0, 1) := by decide +kernel
theorem dJ9_min_7cf53_1 : decode cJ9_min_7cf53 1 = .ok (.iload_n 1, 1) := by decide +kernel
theorem dJ9_min_7cf53_2 : decode cJ9_min_7cf53 2 = .ok (.if_icmp .gt 7, 3) := by decide +kernel
theorem dJ9_min_7cf53_5 : decode cJ9_min_7cf53 5 = .ok (.iload_n 0, 1) := by decide +kernel
theorem dJ9_min_7cf53_6 : decode cJ9_min_7cf53 6 = .ok (.goto 4, 3) := by decide +kernel
theorem dJ9_min_7cf53_9 : decode cJ9_min_7cf53 9 = .ok (.iload_n 1, 1) := by decide +kernel
theorem dJ9_min_7cf53_10 : decode cJ9_min_7cf53 10 = .ok (.ireturn, 1) := by decide +kernel
theorem dJ7_fill_53178_0 : decode cJ7_fill_53178 0 = .ok (.iconst 0, 1) := by decide +kernel
theorem dJ7_fill_53178_1 : decode cJ7_fill_53178 1 = .ok (.istore_n 2, 1) := by decide +kernel
theorem dJ7_fill_53178_2 : decode cJ7_fill_53178 2 = .ok (.aload_n 0, 1) := by decide +kernel
theorem dJ7_fill_53178_3 : decode cJ7_fill_53178 3 = .ok (.arraylength, 1) := by decide +kernel
theorem dJ7_fill_53178_4 : decode cJ7_fill_53178 4 = .ok (.istore_n 3, 1) := by decide +kernel
theorem dJ7_fill_53178_5 : decode cJ7_fill_53178 5 = .ok (.iload_n 2, 1) := by decide +kernel
theorem dJ7_fill_53178_6 : decode cJ7_fill_53178 6 = .ok (.iload_n 3, 1) := by decide +kernel
theorem dJ7_fill_53178_7 : decode cJ7_fill_53178 7 = .ok (.if_icmp .ge 13, 3) := by decide +kernel
theorem dJ7_fill_53178_10 : decode cJ7_fill_53178 10 = .ok (.aload_n 0, 1) := by decide +kernel
theorem dJ7_fill_53178_11 : decode cJ7_fill_53178 11 = .ok (.iload_n 2, 1) := by decide +kernel
theorem dJ7_fill_53178_12 : decode cJ7_fill_53178 12 = .ok (.iload_n 1, 1) := by decide +kernel
theorem dJ7_fill_53178_13 : decode cJ7_fill_53178 13 = .ok (.iastore, 1) := by decide +kernel
theorem dJ7_fill_53178_14 : decode cJ7_fill_53178 14 = .ok (.iinc 2 1, 3) := by decide +kernel
theorem dJ7_fill_53178_17 : decode cJ7_fill_53178 17 = .ok (.goto (-12), 3) := by decide +kernel
theorem dJ7_fill_53178_20 : decode cJ7_fill_53178 20 = .ok (.return_, 1) := by decide +kernel
set_option maxRecDepth 20000 in
theorem ggL_law_X1_init : GoodIn wsL_law wsX1_init := goodIn_r _ [9, 10, 11, 12, 13, 14, 15, 16, 17, 18, 19, 20, 21, 22, 23, 279, 280, 281, 282, 283, 284, 285, 286, 287, 288, 289, 290] (by decide +kernel) (by decide +kernel)
set_option maxRecDepth 20000 in
theorem gL_law_X1_init : GoodIn wsL_law (wsX1_init) := ggL_law_X1_init
set_option maxRecDepth 20000 in
theorem ggL_law_X2_init : GoodIn wsL_law wsX2_init := goodIn_r _ [26, 27, 11, 12, 15, 28, 29, 30, 31, 32, 33, 34, 35, 36, 37, 38, 39, 40, 291, 292, 293, 294, 295, 296, 297, 298, 299, 300, 301, 302, 303, 304, 305, 306, 307, 308, 309, 310] (by decide +kernel) (by decide +kernel)
set_option maxRecDepth 20000 in
theorem gL_law_X2_init : GoodIn wsL_law (wsX2_init) := ggL_law_X2_init
set_option maxRecDepth 20000 in
theorem ggL_law_X1_hall : GoodIn wsL_law wsX1_hall := goodIn_r _ [44, 45, 14, 13, 46, 47, 48, 49, 2, 50, 51, 52, 53, 11, 12, 54, 55, 56, 279, 280, 281, 282, 283, 284, 285, 286, 287, 288, 289, 290, 311, 312, 313, 314, 315, 316, 317, 318, 319] (by decide +kernel) (by decide +kernel)
set_option maxRecDepth 20000 in
theorem gL_law_X1_hall : GoodIn wsL_law (wsV RL 13 RX1 yX1_hall wsX1_hall) := goodIn_app (goodIn_of _ (by decide +kernel)) ggL_law_X1_hall
set_option maxRecDepth 20000 in
theorem ggL_law_X2_hall : GoodIn wsL_law wsX2_hall := goodIn_r _ [60, 28, 61, 29, 36, 62, 63, 5, 64, 291, 292, 293, 294, 295, 296, 297, 298, 299, 300, 301, 302, 303, 304, 305, 306, 307, 308, 309, 310] (by decide +kernel) (by decide +kernel)
set_option maxRecDepth 20000 in
theorem gL_law_X2_hall : GoodIn wsL_law (wsV RL 17 RX2 yX2_hall wsX2_hall) := goodIn_app (goodIn_of _ (by decide +kernel)) ggL_law_X2_hall
set_option maxRecDepth 20000 in
theorem ggL_law_X1_share : GoodIn wsL_law wsX1_share := goodIn_r _ [68, 14, 48, 49, 2, 50, 279, 280, 281, 282, 283, 284, 285, 286, 287, 288, 289, 290] (by decide +kernel) (by decide +kernel)
set_option maxRecDepth 20000 in
theorem gL_law_X1_share : GoodIn wsL_law (wsV RL 18 RX1 yX1_share wsX1_share) := goodIn_app (goodIn_of _ (by decide +kernel)) ggL_law_X1_share
set_option maxRecDepth 20000 in
theorem ggL_law_X2_share : GoodIn wsL_law wsX2_share := goodIn_r _ [72, 36, 62, 63, 5, 64, 291, 292, 293, 294, 295, 296, 297, 298, 299, 300, 301, 302, 303, 304, 305, 306, 307, 308, 309, 310] (by decide +kernel) (by decide +kernel)
set_option maxRecDepth 20000 in
theorem gL_law_X2_share : GoodIn wsL_law (wsV RL 22 RX2 yX2_share wsX2_share) := goodIn_app (goodIn_of _ (by decide +kernel)) ggL_law_X2_share
set_option maxRecDepth 20000 in
theorem ggL_law_X1_parent : GoodIn wsL_law wsX1_parent := goodIn_r _ [76, 16, 48, 49, 2, 50, 279, 280, 281, 282, 283, 284, 285, 286, 287, 288, 289, 290] (by decide +kernel) (by decide +kernel)
set_option maxRecDepth 20000 in
theorem gL_law_X1_parent : GoodIn wsL_law (wsV RL 23 RX1 yX1_parent wsX1_parent) := goodIn_app (goodIn_of _ (by decide +kernel)) ggL_law_X1_parent
set_option maxRecDepth 20000 in
theorem ggL_law_X2_parent : GoodIn wsL_law wsX2_parent := goodIn_r _ [80, 37, 62, 63, 5, 64, 291, 292, 293, 294, 295, 296, 297, 298, 299, 300, 301, 302, 303, 304, 305, 306, 307, 308, 309, 310] (by decide +kernel) (by decide +kernel)
set_option maxRecDepth 20000 in
theorem gL_law_X2_parent : GoodIn wsL_law (wsV RL 26 RX2 yX2_parent wsX2_parent) := goodIn_app (goodIn_of _ (by decide +kernel)) ggL_law_X2_parent
set_option maxRecDepth 20000 in
theorem ggL_law_X1_fill : GoodIn wsL_law wsX1_fill := goodIn_r _ [84, 85, 86, 87, 88, 89, 90, 279, 280, 281, 282, 283, 284, 285, 286, 287, 288, 289, 290] (by decide +kernel) (by decide +kernel)
set_option maxRecDepth 20000 in
theorem gL_law_X1_fill : GoodIn wsL_law (wsV RL 27 RX1 yX1_fill wsX1_fill) := goodIn_app (goodIn_of _ (by decide +kernel)) ggL_law_X1_fill
set_option maxRecDepth 20000 in
theorem ggL_law_X2_fill : GoodIn wsL_law wsX2_fill := goodIn_r _ [94, 95, 96, 62, 63, 5, 64, 291, 292, 293, 294, 295, 296, 297, 298, 299, 300, 301, 302, 303, 304, 305, 306, 307, 308, 309, 310] (by decide +kernel) (by decide +kernel)
set_option maxRecDepth 20000 in
theorem gL_law_X2_fill : GoodIn wsL_law (wsV RL 31 RX2 yX2_fill wsX2_fill) := goodIn_app (goodIn_of _ (by decide +kernel)) ggL_law_X2_fill
set_option maxRecDepth 20000 in
theorem ggL_law_X1_walk : GoodIn wsL_law wsX1_walk := goodIn_r _ [100, 101, 102, 103, 48, 49, 2, 50, 104, 105, 106, 107, 108, 109, 110, 111, 112, 113, 17, 16, 114, 115, 116, 117, 87, 88, 89, 90, 118, 119, 120, 121, 14, 122, 123, 124, 125, 18, 126, 127, 128, 85, 129, 47, 130, 131, 132, 133, 134, 135, 136, 137, 138, 54, 139, 140, 141, 142, 19, 143, 144, 145, 55, 146, 147, 148, 56, 149, 150, 151, 152, 153, 154, 155, 156, 157, 158, 159, 160, 161, 162, 163, 164, 165, 166, 167, 168, 169, 170, 171, 172, 173, 174, 175, 176, 177, 178, 179, 180, 279, 280, 281, 282, 283, 284, 285, 286, 287, 288, 289, 290, 311, 312, 313, 314, 315, 316, 317, 318, 319] (by decide +kernel) (by decide +kernel)
set_option maxRecDepth 20000 in
theorem gL_law_X1_walk : GoodIn wsL_law (wsV RL 32 RX1 yX1_walk wsX1_walk) := goodIn_app (goodIn_of _ (by decide +kernel)) ggL_law_X1_walk
set_option maxRecDepth 20000 in
theorem ggL_law_X2_walk : GoodIn wsL_law wsX2_walk := goodIn_r _ [184, 185, 186, 187, 188, 62, 63, 5, 64, 189, 190, 191, 192, 193, 40, 37, 36, 194, 195, 196, 197, 31, 34, 35, 39, 28, 95, 33, 198, 199, 200, 201, 38, 202, 203, 204, 205, 29, 206, 207, 208, 209, 30, 210, 211, 212, 213, 214, 215, 216, 217, 218, 219, 220, 221, 222, 223, 224, 225, 291, 292, 293, 294, 295, 296, 297, 298, 299, 300, 301, 302, 303, 304, 305, 306, 307, 308, 309, 310] (by decide +kernel) (by decide +kernel)
set_option maxRecDepth 20000 in
theorem gL_law_X2_walk : GoodIn wsL_law (wsV RL 35 RX2 yX2_walk wsX2_walk) := goodIn_app (goodIn_of _ (by decide +kernel)) ggL_law_X2_walk
set_option maxRecDepth 20000 in
theorem ggL_law_X1_seek : GoodIn wsL_law wsX1_seek := goodIn_r _ [229, 14, 230, 231, 232, 2, 233, 118, 119, 120, 121, 48, 49, 50, 279, 280, 281, 282, 283, 284, 285, 286, 287, 288, 289, 290, 311, 312, 313, 314, 315, 316, 317, 318, 319] (by decide +kernel) (by decide +kernel)
set_option maxRecDepth 20000 in
theorem gL_law_X1_seek : GoodIn wsL_law (wsV RL 38 RX1 yX1_seek wsX1_seek) := goodIn_app (goodIn_of _ (by decide +kernel)) ggL_law_X1_seek
set_option maxRecDepth 20000 in
theorem ggL_law_X2_seek : GoodIn wsL_law wsX2_seek := goodIn_r _ [237, 36, 32, 30, 291, 292, 293, 294, 295, 296, 297, 298, 299, 300, 301, 302, 303, 304, 305, 306, 307, 308, 309, 310] (by decide +kernel) (by decide +kernel)
set_option maxRecDepth 20000 in
theorem gL_law_X2_seek : GoodIn wsL_law (wsV RL 42 RX2 yX2_seek wsX2_seek) := goodIn_app (goodIn_of _ (by decide +kernel)) ggL_law_X2_seek
set_option maxRecDepth 20000 in
theorem ggL_law_X1_told : GoodIn wsL_law wsX1_told := goodIn_r _ [241, 118, 119, 120, 2, 121, 14, 48, 49, 50, 242, 47, 243, 244, 54, 55, 56, 132, 245, 246, 133, 134, 279, 280, 281, 282, 283, 284, 285, 286, 287, 288, 289, 290, 311, 312, 313, 314, 315, 316, 317, 318, 319] (by decide +kernel) (by decide +kernel)
set_option maxRecDepth 20000 in
theorem gL_law_X1_told : GoodIn wsL_law (wsV RL 43 RX1 yX1_told wsX1_told) := goodIn_app (goodIn_of _ (by decide +kernel)) ggL_law_X1_told
set_option maxRecDepth 20000 in
theorem ggL_law_X2_told : GoodIn wsL_law wsX2_told := goodIn_r _ [250, 36, 28, 29, 31, 32, 33, 34, 35, 62, 63, 5, 64, 291, 292, 293, 294, 295, 296, 297, 298, 299, 300, 301, 302, 303, 304, 305, 306, 307, 308, 309, 310] (by decide +kernel) (by decide +kernel)
set_option maxRecDepth 20000 in
theorem gL_law_X2_told : GoodIn wsL_law (wsV RL 46 RX2 yX2_told wsX2_told) := goodIn_app (goodIn_of _ (by decide +kernel)) ggL_law_X2_told
set_option maxRecDepth 20000 in
theorem ggL_law_X1_gifts : GoodIn wsL_law wsX1_gifts := goodIn_r _ [254, 118, 119, 120, 2, 121, 14, 48, 49, 50, 311, 312, 313, 314, 315, 316, 317, 318, 319, 279, 280, 281, 282, 283, 284, 285, 286, 287, 288, 289, 290] (by decide +kernel) (by decide +kernel)
set_option maxRecDepth 20000 in
theorem gL_law_X1_gifts : GoodIn wsL_law (wsV RL 47 RX1 yX1_gifts wsX1_gifts) := goodIn_app (goodIn_of _ (by decide +kernel)) ggL_law_X1_gifts
set_option maxRecDepth 20000 in
theorem ggL_law_X2_gifts : GoodIn wsL_law wsX2_gifts := goodIn_r _ [258, 36, 30, 62, 63, 5, 64, 291, 292, 293, 294, 295, 296, 297, 298, 299, 300, 301, 302, 303, 304, 305, 306, 307, 308, 309, 310] (by decide +kernel) (by decide +kernel)
set_option maxRecDepth 20000 in
theorem gL_law_X2_gifts : GoodIn wsL_law (wsV RL 50 RX2 yX2_gifts wsX2_gifts) := goodIn_app (goodIn_of _ (by decide +kernel)) ggL_law_X2_gifts
set_option maxRecDepth 20000 in
theorem ggL_law_X1_trace : GoodIn wsL_law wsX1_trace := goodIn_r _ [262, 101, 19, 279, 280, 281, 282, 283, 284, 285, 286, 287, 288, 289, 290] (by decide +kernel) (by decide +kernel)
set_option maxRecDepth 20000 in
theorem gL_law_X1_trace : GoodIn wsL_law (wsV RL 51 RX1 yX1_trace wsX1_trace) := goodIn_app (goodIn_of _ (by decide +kernel)) ggL_law_X1_trace
set_option maxRecDepth 20000 in
theorem ggL_law_X2_trace : GoodIn wsL_law wsX2_trace := goodIn_r _ [266, 185, 38, 62, 63, 5, 64, 291, 292, 293, 294, 295, 296, 297, 298, 299, 300, 301, 302, 303, 304, 305, 306, 307, 308, 309, 310] (by decide +kernel) (by decide +kernel)
set_option maxRecDepth 20000 in
theorem gL_law_X2_trace : GoodIn wsL_law (wsV RL 54 RX2 yX2_trace wsX2_trace) := goodIn_app (goodIn_of _ (by decide +kernel)) ggL_law_X2_trace
set_option maxRecDepth 20000 in
theorem ggL_law_X1_count : GoodIn wsL_law wsX1_count := goodIn_r _ [270, 85, 45, 103, 108, 102, 271, 272, 273, 2, 274, 14, 279, 280, 281, 282, 283, 284, 285, 286, 287, 288, 289, 290] (by decide +kernel) (by decide +kernel)
set_option maxRecDepth 20000 in
theorem gL_law_X1_count : GoodIn wsL_law (wsV RL 55 RX1 yX1_count wsX1_count) := goodIn_app (goodIn_of _ (by decide +kernel)) ggL_law_X1_count
set_option maxRecDepth 20000 in
theorem ggL_law_X2_count : GoodIn wsL_law wsX2_count := goodIn_r _ [278, 95, 61, 36, 188, 193, 186, 291, 292, 293, 294, 295, 296, 297, 298, 299, 300, 301, 302, 303, 304, 305, 306, 307, 308, 309, 310] (by decide +kernel) (by decide +kernel)
set_option maxRecDepth 20000 in
theorem gL_law_X2_count : GoodIn wsL_law (wsV RL 58 RX2 yX2_count wsX2_count) := goodIn_app (goodIn_of _ (by decide +kernel)) ggL_law_X2_count
theorem dL_law_0 : decode cL_law 0 = .ok (.new 7, 3) := by decide +kernel
theorem dL_law_3 : decode cL_law 3 = .ok (.dup, 1) := by decide +kernel
theorem dL_law_4 : decode cL_law 4 = .ok (.invokespecial 9, 3) := by decide +kernel
theorem dL_law_7 : decode cL_law 7 = .ok (.astore_n 1, 1) := by decide +kernel
theorem dL_law_8 : decode cL_law 8 = .ok (.new 10, 3) := by decide +kernel
theorem dL_law_11 : decode cL_law 11 = .ok (.dup, 1) := by decide +kernel
theorem dL_law_12 : decode cL_law 12 = .ok (.invokespecial 12, 3) := by decide +kernel
theorem dL_law_15 : decode cL_law 15 = .ok (.astore_n 2, 1) := by decide +kernel
theorem dL_law_16 : decode cL_law 16 = .ok (.iconst 0, 1) := by decide +kernel
theorem dL_law_17 : decode cL_law 17 = .ok (.istore_n 3, 1) := by decide +kernel
theorem dL_law_18 : decode cL_law 18 = .ok (.iload_n 3, 1) := by decide +kernel
theorem dL_law_19 : decode cL_law 19 = .ok (.aload_n 0, 1) := by decide +kernel
theorem dL_law_20 : decode cL_law 20 = .ok (.arraylength, 1) := by decide +kernel
theorem dL_law_21 : decode cL_law 21 = .ok (.iconst 4, 1) := by decide +kernel
theorem dL_law_22 : decode cL_law 22 = .ok (.isub, 1) := by decide +kernel
theorem dL_law_23 : decode cL_law 23 = .ok (.if_icmp .gt 401, 3) := by decide +kernel
theorem dL_law_26 : decode cL_law 26 = .ok (.aload_n 0, 1) := by decide +kernel
theorem dL_law_27 : decode cL_law 27 = .ok (.iload_n 3, 1) := by decide +kernel
theorem dL_law_28 : decode cL_law 28 = .ok (.iaload, 1) := by decide +kernel
theorem dL_law_29 : decode cL_law 29 = .ok (.bipush 15, 2) := by decide +kernel
theorem dL_law_31 : decode cL_law 31 = .ok (.iand, 1) := by decide +kernel
theorem dL_law_32 : decode cL_law 32 = .ok (.tableswitch 386 0 9 #[56, 99, 132, 165, 188, 231, 284, 317, 340, 363], 56) := by decide +kernel
theorem dL_law_88 : decode cL_law 88 = .ok (.aload_n 1, 1) := by decide +kernel
theorem dL_law_89 : decode cL_law 89 = .ok (.aload_n 0, 1) := by decide +kernel
theorem dL_law_90 : decode cL_law 90 = .ok (.iload_n 3, 1) := by decide +kernel
theorem dL_law_91 : decode cL_law 91 = .ok (.iconst 1, 1) := by decide +kernel
theorem dL_law_92 : decode cL_law 92 = .ok (.iadd, 1) := by decide +kernel
theorem dL_law_93 : decode cL_law 93 = .ok (.iaload, 1) := by decide +kernel
theorem dL_law_94 : decode cL_law 94 = .ok (.aload_n 0, 1) := by decide +kernel
theorem dL_law_95 : decode cL_law 95 = .ok (.iload_n 3, 1) := by decide +kernel
theorem dL_law_96 : decode cL_law 96 = .ok (.iconst 2, 1) := by decide +kernel
theorem dL_law_97 : decode cL_law 97 = .ok (.iadd, 1) := by decide +kernel
theorem dL_law_98 : decode cL_law 98 = .ok (.iaload, 1) := by decide +kernel
theorem dL_law_99 : decode cL_law 99 = .ok (.aload_n 0, 1) := by decide +kernel
theorem dL_law_100 : decode cL_law 100 = .ok (.iload_n 3, 1) := by decide +kernel
theorem dL_law_101 : decode cL_law 101 = .ok (.iconst 3, 1) := by decide +kernel
theorem dL_law_102 : decode cL_law 102 = .ok (.iadd, 1) := by decide +kernel
theorem dL_law_103 : decode cL_law 103 = .ok (.iaload, 1) := by decide +kernel
theorem dL_law_104 : decode cL_law 104 = .ok (.invokevirtual 13, 3) := by decide +kernel
theorem dL_law_107 : decode cL_law 107 = .ok (.aload_n 2, 1) := by decide +kernel
theorem dL_law_108 : decode cL_law 108 = .ok (.aload_n 0, 1) := by decide +kernel
theorem dL_law_109 : decode cL_law 109 = .ok (.iload_n 3, 1) := by decide +kernel
theorem dL_law_110 : decode cL_law 110 = .ok (.iconst 1, 1) := by decide +kernel
theorem dL_law_111 : decode cL_law 111 = .ok (.iadd, 1) := by decide +kernel
theorem dL_law_112 : decode cL_law 112 = .ok (.iaload, 1) := by decide +kernel
theorem dL_law_113 : decode cL_law 113 = .ok (.aload_n 0, 1) := by decide +kernel
theorem dL_law_114 : decode cL_law 114 = .ok (.iload_n 3, 1) := by decide +kernel
theorem dL_law_115 : decode cL_law 115 = .ok (.iconst 2, 1) := by decide +kernel
theorem dL_law_116 : decode cL_law 116 = .ok (.iadd, 1) := by decide +kernel
theorem dL_law_117 : decode cL_law 117 = .ok (.iaload, 1) := by decide +kernel
theorem dL_law_118 : decode cL_law 118 = .ok (.aload_n 0, 1) := by decide +kernel
theorem dL_law_119 : decode cL_law 119 = .ok (.iload_n 3, 1) := by decide +kernel
theorem dL_law_120 : decode cL_law 120 = .ok (.iconst 3, 1) := by decide +kernel
theorem dL_law_121 : decode cL_law 121 = .ok (.iadd, 1) := by decide +kernel
theorem dL_law_122 : decode cL_law 122 = .ok (.iaload, 1) := by decide +kernel
theorem dL_law_123 : decode cL_law 123 = .ok (.invokevirtual 17, 3) := by decide +kernel
theorem dL_law_126 : decode cL_law 126 = .ok (.if_icmp .eq 292, 3) := by decide +kernel
theorem dL_law_129 : decode cL_law 129 = .ok (.iconst 0, 1) := by decide +kernel
theorem dL_law_130 : decode cL_law 130 = .ok (.ireturn, 1) := by decide +kernel
theorem dL_law_131 : decode cL_law 131 = .ok (.aload_n 1, 1) := by decide +kernel
theorem dL_law_132 : decode cL_law 132 = .ok (.aload_n 0, 1) := by decide +kernel
theorem dL_law_133 : decode cL_law 133 = .ok (.iload_n 3, 1) := by decide +kernel
theorem dL_law_134 : decode cL_law 134 = .ok (.iconst 1, 1) := by decide +kernel
theorem dL_law_135 : decode cL_law 135 = .ok (.iadd, 1) := by decide +kernel
theorem dL_law_136 : decode cL_law 136 = .ok (.iaload, 1) := by decide +kernel
theorem dL_law_137 : decode cL_law 137 = .ok (.aload_n 0, 1) := by decide +kernel
theorem dL_law_138 : decode cL_law 138 = .ok (.iload_n 3, 1) := by decide +kernel
theorem dL_law_139 : decode cL_law 139 = .ok (.iconst 2, 1) := by decide +kernel
theorem dL_law_140 : decode cL_law 140 = .ok (.iadd, 1) := by decide +kernel
theorem dL_law_141 : decode cL_law 141 = .ok (.iaload, 1) := by decide +kernel
theorem dL_law_142 : decode cL_law 142 = .ok (.invokevirtual 18, 3) := by decide +kernel
theorem dL_law_145 : decode cL_law 145 = .ok (.aload_n 2, 1) := by decide +kernel
theorem dL_law_146 : decode cL_law 146 = .ok (.aload_n 0, 1) := by decide +kernel
theorem dL_law_147 : decode cL_law 147 = .ok (.iload_n 3, 1) := by decide +kernel
theorem dL_law_148 : decode cL_law 148 = .ok (.iconst 1, 1) := by decide +kernel
theorem dL_law_149 : decode cL_law 149 = .ok (.iadd, 1) := by decide +kernel
theorem dL_law_150 : decode cL_law 150 = .ok (.iaload, 1) := by decide +kernel
theorem dL_law_151 : decode cL_law 151 = .ok (.aload_n 0, 1) := by decide +kernel
theorem dL_law_152 : decode cL_law 152 = .ok (.iload_n 3, 1) := by decide +kernel
theorem dL_law_153 : decode cL_law 153 = .ok (.iconst 2, 1) := by decide +kernel
theorem dL_law_154 : decode cL_law 154 = .ok (.iadd, 1) := by decide +kernel
theorem dL_law_155 : decode cL_law 155 = .ok (.iaload, 1) := by decide +kernel
theorem dL_law_156 : decode cL_law 156 = .ok (.invokevirtual 22, 3) := by decide +kernel
theorem dL_law_159 : decode cL_law 159 = .ok (.if_icmp .eq 259, 3) := by decide +kernel
theorem dL_law_162 : decode cL_law 162 = .ok (.iconst 0, 1) := by decide +kernel
theorem dL_law_163 : decode cL_law 163 = .ok (.ireturn, 1) := by decide +kernel
theorem dL_law_164 : decode cL_law 164 = .ok (.aload_n 1, 1) := by decide +kernel
theorem dL_law_165 : decode cL_law 165 = .ok (.aload_n 0, 1) := by decide +kernel
theorem dL_law_166 : decode cL_law 166 = .ok (.iload_n 3, 1) := by decide +kernel
theorem dL_law_167 : decode cL_law 167 = .ok (.iconst 1, 1) := by decide +kernel
theorem dL_law_168 : decode cL_law 168 = .ok (.iadd, 1) := by decide +kernel
theorem dL_law_169 : decode cL_law 169 = .ok (.iaload, 1) := by decide +kernel
theorem dL_law_170 : decode cL_law 170 = .ok (.aload_n 0, 1) := by decide +kernel
theorem dL_law_171 : decode cL_law 171 = .ok (.iload_n 3, 1) := by decide +kernel
theorem dL_law_172 : decode cL_law 172 = .ok (.iconst 2, 1) := by decide +kernel
theorem dL_law_173 : decode cL_law 173 = .ok (.iadd, 1) := by decide +kernel
theorem dL_law_174 : decode cL_law 174 = .ok (.iaload, 1) := by decide +kernel
theorem dL_law_175 : decode cL_law 175 = .ok (.invokevirtual 23, 3) := by decide +kernel
theorem dL_law_178 : decode cL_law 178 = .ok (.aload_n 2, 1) := by decide +kernel
theorem dL_law_179 : decode cL_law 179 = .ok (.aload_n 0, 1) := by decide +kernel
theorem dL_law_180 : decode cL_law 180 = .ok (.iload_n 3, 1) := by decide +kernel
theorem dL_law_181 : decode cL_law 181 = .ok (.iconst 1, 1) := by decide +kernel
theorem dL_law_182 : decode cL_law 182 = .ok (.iadd, 1) := by decide +kernel
theorem dL_law_183 : decode cL_law 183 = .ok (.iaload, 1) := by decide +kernel
theorem dL_law_184 : decode cL_law 184 = .ok (.aload_n 0, 1) := by decide +kernel
theorem dL_law_185 : decode cL_law 185 = .ok (.iload_n 3, 1) := by decide +kernel
theorem dL_law_186 : decode cL_law 186 = .ok (.iconst 2, 1) := by decide +kernel
theorem dL_law_187 : decode cL_law 187 = .ok (.iadd, 1) := by decide +kernel
theorem dL_law_188 : decode cL_law 188 = .ok (.iaload, 1) := by decide +kernel
theorem dL_law_189 : decode cL_law 189 = .ok (.invokevirtual 26, 3) := by decide +kernel
theorem dL_law_192 : decode cL_law 192 = .ok (.if_icmp .eq 226, 3) := by decide +kernel
theorem dL_law_195 : decode cL_law 195 = .ok (.iconst 0, 1) := by decide +kernel
theorem dL_law_196 : decode cL_law 196 = .ok (.ireturn, 1) := by decide +kernel
theorem dL_law_197 : decode cL_law 197 = .ok (.aload_n 1, 1) := by decide +kernel
theorem dL_law_198 : decode cL_law 198 = .ok (.aload_n 0, 1) := by decide +kernel
theorem dL_law_199 : decode cL_law 199 = .ok (.iload_n 3, 1) := by decide +kernel
theorem dL_law_200 : decode cL_law 200 = .ok (.iconst 1, 1) := by decide +kernel
theorem dL_law_201 : decode cL_law 201 = .ok (.iadd, 1) := by decide +kernel
theorem dL_law_202 : decode cL_law 202 = .ok (.iaload, 1) := by decide +kernel
theorem dL_law_203 : decode cL_law 203 = .ok (.invokevirtual 27, 3) := by decide +kernel
theorem dL_law_206 : decode cL_law 206 = .ok (.aload_n 2, 1) := by decide +kernel
theorem dL_law_207 : decode cL_law 207 = .ok (.aload_n 0, 1) := by decide +kernel
theorem dL_law_208 : decode cL_law 208 = .ok (.iload_n 3, 1) := by decide +kernel
theorem dL_law_209 : decode cL_law 209 = .ok (.iconst 1, 1) := by decide +kernel
theorem dL_law_210 : decode cL_law 210 = .ok (.iadd, 1) := by decide +kernel
theorem dL_law_211 : decode cL_law 211 = .ok (.iaload, 1) := by decide +kernel
theorem dL_law_212 : decode cL_law 212 = .ok (.invokevirtual 31, 3) := by decide +kernel
theorem dL_law_215 : decode cL_law 215 = .ok (.if_icmp .eq 203, 3) := by decide +kernel
theorem dL_law_218 : decode cL_law 218 = .ok (.iconst 0, 1) := by decide +kernel
theorem dL_law_219 : decode cL_law 219 = .ok (.ireturn, 1) := by decide +kernel
theorem dL_law_220 : decode cL_law 220 = .ok (.aload_n 1, 1) := by decide +kernel
theorem dL_law_221 : decode cL_law 221 = .ok (.aload_n 0, 1) := by decide +kernel
theorem dL_law_222 : decode cL_law 222 = .ok (.iload_n 3, 1) := by decide +kernel
theorem dL_law_223 : decode cL_law 223 = .ok (.iconst 1, 1) := by decide +kernel
theorem dL_law_224 : decode cL_law 224 = .ok (.iadd, 1) := by decide +kernel
theorem dL_law_225 : decode cL_law 225 = .ok (.iaload, 1) := by decide +kernel
theorem dL_law_226 : decode cL_law 226 = .ok (.aload_n 0, 1) := by decide +kernel
theorem dL_law_227 : decode cL_law 227 = .ok (.iload_n 3, 1) := by decide +kernel
theorem dL_law_228 : decode cL_law 228 = .ok (.iconst 2, 1) := by decide +kernel
theorem dL_law_229 : decode cL_law 229 = .ok (.iadd, 1) := by decide +kernel
theorem dL_law_230 : decode cL_law 230 = .ok (.iaload, 1) := by decide +kernel
theorem dL_law_231 : decode cL_law 231 = .ok (.aload_n 0, 1) := by decide +kernel
theorem dL_law_232 : decode cL_law 232 = .ok (.iload_n 3, 1) := by decide +kernel
theorem dL_law_233 : decode cL_law 233 = .ok (.iconst 3, 1) := by decide +kernel
theorem dL_law_234 : decode cL_law 234 = .ok (.iadd, 1) := by decide +kernel
theorem dL_law_235 : decode cL_law 235 = .ok (.iaload, 1) := by decide +kernel
theorem dL_law_236 : decode cL_law 236 = .ok (.invokevirtual 32, 3) := by decide +kernel
theorem dL_law_239 : decode cL_law 239 = .ok (.aload_n 2, 1) := by decide +kernel
theorem dL_law_240 : decode cL_law 240 = .ok (.aload_n 0, 1) := by decide +kernel
theorem dL_law_241 : decode cL_law 241 = .ok (.iload_n 3, 1) := by decide +kernel
theorem dL_law_242 : decode cL_law 242 = .ok (.iconst 1, 1) := by decide +kernel
theorem dL_law_243 : decode cL_law 243 = .ok (.iadd, 1) := by decide +kernel
theorem dL_law_244 : decode cL_law 244 = .ok (.iaload, 1) := by decide +kernel
theorem dL_law_245 : decode cL_law 245 = .ok (.aload_n 0, 1) := by decide +kernel
theorem dL_law_246 : decode cL_law 246 = .ok (.iload_n 3, 1) := by decide +kernel
theorem dL_law_247 : decode cL_law 247 = .ok (.iconst 2, 1) := by decide +kernel
theorem dL_law_248 : decode cL_law 248 = .ok (.iadd, 1) := by decide +kernel
theorem dL_law_249 : decode cL_law 249 = .ok (.iaload, 1) := by decide +kernel
theorem dL_law_250 : decode cL_law 250 = .ok (.aload_n 0, 1) := by decide +kernel
theorem dL_law_251 : decode cL_law 251 = .ok (.iload_n 3, 1) := by decide +kernel
theorem dL_law_252 : decode cL_law 252 = .ok (.iconst 3, 1) := by decide +kernel
theorem dL_law_253 : decode cL_law 253 = .ok (.iadd, 1) := by decide +kernel
theorem dL_law_254 : decode cL_law 254 = .ok (.iaload, 1) := by decide +kernel
theorem dL_law_255 : decode cL_law 255 = .ok (.invokevirtual 35, 3) := by decide +kernel
theorem dL_law_258 : decode cL_law 258 = .ok (.if_icmp .eq 160, 3) := by decide +kernel
theorem dL_law_261 : decode cL_law 261 = .ok (.iconst 0, 1) := by decide +kernel
theorem dL_law_262 : decode cL_law 262 = .ok (.ireturn, 1) := by decide +kernel
theorem dL_law_263 : decode cL_law 263 = .ok (.aload_n 1, 1) := by decide +kernel
theorem dL_law_264 : decode cL_law 264 = .ok (.aload_n 0, 1) := by decide +kernel
theorem dL_law_265 : decode cL_law 265 = .ok (.iload_n 3, 1) := by decide +kernel
theorem dL_law_266 : decode cL_law 266 = .ok (.iconst 1, 1) := by decide +kernel
theorem dL_law_267 : decode cL_law 267 = .ok (.iadd, 1) := by decide +kernel
theorem dL_law_268 : decode cL_law 268 = .ok (.iaload, 1) := by decide +kernel
theorem dL_law_269 : decode cL_law 269 = .ok (.i2l, 1) := by decide +kernel
theorem dL_law_270 : decode cL_law 270 = .ok (.bipush 32, 2) := by decide +kernel
theorem dL_law_272 : decode cL_law 272 = .ok (.lshl, 1) := by decide +kernel
theorem dL_law_273 : decode cL_law 273 = .ok (.aload_n 0, 1) := by decide +kernel
theorem dL_law_274 : decode cL_law 274 = .ok (.iload_n 3, 1) := by decide +kernel
theorem dL_law_275 : decode cL_law 275 = .ok (.iconst 2, 1) := by decide +kernel
theorem dL_law_276 : decode cL_law 276 = .ok (.iadd, 1) := by decide +kernel
theorem dL_law_277 : decode cL_law 277 = .ok (.iaload, 1) := by decide +kernel
theorem dL_law_278 : decode cL_law 278 = .ok (.i2l, 1) := by decide +kernel
theorem dL_law_279 : decode cL_law 279 = .ok (.ldc2_w 36, 3) := by decide +kernel
theorem dL_law_282 : decode cL_law 282 = .ok (.land, 1) := by decide +kernel
theorem dL_law_283 : decode cL_law 283 = .ok (.lor, 1) := by decide +kernel
theorem dL_law_284 : decode cL_law 284 = .ok (.invokevirtual 38, 3) := by decide +kernel
theorem dL_law_287 : decode cL_law 287 = .ok (.aload_n 2, 1) := by decide +kernel
theorem dL_law_288 : decode cL_law 288 = .ok (.aload_n 0, 1) := by decide +kernel
theorem dL_law_289 : decode cL_law 289 = .ok (.iload_n 3, 1) := by decide +kernel
theorem dL_law_290 : decode cL_law 290 = .ok (.iconst 1, 1) := by decide +kernel
theorem dL_law_291 : decode cL_law 291 = .ok (.iadd, 1) := by decide +kernel
theorem dL_law_292 : decode cL_law 292 = .ok (.iaload, 1) := by decide +kernel
theorem dL_law_293 : decode cL_law 293 = .ok (.i2l, 1) := by decide +kernel
theorem dL_law_294 : decode cL_law 294 = .ok (.bipush 32, 2) := by decide +kernel
theorem dL_law_296 : decode cL_law 296 = .ok (.lshl, 1) := by decide +kernel
theorem dL_law_297 : decode cL_law 297 = .ok (.aload_n 0, 1) := by decide +kernel
theorem dL_law_298 : decode cL_law 298 = .ok (.iload_n 3, 1) := by decide +kernel
theorem dL_law_299 : decode cL_law 299 = .ok (.iconst 2, 1) := by decide +kernel
theorem dL_law_300 : decode cL_law 300 = .ok (.iadd, 1) := by decide +kernel
theorem dL_law_301 : decode cL_law 301 = .ok (.iaload, 1) := by decide +kernel
theorem dL_law_302 : decode cL_law 302 = .ok (.i2l, 1) := by decide +kernel
theorem dL_law_303 : decode cL_law 303 = .ok (.ldc2_w 36, 3) := by decide +kernel
theorem dL_law_306 : decode cL_law 306 = .ok (.land, 1) := by decide +kernel
theorem dL_law_307 : decode cL_law 307 = .ok (.lor, 1) := by decide +kernel
theorem dL_law_308 : decode cL_law 308 = .ok (.invokevirtual 42, 3) := by decide +kernel
theorem dL_law_311 : decode cL_law 311 = .ok (.if_icmp .eq 107, 3) := by decide +kernel
theorem dL_law_314 : decode cL_law 314 = .ok (.iconst 0, 1) := by decide +kernel
theorem dL_law_315 : decode cL_law 315 = .ok (.ireturn, 1) := by decide +kernel
theorem dL_law_316 : decode cL_law 316 = .ok (.aload_n 1, 1) := by decide +kernel
theorem dL_law_317 : decode cL_law 317 = .ok (.aload_n 0, 1) := by decide +kernel
theorem dL_law_318 : decode cL_law 318 = .ok (.iload_n 3, 1) := by decide +kernel
theorem dL_law_319 : decode cL_law 319 = .ok (.iconst 1, 1) := by decide +kernel
theorem dL_law_320 : decode cL_law 320 = .ok (.iadd, 1) := by decide +kernel
theorem dL_law_321 : decode cL_law 321 = .ok (.iaload, 1) := by decide +kernel
theorem dL_law_322 : decode cL_law 322 = .ok (.aload_n 0, 1) := by decide +kernel
theorem dL_law_323 : decode cL_law 323 = .ok (.iload_n 3, 1) := by decide +kernel
theorem dL_law_324 : decode cL_law 324 = .ok (.iconst 2, 1) := by decide +kernel
theorem dL_law_325 : decode cL_law 325 = .ok (.iadd, 1) := by decide +kernel
theorem dL_law_326 : decode cL_law 326 = .ok (.iaload, 1) := by decide +kernel
theorem dL_law_327 : decode cL_law 327 = .ok (.invokevirtual 43, 3) := by decide +kernel
theorem dL_law_330 : decode cL_law 330 = .ok (.aload_n 2, 1) := by decide +kernel
theorem dL_law_331 : decode cL_law 331 = .ok (.aload_n 0, 1) := by decide +kernel
theorem dL_law_332 : decode cL_law 332 = .ok (.iload_n 3, 1) := by decide +kernel
theorem dL_law_333 : decode cL_law 333 = .ok (.iconst 1, 1) := by decide +kernel
theorem dL_law_334 : decode cL_law 334 = .ok (.iadd, 1) := by decide +kernel
theorem dL_law_335 : decode cL_law 335 = .ok (.iaload, 1) := by decide +kernel
theorem dL_law_336 : decode cL_law 336 = .ok (.aload_n 0, 1) := by decide +kernel
theorem dL_law_337 : decode cL_law 337 = .ok (.iload_n 3, 1) := by decide +kernel
theorem dL_law_338 : decode cL_law 338 = .ok (.iconst 2, 1) := by decide +kernel
theorem dL_law_339 : decode cL_law 339 = .ok (.iadd, 1) := by decide +kernel
theorem dL_law_340 : decode cL_law 340 = .ok (.iaload, 1) := by decide +kernel
theorem dL_law_341 : decode cL_law 341 = .ok (.invokevirtual 46, 3) := by decide +kernel
theorem dL_law_344 : decode cL_law 344 = .ok (.if_icmp .eq 74, 3) := by decide +kernel
theorem dL_law_347 : decode cL_law 347 = .ok (.iconst 0, 1) := by decide +kernel
theorem dL_law_348 : decode cL_law 348 = .ok (.ireturn, 1) := by decide +kernel
theorem dL_law_349 : decode cL_law 349 = .ok (.aload_n 1, 1) := by decide +kernel
theorem dL_law_350 : decode cL_law 350 = .ok (.aload_n 0, 1) := by decide +kernel
theorem dL_law_351 : decode cL_law 351 = .ok (.iload_n 3, 1) := by decide +kernel
theorem dL_law_352 : decode cL_law 352 = .ok (.iconst 1, 1) := by decide +kernel
theorem dL_law_353 : decode cL_law 353 = .ok (.iadd, 1) := by decide +kernel
theorem dL_law_354 : decode cL_law 354 = .ok (.iaload, 1) := by decide +kernel
theorem dL_law_355 : decode cL_law 355 = .ok (.invokevirtual 47, 3) := by decide +kernel
theorem dL_law_358 : decode cL_law 358 = .ok (.aload_n 2, 1) := by decide +kernel
theorem dL_law_359 : decode cL_law 359 = .ok (.aload_n 0, 1) := by decide +kernel
theorem dL_law_360 : decode cL_law 360 = .ok (.iload_n 3, 1) := by decide +kernel
theorem dL_law_361 : decode cL_law 361 = .ok (.iconst 1, 1) := by decide +kernel
theorem dL_law_362 : decode cL_law 362 = .ok (.iadd, 1) := by decide +kernel
theorem dL_law_363 : decode cL_law 363 = .ok (.iaload, 1) := by decide +kernel
theorem dL_law_364 : decode cL_law 364 = .ok (.invokevirtual 50, 3) := by decide +kernel
theorem dL_law_367 : decode cL_law 367 = .ok (.if_icmp .eq 51, 3) := by decide +kernel
theorem dL_law_370 : decode cL_law 370 = .ok (.iconst 0, 1) := by decide +kernel
theorem dL_law_371 : decode cL_law 371 = .ok (.ireturn, 1) := by decide +kernel
theorem dL_law_372 : decode cL_law 372 = .ok (.aload_n 1, 1) := by decide +kernel
theorem dL_law_373 : decode cL_law 373 = .ok (.aload_n 0, 1) := by decide +kernel
theorem dL_law_374 : decode cL_law 374 = .ok (.iload_n 3, 1) := by decide +kernel
theorem dL_law_375 : decode cL_law 375 = .ok (.iconst 1, 1) := by decide +kernel
theorem dL_law_376 : decode cL_law 376 = .ok (.iadd, 1) := by decide +kernel
theorem dL_law_377 : decode cL_law 377 = .ok (.iaload, 1) := by decide +kernel
theorem dL_law_378 : decode cL_law 378 = .ok (.invokevirtual 51, 3) := by decide +kernel
theorem dL_law_381 : decode cL_law 381 = .ok (.aload_n 2, 1) := by decide +kernel
theorem dL_law_382 : decode cL_law 382 = .ok (.aload_n 0, 1) := by decide +kernel
theorem dL_law_383 : decode cL_law 383 = .ok (.iload_n 3, 1) := by decide +kernel
theorem dL_law_384 : decode cL_law 384 = .ok (.iconst 1, 1) := by decide +kernel
theorem dL_law_385 : decode cL_law 385 = .ok (.iadd, 1) := by decide +kernel
theorem dL_law_386 : decode cL_law 386 = .ok (.iaload, 1) := by decide +kernel
theorem dL_law_387 : decode cL_law 387 = .ok (.invokevirtual 54, 3) := by decide +kernel
theorem dL_law_390 : decode cL_law 390 = .ok (.if_icmp .eq 28, 3) := by decide +kernel
theorem dL_law_393 : decode cL_law 393 = .ok (.iconst 0, 1) := by decide +kernel
theorem dL_law_394 : decode cL_law 394 = .ok (.ireturn, 1) := by decide +kernel
theorem dL_law_395 : decode cL_law 395 = .ok (.aload_n 1, 1) := by decide +kernel
theorem dL_law_396 : decode cL_law 396 = .ok (.aload_n 0, 1) := by decide +kernel
theorem dL_law_397 : decode cL_law 397 = .ok (.iload_n 3, 1) := by decide +kernel
theorem dL_law_398 : decode cL_law 398 = .ok (.iconst 1, 1) := by decide +kernel
theorem dL_law_399 : decode cL_law 399 = .ok (.iadd, 1) := by decide +kernel
theorem dL_law_400 : decode cL_law 400 = .ok (.iaload, 1) := by decide +kernel
theorem dL_law_401 : decode cL_law 401 = .ok (.invokevirtual 55, 3) := by decide +kernel
theorem dL_law_404 : decode cL_law 404 = .ok (.aload_n 2, 1) := by decide +kernel
theorem dL_law_405 : decode cL_law 405 = .ok (.aload_n 0, 1) := by decide +kernel
theorem dL_law_406 : decode cL_law 406 = .ok (.iload_n 3, 1) := by decide +kernel
theorem dL_law_407 : decode cL_law 407 = .ok (.iconst 1, 1) := by decide +kernel
theorem dL_law_408 : decode cL_law 408 = .ok (.iadd, 1) := by decide +kernel
theorem dL_law_409 : decode cL_law 409 = .ok (.iaload, 1) := by decide +kernel
theorem dL_law_410 : decode cL_law 410 = .ok (.invokevirtual 58, 3) := by decide +kernel
theorem dL_law_413 : decode cL_law 413 = .ok (.if_icmp .eq 5, 3) := by decide +kernel
theorem dL_law_416 : decode cL_law 416 = .ok (.iconst 0, 1) := by decide +kernel
theorem dL_law_417 : decode cL_law 417 = .ok (.ireturn, 1) := by decide +kernel
theorem dL_law_418 : decode cL_law 418 = .ok (.iinc 3 4, 3) := by decide +kernel
theorem dL_law_421 : decode cL_law 421 = .ok (.goto (-403), 3) := by decide +kernel
theorem dL_law_424 : decode cL_law 424 = .ok (.iconst 1, 1) := by decide +kernel
theorem dL_law_425 : decode cL_law 425 = .ok (.ireturn, 1) := by decide +kernel
abbrev vwCl : List vw_C := [(RX0, TX0, 9), (RX1, TX1, 12), (RX2, TX2, 20)]
