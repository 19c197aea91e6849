section
-- ===== PART A: goes FIRST, ahead of the names: the tables' words, and 'selects' of the private methods out of them =====
/-- a private method of a class that the tables say can be made, by its rows of tables_1 -/
def lw_okq (q : MethodName × Nat) : Prop := (q.1.cls ≠ "java/lang/invoke/MethodHandle" ∧ q.1.cls ≠ "java/lang/invoke/VarHandle") ∧ Cond.instantiable q.1.cls q.2 ∈ tables_1 ∧ Cond.privateMethod q.1 ∈ tables_1 ∧ Cond.instanceMethod q.1 ∈ tables_1
theorem lw_p0 : lw_okq (⟨"GateHalls", "walkTo", "(IIII)I"⟩, 12) := ⟨⟨by decide +kernel, by decide +kernel⟩, List.mem_of_getElem? (i := 7) (by decide +kernel), List.mem_of_getElem? (i := 121) (by decide +kernel), List.mem_of_getElem? (i := 122) (by decide +kernel)⟩
theorem lw_p1 : lw_okq (⟨"GateHalls", "findPath", "(I)I"⟩, 12) := ⟨⟨by decide +kernel, by decide +kernel⟩, List.mem_of_getElem? (i := 7) (by decide +kernel), List.mem_of_getElem? (i := 125) (by decide +kernel), List.mem_of_getElem? (i := 126) (by decide +kernel)⟩
theorem lw_p2 : lw_okq (⟨"GateHalls", "passPath", "(I)I"⟩, 12) := ⟨⟨by decide +kernel, by decide +kernel⟩, List.mem_of_getElem? (i := 7) (by decide +kernel), List.mem_of_getElem? (i := 129) (by decide +kernel), List.mem_of_getElem? (i := 130) (by decide +kernel)⟩
theorem lw_p3 : lw_okq (⟨"GateHalls", "hallAt", "(I)LGateHalls$Hall;"⟩, 12) := ⟨⟨by decide +kernel, by decide +kernel⟩, List.mem_of_getElem? (i := 7) (by decide +kernel), List.mem_of_getElem? (i := 133) (by decide +kernel), List.mem_of_getElem? (i := 134) (by decide +kernel)⟩
theorem lw_p4 : lw_okq (⟨"GateHalls", "passInto", "(LGateHalls$Hall;)I"⟩, 12) := ⟨⟨by decide +kernel, by decide +kernel⟩, List.mem_of_getElem? (i := 7) (by decide +kernel), List.mem_of_getElem? (i := 137) (by decide +kernel), List.mem_of_getElem? (i := 138) (by decide +kernel)⟩
theorem lw_p5 : lw_okq (⟨"GateHalls$Hall", "enter", "()V"⟩, 9) := ⟨⟨by decide +kernel, by decide +kernel⟩, List.mem_of_getElem? (i := 64) (by decide +kernel), List.mem_of_getElem? (i := 141) (by decide +kernel), List.mem_of_getElem? (i := 142) (by decide +kernel)⟩
theorem lw_p6 : lw_okq (⟨"GateHalls$Hall", "mark", "()I"⟩, 9) := ⟨⟨by decide +kernel, by decide +kernel⟩, List.mem_of_getElem? (i := 64) (by decide +kernel), List.mem_of_getElem? (i := 149) (by decide +kernel), List.mem_of_getElem? (i := 150) (by decide +kernel)⟩
theorem lw_p7 : lw_okq (⟨"GateHalls", "leaveMark", "(I)V"⟩, 12) := ⟨⟨by decide +kernel, by decide +kernel⟩, List.mem_of_getElem? (i := 7) (by decide +kernel), List.mem_of_getElem? (i := 153) (by decide +kernel), List.mem_of_getElem? (i := 154) (by decide +kernel)⟩
theorem lw_p8 : lw_okq (⟨"GateHalls$Hall", "guardIsInTheWay", "()Z"⟩, 9) := ⟨⟨by decide +kernel, by decide +kernel⟩, List.mem_of_getElem? (i := 64) (by decide +kernel), List.mem_of_getElem? (i := 157) (by decide +kernel), List.mem_of_getElem? (i := 158) (by decide +kernel)⟩
theorem lw_p9 : lw_okq (⟨"GateHalls$Hall", "charge", "()I"⟩, 9) := ⟨⟨by decide +kernel, by decide +kernel⟩, List.mem_of_getElem? (i := 64) (by decide +kernel), List.mem_of_getElem? (i := 161) (by decide +kernel), List.mem_of_getElem? (i := 162) (by decide +kernel)⟩
theorem lw_p10 : lw_okq (⟨"GateHalls", "doDeed", "(III)I"⟩, 12) := ⟨⟨by decide +kernel, by decide +kernel⟩, List.mem_of_getElem? (i := 7) (by decide +kernel), List.mem_of_getElem? (i := 165) (by decide +kernel), List.mem_of_getElem? (i := 166) (by decide +kernel)⟩
theorem lw_p11 : lw_okq (⟨"GateHalls", "innermost", "()LGateHalls$Hall;"⟩, 12) := ⟨⟨by decide +kernel, by decide +kernel⟩, List.mem_of_getElem? (i := 7) (by decide +kernel), List.mem_of_getElem? (i := 169) (by decide +kernel), List.mem_of_getElem? (i := 170) (by decide +kernel)⟩
theorem lw_p12 : lw_okq (⟨"GateHalls", "takeGifts", "(LGateHalls$Hall;)I"⟩, 12) := ⟨⟨by decide +kernel, by decide +kernel⟩, List.mem_of_getElem? (i := 7) (by decide +kernel), List.mem_of_getElem? (i := 173) (by decide +kernel), List.mem_of_getElem? (i := 174) (by decide +kernel)⟩
theorem lw_p13 : lw_okq (⟨"GateHalls", "addToPurse", "(I)I"⟩, 12) := ⟨⟨by decide +kernel, by decide +kernel⟩, List.mem_of_getElem? (i := 7) (by decide +kernel), List.mem_of_getElem? (i := 177) (by decide +kernel), List.mem_of_getElem? (i := 178) (by decide +kernel)⟩
theorem lw_p14 : lw_okq (⟨"GateHalls", "walkOn", "(II)I"⟩, 12) := ⟨⟨by decide +kernel, by decide +kernel⟩, List.mem_of_getElem? (i := 7) (by decide +kernel), List.mem_of_getElem? (i := 188) (by decide +kernel), List.mem_of_getElem? (i := 189) (by decide +kernel)⟩
theorem lw_p15 : lw_okq (⟨"GateHalls", "leaveUntil", "(I)V"⟩, 12) := ⟨⟨by decide +kernel, by decide +kernel⟩, List.mem_of_getElem? (i := 7) (by decide +kernel), List.mem_of_getElem? (i := 192) (by decide +kernel), List.mem_of_getElem? (i := 193) (by decide +kernel)⟩
def lw_privs_1 : List (MethodName × Nat) := [(⟨"GateHalls", "walkTo", "(IIII)I"⟩, 12), (⟨"GateHalls", "findPath", "(I)I"⟩, 12), (⟨"GateHalls", "passPath", "(I)I"⟩, 12), (⟨"GateHalls", "hallAt", "(I)LGateHalls$Hall;"⟩, 12), (⟨"GateHalls", "passInto", "(LGateHalls$Hall;)I"⟩, 12), (⟨"GateHalls$Hall", "enter", "()V"⟩, 9), (⟨"GateHalls$Hall", "mark", "()I"⟩, 9), (⟨"GateHalls", "leaveMark", "(I)V"⟩, 12), (⟨"GateHalls$Hall", "guardIsInTheWay", "()Z"⟩, 9), (⟨"GateHalls$Hall", "charge", "()I"⟩, 9), (⟨"GateHalls", "doDeed", "(III)I"⟩, 12), (⟨"GateHalls", "innermost", "()LGateHalls$Hall;"⟩, 12), (⟨"GateHalls", "takeGifts", "(LGateHalls$Hall;)I"⟩, 12), (⟨"GateHalls", "addToPurse", "(I)I"⟩, 12), (⟨"GateHalls", "walkOn", "(II)I"⟩, 12), (⟨"GateHalls", "leaveUntil", "(I)V"⟩, 12)]
theorem lw_r1 : ∀ q ∈ lw_privs_1, lw_okq q := List.forall_mem_cons.mpr ⟨lw_p0, List.forall_mem_cons.mpr ⟨lw_p1, List.forall_mem_cons.mpr ⟨lw_p2, List.forall_mem_cons.mpr ⟨lw_p3, List.forall_mem_cons.mpr ⟨lw_p4, List.forall_mem_cons.mpr ⟨lw_p5, List.forall_mem_cons.mpr ⟨lw_p6, List.forall_mem_cons.mpr ⟨lw_p7, List.forall_mem_cons.mpr ⟨lw_p8, List.forall_mem_cons.mpr ⟨lw_p9, List.forall_mem_cons.mpr ⟨lw_p10, List.forall_mem_cons.mpr ⟨lw_p11, List.forall_mem_cons.mpr ⟨lw_p12, List.forall_mem_cons.mpr ⟨lw_p13, List.forall_mem_cons.mpr ⟨lw_p14, List.forall_mem_cons.mpr ⟨lw_p15, fun _ h => absurd h List.not_mem_nil⟩⟩⟩⟩⟩⟩⟩⟩⟩⟩⟩⟩⟩⟩⟩⟩
theorem lw_p16 : lw_okq (⟨"GateHalls", "seekPartner", "(ILGateHalls$Hall;J)I"⟩, 12) := ⟨⟨by decide +kernel, by decide +kernel⟩, List.mem_of_getElem? (i := 7) (by decide +kernel), List.mem_of_getElem? (i := 200) (by decide +kernel), List.mem_of_getElem? (i := 201) (by decide +kernel)⟩
theorem lw_p17 : lw_okq (⟨"GateHalls$Hall", "fact", "(I)I"⟩, 9) := ⟨⟨by decide +kernel, by decide +kernel⟩, List.mem_of_getElem? (i := 64) (by decide +kernel), List.mem_of_getElem? (i := 208) (by decide +kernel), List.mem_of_getElem? (i := 209) (by decide +kernel)⟩
theorem lw_p18 : lw_okq (⟨"GateHalls", "placesWithHall", "()I"⟩, 12) := ⟨⟨by decide +kernel, by decide +kernel⟩, List.mem_of_getElem? (i := 7) (by decide +kernel), List.mem_of_getElem? (i := 224) (by decide +kernel), List.mem_of_getElem? (i := 225) (by decide +kernel)⟩
theorem lw_p19 : lw_okq (⟨"GateHallsModel", "goTo", "(I)I"⟩, 20) := ⟨⟨by decide +kernel, by decide +kernel⟩, List.mem_of_getElem? (i := 228) (by decide +kernel), List.mem_of_getElem? (i := 319) (by decide +kernel), List.mem_of_getElem? (i := 320) (by decide +kernel)⟩
theorem lw_p20 : lw_okq (⟨"GateHallsModel", "pass", "(I)I"⟩, 20) := ⟨⟨by decide +kernel, by decide +kernel⟩, List.mem_of_getElem? (i := 228) (by decide +kernel), List.mem_of_getElem? (i := 323) (by decide +kernel), List.mem_of_getElem? (i := 324) (by decide +kernel)⟩
theorem lw_p21 : lw_okq (⟨"GateHallsModel", "leave", "(I)V"⟩, 20) := ⟨⟨by decide +kernel, by decide +kernel⟩, List.mem_of_getElem? (i := 228) (by decide +kernel), List.mem_of_getElem? (i := 327) (by decide +kernel), List.mem_of_getElem? (i := 328) (by decide +kernel)⟩
theorem lw_p22 : lw_okq (⟨"GateHallsModel", "charge", "(I)I"⟩, 20) := ⟨⟨by decide +kernel, by decide +kernel⟩, List.mem_of_getElem? (i := 228) (by decide +kernel), List.mem_of_getElem? (i := 331) (by decide +kernel), List.mem_of_getElem? (i := 332) (by decide +kernel)⟩
theorem lw_p23 : lw_okq (⟨"GateHallsModel", "does", "(II)I"⟩, 20) := ⟨⟨by decide +kernel, by decide +kernel⟩, List.mem_of_getElem? (i := 228) (by decide +kernel), List.mem_of_getElem? (i := 335) (by decide +kernel), List.mem_of_getElem? (i := 336) (by decide +kernel)⟩
theorem lw_p24 : lw_okq (⟨"GateHallsModel", "rich", "(J)I"⟩, 20) := ⟨⟨by decide +kernel, by decide +kernel⟩, List.mem_of_getElem? (i := 228) (by decide +kernel), List.mem_of_getElem? (i := 339) (by decide +kernel), List.mem_of_getElem? (i := 340) (by decide +kernel)⟩
theorem lw_p25 : lw_okq (⟨"GateHallsModel", "goesOn", "(I)I"⟩, 20) := ⟨⟨by decide +kernel, by decide +kernel⟩, List.mem_of_getElem? (i := 228) (by decide +kernel), List.mem_of_getElem? (i := 347) (by decide +kernel), List.mem_of_getElem? (i := 348) (by decide +kernel)⟩
theorem lw_p26 : lw_okq (⟨"GateHallsModel", "leaveTo", "(I)V"⟩, 20) := ⟨⟨by decide +kernel, by decide +kernel⟩, List.mem_of_getElem? (i := 228) (by decide +kernel), List.mem_of_getElem? (i := 351) (by decide +kernel), List.mem_of_getElem? (i := 352) (by decide +kernel)⟩
def lw_privs_2 : List (MethodName × Nat) := [(⟨"GateHalls", "seekPartner", "(ILGateHalls$Hall;J)I"⟩, 12), (⟨"GateHalls$Hall", "fact", "(I)I"⟩, 9), (⟨"GateHalls", "placesWithHall", "()I"⟩, 12), (⟨"GateHallsModel", "goTo", "(I)I"⟩, 20), (⟨"GateHallsModel", "pass", "(I)I"⟩, 20), (⟨"GateHallsModel", "leave", "(I)V"⟩, 20), (⟨"GateHallsModel", "charge", "(I)I"⟩, 20), (⟨"GateHallsModel", "does", "(II)I"⟩, 20), (⟨"GateHallsModel", "rich", "(J)I"⟩, 20), (⟨"GateHallsModel", "goesOn", "(I)I"⟩, 20), (⟨"GateHallsModel", "leaveTo", "(I)V"⟩, 20)]
theorem lw_r2 : ∀ q ∈ lw_privs_2, lw_okq q := List.forall_mem_cons.mpr ⟨lw_p16, List.forall_mem_cons.mpr ⟨lw_p17, List.forall_mem_cons.mpr ⟨lw_p18, List.forall_mem_cons.mpr ⟨lw_p19, List.forall_mem_cons.mpr ⟨lw_p20, List.forall_mem_cons.mpr ⟨lw_p21, List.forall_mem_cons.mpr ⟨lw_p22, List.forall_mem_cons.mpr ⟨lw_p23, List.forall_mem_cons.mpr ⟨lw_p24, List.forall_mem_cons.mpr ⟨lw_p25, List.forall_mem_cons.mpr ⟨lw_p26, fun _ h => absurd h List.not_mem_nil⟩⟩⟩⟩⟩⟩⟩⟩⟩⟩⟩
def lw_privs : List (MethodName × Nat) := lw_privs_1 ++ (lw_privs_2)
def lw_tbl : List Cond := k2_sels lw_privs ++ tables_1
theorem lw_privs_ok : ∀ q ∈ lw_privs, lw_okq q := by
  show ∀ q ∈ lw_privs_1 ++ (lw_privs_2), lw_okq q
  exact List.forall_mem_append.mpr ⟨lw_r1, lw_r2⟩
end
section
/-! ===== BEGIN words of one list among another's, by their places ===== -/
theorem goodIn_r {big : List Cond} (ws : List Cond) (ps : List Nat) (hp : ws = ps.filterMap (fun i => big[i]?)) (h : ws.all goodWord = true) : GoodIn big ws := by
  intro w hw
  have h1 := List.all_eq_true.mp h w hw
  rw [hp] at hw
  obtain ⟨i, -, hi⟩ := List.mem_filterMap.mp hw
  have hm : w ∈ big := by first | exact List.mem_of_getElem? hi | exact List.getElem?_mem hi
  exact ⟨hm, good_of_word h1⟩
theorem goodIn_app {big a b : List Cond} (ha : GoodIn big a) (hb : GoodIn big b) : GoodIn big (a ++ b) := fun w h => (List.mem_append.mp h).elim (ha w) (hb w)
theorem goodIn_ca {big a b : List Cond} {c : Cond} (ha : GoodIn big (c :: a)) (hb : GoodIn big b) : GoodIn big (c :: (a ++ b)) := fun w h => (List.mem_cons.mp h).elim (fun e => ha w (List.mem_cons.mpr (Or.inl e))) (fun h => (List.mem_append.mp h).elim (fun h => ha w (List.mem_cons.mpr (Or.inr h))) (hb w))
theorem goodIn_sub {big ws : List Cond} (hm : ∀ w ∈ ws, w ∈ big) (h : ws.all goodWord = true) : GoodIn big ws := fun w hw => ⟨hm w hw, good_of_word (List.all_eq_true.mp h w hw)⟩
/-! ===== END ===== -/

/-! ===== BEGIN printed: names, fields, word lists, decode rows ===== -/
def RX0 : String := "GateHalls$Hall"
def TX0 : u_T := fun k => match k with
  | 0 => ("GateHalls$Hall", "number", "I", true)
  | 1 => ("GateHalls$Hall", "kind", "I", true)
  | 2 => ("GateHalls$Hall", "fee", "I", true)
  | 3 => ("GateHalls$Hall", "gifts", "I", false)
  | 4 => ("GateHalls$Hall", "passes", "I", false)
  | 5 => ("GateHalls$Hall", "asks", "I", false)
  | 6 => ("GateHalls$Hall", "paid", "I", false)
  | 7 => ("GateHalls$Hall", "inside", "I", false)
  | _ => ("GateHalls$Hall", "most", "I", false)
def tyX0 : Nat → FieldType := fun k => match k with
  | 0 => .int
  | 1 => .int
  | 2 => .int
  | 3 => .int
  | 4 => .int
  | 5 => .int
  | 6 => .int
  | 7 => .int
  | _ => .int
abbrev wsX00 : List Cond := u_ws RX0 TX0 9
theorem nmX0 : ∀ a, a < 9 → ∀ b, b < 9 → a ≠ b → (TX0 a).2.1 ≠ (TX0 b).2.1 := by decide +kernel
theorem tyX0_ok : ∀ k, k < 9 → parseFieldDescriptor (TX0 k).2.2.1 = some (tyX0 k) := by decide +kernel
abbrev cX0_init : ByteArray := prog_2_method_1_code
def yX0_init : MethodName := ⟨RX0, "<init>", "(III)V"⟩
abbrev cX0_enter : ByteArray := prog_2_method_2_code
def yX0_enter : MethodName := ⟨RX0, "enter", "()V"⟩
abbrev cX0_guardIsInTheWay : ByteArray := prog_2_method_3_code
def yX0_guardIsInTheWay : MethodName := ⟨RX0, "guardIsInTheWay", "()Z"⟩
abbrev cX0_charge : ByteArray := prog_2_method_4_code
def yX0_charge : MethodName := ⟨RX0, "charge", "()I"⟩
abbrev cX0_mark : ByteArray := prog_2_method_5_code
def yX0_mark : MethodName := ⟨RX0, "mark", "()I"⟩
abbrev cX0_fact : ByteArray := prog_2_method_6_code
def yX0_fact : MethodName := ⟨RX0, "fact", "(I)I"⟩
def RX1 : String := "GateHalls"
def TX1 : u_T := fun k => match k with
  | 0 => ("GateHalls", "halls", "[LGateHalls$Hall;", true)
  | 1 => ("GateHalls", "parents", "[I", true)
  | 2 => ("GateHalls", "purse", "I", false)
  | 3 => ("GateHalls", "hallsMade", "I", false)
  | 4 => ("GateHalls", "path", "[I", true)
  | 5 => ("GateHalls", "passed", "[LGateHalls$Hall;", true)
  | 6 => ("GateHalls", "depth", "I", false)
  | 7 => ("GateHalls", "deepest", "I", false)
  | 8 => ("GateHalls", "marks", "[I", true)
  | 9 => ("GateHalls", "marksLeft", "I", false)
  | 10 => ("GateHalls", "latestFailure", "I", false)
  | _ => ("GateHalls", "walksBegun", "I", false)
def tyX1 : Nat → FieldType := fun k => match k with
  | 0 => .array (.object "GateHalls$Hall")
  | 1 => .array .int
  | 2 => .int
  | 3 => .int
  | 4 => .array .int
  | 5 => .array (.object "GateHalls$Hall")
  | 6 => .int
  | 7 => .int
  | 8 => .array .int
  | 9 => .int
  | 10 => .int
  | _ => .int
abbrev wsX10 : List Cond := u_ws RX1 TX1 12
theorem nmX1 : ∀ a, a < 12 → ∀ b, b < 12 → a ≠ b → (TX1 a).2.1 ≠ (TX1 b).2.1 := by decide +kernel
theorem tyX1_ok : ∀ k, k < 12 → parseFieldDescriptor (TX1 k).2.2.1 = some (tyX1 k) := by decide +kernel
abbrev cX1_init : ByteArray := prog_1_method_1_code
def yX1_init : MethodName := ⟨RX1, "<init>", "()V"⟩
abbrev cX1_hall : ByteArray := prog_1_method_2_code
def yX1_hall : MethodName := ⟨RX1, "hall", "(III)I"⟩
abbrev cX1_share : ByteArray := prog_1_method_3_code
def yX1_share : MethodName := ⟨RX1, "share", "(II)I"⟩
abbrev cX1_parent : ByteArray := prog_1_method_4_code
def yX1_parent : MethodName := ⟨RX1, "parent", "(II)I"⟩
abbrev cX1_fill : ByteArray := prog_1_method_5_code
def yX1_fill : MethodName := ⟨RX1, "fill", "(I)I"⟩
abbrev cX1_walk : ByteArray := prog_1_method_6_code
def yX1_walk : MethodName := ⟨RX1, "walk", "(III)I"⟩
abbrev cX1_seek : ByteArray := prog_1_method_7_code
def yX1_seek : MethodName := ⟨RX1, "seek", "(J)I"⟩
abbrev cX1_told : ByteArray := prog_1_method_8_code
def yX1_told : MethodName := ⟨RX1, "told", "(II)I"⟩
abbrev cX1_gifts : ByteArray := prog_1_method_9_code
def yX1_gifts : MethodName := ⟨RX1, "gifts", "(I)I"⟩
abbrev cX1_trace : ByteArray := prog_1_method_10_code
def yX1_trace : MethodName := ⟨RX1, "trace", "(I)I"⟩
abbrev cX1_count : ByteArray := prog_1_method_11_code
def yX1_count : MethodName := ⟨RX1, "count", "(I)I"⟩
abbrev cX1_isPlace : ByteArray := prog_1_method_12_code
def yX1_isPlace : MethodName := ⟨RX1, "isPlace", "(I)Z"⟩
abbrev cX1_hallAt : ByteArray := prog_1_method_13_code
def yX1_hallAt : MethodName := ⟨RX1, "hallAt", "(I)LGateHalls$Hall;"⟩
abbrev cX1_placesWithHall : ByteArray := prog_1_method_14_code
def yX1_placesWithHall : MethodName := ⟨RX1, "placesWithHall", "()I"⟩
abbrev cX1_seekPartner : ByteArray := prog_1_method_15_code
def yX1_seekPartner : MethodName := ⟨RX1, "seekPartner", "(ILGateHalls$Hall;J)I"⟩
abbrev cX1_walkTo : ByteArray := prog_1_method_16_code
def yX1_walkTo : MethodName := ⟨RX1, "walkTo", "(IIII)I"⟩
abbrev cX1_findPath : ByteArray := prog_1_method_17_code
def yX1_findPath : MethodName := ⟨RX1, "findPath", "(I)I"⟩
abbrev cX1_passPath : ByteArray := prog_1_method_18_code
def yX1_passPath : MethodName := ⟨RX1, "passPath", "(I)I"⟩
abbrev cX1_passInto : ByteArray := prog_1_method_19_code
def yX1_passInto : MethodName := ⟨RX1, "passInto", "(LGateHalls$Hall;)I"⟩
abbrev cX1_leaveUntil : ByteArray := prog_1_method_20_code
def yX1_leaveUntil : MethodName := ⟨RX1, "leaveUntil", "(I)V"⟩
abbrev cX1_leaveMark : ByteArray := prog_1_method_21_code
def yX1_leaveMark : MethodName := ⟨RX1, "leaveMark", "(I)V"⟩
abbrev cX1_innermost : ByteArray := prog_1_method_22_code
def yX1_innermost : MethodName := ⟨RX1, "innermost", "()LGateHalls$Hall;"⟩
abbrev cX1_doDeed : ByteArray := prog_1_method_23_code
def yX1_doDeed : MethodName := ⟨RX1, "doDeed", "(III)I"⟩
abbrev cX1_takeGifts : ByteArray := prog_1_method_24_code
def yX1_takeGifts : MethodName := ⟨RX1, "takeGifts", "(LGateHalls$Hall;)I"⟩
abbrev cX1_addToPurse : ByteArray := prog_1_method_25_code
def yX1_addToPurse : MethodName := ⟨RX1, "addToPurse", "(I)I"⟩
abbrev cX1_divideGifts : ByteArray := prog_1_method_26_code
def yX1_divideGifts : MethodName := ⟨RX1, "divideGifts", "(LGateHalls$Hall;I)I"⟩
abbrev cX1_walkOn : ByteArray := prog_1_method_27_code
def yX1_walkOn : MethodName := ⟨RX1, "walkOn", "(II)I"⟩
def RX2 : String := "GateHallsModel"
def TX2 : u_T := fun k => match k with
  | 0 => ("GateHallsModel", "halls", "I", false)
  | 1 => ("GateHallsModel", "kinds", "[I", true)
  | 2 => ("GateHallsModel", "fees", "[I", true)
  | 3 => ("GateHallsModel", "gifts", "[I", true)
  | 4 => ("GateHallsModel", "passes", "[I", true)
  | 5 => ("GateHallsModel", "asks", "[I", true)
  | 6 => ("GateHallsModel", "paid", "[I", true)
  | 7 => ("GateHallsModel", "inside", "[I", true)
  | 8 => ("GateHallsModel", "mosts", "[I", true)
  | 9 => ("GateHallsModel", "places", "[I", true)
  | 10 => ("GateHallsModel", "parents", "[I", true)
  | 11 => ("GateHallsModel", "purse", "I", false)
  | 12 => ("GateHallsModel", "traces", "I", false)
  | 13 => ("GateHallsModel", "traced", "[I", true)
  | 14 => ("GateHallsModel", "failure", "I", false)
  | 15 => ("GateHallsModel", "walks", "I", false)
  | 16 => ("GateHallsModel", "deepest", "I", false)
  | 17 => ("GateHallsModel", "within", "I", false)
  | 18 => ("GateHallsModel", "row", "[I", true)
  | _ => ("GateHallsModel", "path", "[I", true)
def tyX2 : Nat → FieldType := fun k => match k with
  | 0 => .int
  | 1 => .array .int
  | 2 => .array .int
  | 3 => .array .int
  | 4 => .array .int
  | 5 => .array .int
  | 6 => .array .int
  | 7 => .array .int
  | 8 => .array .int
  | 9 => .array .int
  | 10 => .array .int
  | 11 => .int
  | 12 => .int
  | 13 => .array .int
  | 14 => .int
  | 15 => .int
  | 16 => .int
  | 17 => .int
  | 18 => .array .int
  | _ => .array .int
abbrev wsX20 : List Cond := u_ws RX2 TX2 20
theorem nmX2 : ∀ a, a < 20 → ∀ b, b < 20 → a ≠ b → (TX2 a).2.1 ≠ (TX2 b).2.1 := by decide +kernel
theorem tyX2_ok : ∀ k, k < 20 → parseFieldDescriptor (TX2 k).2.2.1 = some (tyX2 k) := by decide +kernel
abbrev cX2_init : ByteArray := prog_4_method_1_code
def yX2_init : MethodName := ⟨RX2, "<init>", "()V"⟩
abbrev cX2_in : ByteArray := prog_4_method_2_code
def yX2_in : MethodName := ⟨RX2, "in", "(III)Z"⟩
abbrev cX2_ten : ByteArray := prog_4_method_3_code
def yX2_ten : MethodName := ⟨RX2, "ten", "(I)I"⟩
abbrev cX2_hall : ByteArray := prog_4_method_4_code
def yX2_hall : MethodName := ⟨RX2, "hall", "(III)I"⟩
abbrev cX2_share : ByteArray := prog_4_method_5_code
def yX2_share : MethodName := ⟨RX2, "share", "(II)I"⟩
abbrev cX2_parent : ByteArray := prog_4_method_6_code
def yX2_parent : MethodName := ⟨RX2, "parent", "(II)I"⟩
abbrev cX2_fill : ByteArray := prog_4_method_7_code
def yX2_fill : MethodName := ⟨RX2, "fill", "(I)I"⟩
abbrev cX2_leave : ByteArray := prog_4_method_8_code
def yX2_leave : MethodName := ⟨RX2, "leave", "(I)V"⟩
abbrev cX2_charge : ByteArray := prog_4_method_9_code
def yX2_charge : MethodName := ⟨RX2, "charge", "(I)I"⟩
abbrev cX2_pass : ByteArray := prog_4_method_10_code
def yX2_pass : MethodName := ⟨RX2, "pass", "(I)I"⟩
abbrev cX2_leaveTo : ByteArray := prog_4_method_11_code
def yX2_leaveTo : MethodName := ⟨RX2, "leaveTo", "(I)V"⟩
abbrev cX2_goTo : ByteArray := prog_4_method_12_code
def yX2_goTo : MethodName := ⟨RX2, "goTo", "(I)I"⟩
abbrev cX2_rich : ByteArray := prog_4_method_13_code
def yX2_rich : MethodName := ⟨RX2, "rich", "(J)I"⟩
abbrev cX2_goesOn : ByteArray := prog_4_method_14_code
def yX2_goesOn : MethodName := ⟨RX2, "goesOn", "(I)I"⟩
abbrev cX2_does : ByteArray := prog_4_method_15_code
def yX2_does : MethodName := ⟨RX2, "does", "(II)I"⟩
abbrev cX2_walk : ByteArray := prog_4_method_16_code
def yX2_walk : MethodName := ⟨RX2, "walk", "(III)I"⟩
abbrev cX2_seek : ByteArray := prog_4_method_17_code
def yX2_seek : MethodName := ⟨RX2, "seek", "(J)I"⟩
abbrev cX2_told : ByteArray := prog_4_method_18_code
def yX2_told : MethodName := ⟨RX2, "told", "(II)I"⟩
abbrev cX2_gifts : ByteArray := prog_4_method_19_code
def yX2_gifts : MethodName := ⟨RX2, "gifts", "(I)I"⟩
abbrev cX2_trace : ByteArray := prog_4_method_20_code
def yX2_trace : MethodName := ⟨RX2, "trace", "(I)I"⟩
abbrev cX2_count : ByteArray := prog_4_method_21_code
def yX2_count : MethodName := ⟨RX2, "count", "(I)I"⟩
def RJ9 : String := "java/lang/Math"
def TJ9 : u_T := fun k => match k with
  | _ => ("", "", "", false)
def tyJ9 : Nat → FieldType := fun k => match k with
  | _ => .int
abbrev wsJ90 : List Cond := u_ws RJ9 TJ9 0
theorem nmJ9 : ∀ a, a < 0 → ∀ b, b < 0 → a ≠ b → (TJ9 a).2.1 ≠ (TJ9 b).2.1 := by decide +kernel
theorem tyJ9_ok : ∀ k, k < 0 → parseFieldDescriptor (TJ9 k).2.2.1 = some (tyJ9 k) := by decide +kernel
abbrev cJ9_floorMod_7cf53 : ByteArray := prog_5_method_50_code
def yJ9_floorMod_7cf53 : MethodName := ⟨RJ9, "floorMod", "(II)I"⟩
abbrev cJ9_max_7cf53 : ByteArray := prog_5_method_65_code
def yJ9_max_7cf53 : MethodName := ⟨RJ9, "max", "(II)I"⟩
abbrev cJ9_min_7cf53 : ByteArray := prog_5_method_69_code
def yJ9_min_7cf53 : MethodName := ⟨RJ9, "min", "(II)I"⟩
def RJ7 : String := "java/util/Arrays"
def TJ7 : u_T := fun k => match k with
  | _ => ("", "", "", false)
def tyJ7 : Nat → FieldType := fun k => match k with
  | _ => .int
abbrev wsJ70 : List Cond := u_ws RJ7 TJ7 0
theorem nmJ7 : ∀ a, a < 0 → ∀ b, b < 0 → a ≠ b → (TJ7 a).2.1 ≠ (TJ7 b).2.1 := by decide +kernel
theorem tyJ7_ok : ∀ k, k < 0 → parseFieldDescriptor (TJ7 k).2.2.1 = some (tyJ7 k) := by decide +kernel
abbrev cJ7_fill_53178 : ByteArray := prog_6_method_103_code
def yJ7_fill_53178 : MethodName := ⟨RJ7, "fill", "([II)V"⟩
def RL : String := "GateHallsLaw"
abbrev cL_law : ByteArray := code
def yL_law : MethodName := ⟨RL, "law", "([I)Z"⟩
def wsX0_init : List Cond := .code yX0_init cX0_init 4 none :: ([.methodLink RX0 3 objectInit, .instanceMethod objectInit, .code objectInit ⟨#[0xb1]⟩ 1 none, .fieldLink RX0 9 "GateHalls$Hall" "number" "I", .fieldLink RX0 15 "GateHalls$Hall" "kind" "I", .fieldLink RX0 18 "GateHalls$Hall" "fee" "I"] ++ wsX00)
def wsX0_enter : List Cond := .code yX0_enter cX0_enter 1 none :: ([.fieldLink RX0 21 "GateHalls$Hall" "passes" "I", .fieldLink RX0 24 "GateHalls$Hall" "inside" "I", .fieldLink RX0 27 "GateHalls$Hall" "most" "I", .methodLink RX0 30 Lib.Math.max.name, .static Lib.Math.max.name, .initialized "java/lang/Math", .code Lib.Math.max.name Lib.Math.max.code 2 (some .int)] ++ wsX00)
def wsX0_guardIsInTheWay : List Cond := .code yX0_guardIsInTheWay cX0_guardIsInTheWay 1 (some .boolean) :: ([.fieldLink RX0 15 "GateHalls$Hall" "kind" "I", .fieldLink RX0 21 "GateHalls$Hall" "passes" "I"] ++ wsX00)
def wsX0_charge : List Cond := .code yX0_charge cX0_charge 2 (some .int) :: ([.fieldLink RX0 15 "GateHalls$Hall" "kind" "I", .fieldLink RX0 18 "GateHalls$Hall" "fee" "I", .fieldLink RX0 21 "GateHalls$Hall" "passes" "I"] ++ wsX00)
def wsX0_mark : List Cond := .code yX0_mark cX0_mark 1 (some .int) :: ([.fieldLink RX0 9 "GateHalls$Hall" "number" "I"] ++ wsX00)
def wsX0_fact : List Cond := .code yX0_fact cX0_fact 2 (some .int) :: ([.fieldLink RX0 9 "GateHalls$Hall" "number" "I", .fieldLink RX0 15 "GateHalls$Hall" "kind" "I", .fieldLink RX0 18 "GateHalls$Hall" "fee" "I", .fieldLink RX0 21 "GateHalls$Hall" "passes" "I", .fieldLink RX0 36 "GateHalls$Hall" "asks" "I", .fieldLink RX0 39 "GateHalls$Hall" "paid" "I", .fieldLink RX0 24 "GateHalls$Hall" "inside" "I", .fieldLink RX0 27 "GateHalls$Hall" "most" "I"] ++ wsX00)
def wsJ7_fill_53178 : List Cond := .code yJ7_fill_53178 cJ7_fill_53178 4 none :: ([])
def wsX1_init : List Cond := .code yX1_init cX1_init 1 none :: ([.methodLink RX1 1 objectInit, .instanceMethod objectInit, .code objectInit ⟨#[0xb1]⟩ 1 none, .classLink RX1 9 RX0, .fieldLink RX1 11 "GateHalls" "halls" "[LGateHalls$Hall;", .arrayClass .int, .fieldLink RX1 15 "GateHalls" "parents" "[I", .fieldLink RX1 19 "GateHalls" "path" "[I", .fieldLink RX1 22 "GateHalls" "passed" "[LGateHalls$Hall;", .fieldLink RX1 25 "GateHalls" "marks" "[I", .methodLink RX1 28 yJ7_fill_53178, .static yJ7_fill_53178, .initialized RJ7, .code yJ7_fill_53178 cJ7_fill_53178 4 none] ++ wsX10)
def wsX1_isPlace : List Cond := .code yX1_isPlace cX1_isPlace 1 (some .boolean) :: ([])
def wsX1_hall : List Cond := .code yX1_hall cX1_hall 5 (some .int) :: ([.fieldLink RX1 38 "GateHalls" "hallsMade" "I", .fieldLink RX1 11 "GateHalls" "halls" "[LGateHalls$Hall;", .classLink RX1 9 RX0, .instantiable RX0 9, .initialized RX0, .methodLink RX1 34 yX1_isPlace, .static yX1_isPlace, .initialized RX1, .code yX1_isPlace cX1_isPlace 1 (some .boolean), .instanceMethod yX0_init, .code yX0_init cX0_init 4 none, .methodLink RX0 3 objectInit, .instanceMethod objectInit, .code objectInit ⟨#[0xb1]⟩ 1 none, .fieldLink RX0 9 "GateHalls$Hall" "number" "I", .fieldLink RX0 15 "GateHalls$Hall" "kind" "I", .fieldLink RX0 18 "GateHalls$Hall" "fee" "I"] ++ wsX10 ++ wsX00)
def wsX1_share : List Cond := .code yX1_share cX1_share 3 (some .int) :: ([.fieldLink RX1 11 "GateHalls" "halls" "[LGateHalls$Hall;", .methodLink RX1 34 yX1_isPlace, .static yX1_isPlace, .initialized RX1, .code yX1_isPlace cX1_isPlace 1 (some .boolean)] ++ wsX10)
def wsX1_parent : List Cond := .code yX1_parent cX1_parent 4 (some .int) :: ([.fieldLink RX1 15 "GateHalls" "parents" "[I", .methodLink RX1 34 yX1_isPlace, .static yX1_isPlace, .initialized RX1, .code yX1_isPlace cX1_isPlace 1 (some .boolean)] ++ wsX10)
def wsX1_fill : List Cond := .code yX1_fill cX1_fill 2 (some .int) :: ([.fieldLink RX1 45 "GateHalls" "purse" "I", .constant RX1 48 (1000000), .methodLink RX1 49 Lib.Math.min.name, .static Lib.Math.min.name, .initialized "java/lang/Math", .code Lib.Math.min.name Lib.Math.min.code 2 (some .int)] ++ wsX10)
def wsX1_innermost : List Cond := .code yX1_innermost cX1_innermost 1 (some (.object "GateHalls$Hall")) :: ([.fieldLink RX1 96 "GateHalls" "depth" "I", .fieldLink RX1 22 "GateHalls" "passed" "[LGateHalls$Hall;"] ++ wsX10)
def wsX1_addToPurse : List Cond := .code yX1_addToPurse cX1_addToPurse 4 (some .int) :: ([.fieldLink RX1 45 "GateHalls" "purse" "I", .constantLong RX1 159 (1000000)] ++ wsX10)
def wsX1_takeGifts : List Cond := .code yX1_takeGifts cX1_takeGifts 3 (some .int) :: ([.methodLink RX1 156 yX1_addToPurse, .instanceMethod yX1_addToPurse, .selects RX1 yX1_addToPurse yX1_addToPurse, .initialized RX1, .code yX1_addToPurse cX1_addToPurse 4 (some .int), .fieldLink RX1 45 "GateHalls" "purse" "I", .constantLong RX1 159 (1000000)] ++ wsX00 ++ wsX10)
def wsX1_divideGifts : List Cond := .code yX1_divideGifts cX1_divideGifts 2 (some .int) :: ([] ++ wsX00)
def wsJ9_floorMod_7cf53 : List Cond := .code yJ9_floorMod_7cf53 cJ9_floorMod_7cf53 3 (some .int) :: ([])
def wsX1_findPath : List Cond := .code yX1_findPath cX1_findPath 4 (some .int) :: ([.fieldLink RX1 19 "GateHalls" "path" "[I", .fieldLink RX1 15 "GateHalls" "parents" "[I", .methodLink RX1 34 yX1_isPlace, .static yX1_isPlace, .initialized RX1, .code yX1_isPlace cX1_isPlace 1 (some .boolean)] ++ wsX10)
def wsX1_hallAt : List Cond := .code yX1_hallAt cX1_hallAt 2 (some (.object "GateHalls$Hall")) :: ([.fieldLink RX1 11 "GateHalls" "halls" "[LGateHalls$Hall;", .methodLink RX1 34 yX1_isPlace, .static yX1_isPlace, .initialized RX1, .code yX1_isPlace cX1_isPlace 1 (some .boolean)] ++ wsX10)
def wsX1_leaveMark : List Cond := .code yX1_leaveMark cX1_leaveMark 2 none :: ([.fieldLink RX1 55 "GateHalls" "marksLeft" "I", .fieldLink RX1 25 "GateHalls" "marks" "[I"] ++ wsX10)
def wsX1_passInto_r1 : List Cond := [Cond.fieldLink RX1 96 "GateHalls" "depth" "I", Cond.fieldLink RX1 22 "GateHalls" "passed" "[LGateHalls$Hall;", Cond.fieldLink RX1 58 "GateHalls" "deepest" "I", Cond.methodLink RX1 117 Lib.Math.max.name, Cond.static Lib.Math.max.name, Cond.initialized "java/lang/Math", Cond.code Lib.Math.max.name Lib.Math.max.code 2 (some .int), Cond.fieldLink RX1 45 "GateHalls" "purse" "I", Cond.instanceMethod yX0_enter, Cond.initialized RX0, Cond.selects RX0 yX0_enter yX0_enter, Cond.code yX0_enter cX0_enter 1 none, Cond.fieldLink RX0 21 "GateHalls$Hall" "passes" "I", Cond.fieldLink RX0 24 "GateHalls$Hall" "inside" "I", Cond.fieldLink RX0 27 "GateHalls$Hall" "most" "I", Cond.methodLink RX0 30 Lib.Math.max.name, Cond.instanceMethod yX0_mark, Cond.selects RX0 yX0_mark yX0_mark, Cond.code yX0_mark cX0_mark 1 (some .int), Cond.fieldLink RX0 9 "GateHalls$Hall" "number" "I", Cond.methodLink RX1 123 yX1_leaveMark, Cond.instanceMethod yX1_leaveMark, Cond.selects RX1 yX1_leaveMark yX1_leaveMark, Cond.initialized RX1]
def wsX1_passInto_r2 : List Cond := [Cond.code yX1_leaveMark cX1_leaveMark 2 none, Cond.fieldLink RX1 55 "GateHalls" "marksLeft" "I", Cond.fieldLink RX1 25 "GateHalls" "marks" "[I", Cond.instanceMethod yX0_guardIsInTheWay, Cond.selects RX0 yX0_guardIsInTheWay yX0_guardIsInTheWay, Cond.code yX0_guardIsInTheWay cX0_guardIsInTheWay 1 (some .boolean), Cond.fieldLink RX0 15 "GateHalls$Hall" "kind" "I", Cond.instanceMethod yX0_charge, Cond.selects RX0 yX0_charge yX0_charge, Cond.code yX0_charge cX0_charge 2 (some .int), Cond.fieldLink RX0 18 "GateHalls$Hall" "fee" "I"]
def wsX1_passInto : List Cond := .code yX1_passInto cX1_passInto 3 (some .int) :: ((wsX1_passInto_r1 ++ wsX1_passInto_r2) ++ wsX10 ++ wsX00)
def wsX1_passPath_r1 : List Cond := [Cond.methodLink RX1 49 Lib.Math.min.name, Cond.static Lib.Math.min.name, Cond.initialized "java/lang/Math", Cond.code Lib.Math.min.name Lib.Math.min.code 2 (some .int), Cond.fieldLink RX1 19 "GateHalls" "path" "[I", Cond.methodLink RX1 75 yX1_hallAt, Cond.instanceMethod yX1_hallAt, Cond.selects RX1 yX1_hallAt yX1_hallAt, Cond.initialized RX1, Cond.code yX1_hallAt cX1_hallAt 2 (some (.object "GateHalls$Hall")), Cond.fieldLink RX1 11 "GateHalls" "halls" "[LGateHalls$Hall;", Cond.methodLink RX1 34 yX1_isPlace, Cond.static yX1_isPlace, Cond.code yX1_isPlace cX1_isPlace 1 (some .boolean), Cond.methodLink RX1 110 yX1_passInto, Cond.instanceMethod yX1_passInto, Cond.selects RX1 yX1_passInto yX1_passInto, Cond.code yX1_passInto cX1_passInto 3 (some .int), Cond.fieldLink RX1 96 "GateHalls" "depth" "I", Cond.fieldLink RX1 22 "GateHalls" "passed" "[LGateHalls$Hall;", Cond.fieldLink RX1 58 "GateHalls" "deepest" "I", Cond.methodLink RX1 117 Lib.Math.max.name, Cond.static Lib.Math.max.name, Cond.code Lib.Math.max.name Lib.Math.max.code 2 (some .int)]
def wsX1_passPath_r2 : List Cond := [Cond.fieldLink RX1 45 "GateHalls" "purse" "I", Cond.instanceMethod yX0_enter, Cond.initialized RX0, Cond.selects RX0 yX0_enter yX0_enter, Cond.code yX0_enter cX0_enter 1 none, Cond.fieldLink RX0 21 "GateHalls$Hall" "passes" "I", Cond.fieldLink RX0 24 "GateHalls$Hall" "inside" "I", Cond.fieldLink RX0 27 "GateHalls$Hall" "most" "I", Cond.methodLink RX0 30 Lib.Math.max.name, Cond.instanceMethod yX0_mark, Cond.selects RX0 yX0_mark yX0_mark, Cond.code yX0_mark cX0_mark 1 (some .int), Cond.fieldLink RX0 9 "GateHalls$Hall" "number" "I", Cond.methodLink RX1 123 yX1_leaveMark, Cond.instanceMethod yX1_leaveMark, Cond.selects RX1 yX1_leaveMark yX1_leaveMark, Cond.code yX1_leaveMark cX1_leaveMark 2 none, Cond.fieldLink RX1 55 "GateHalls" "marksLeft" "I", Cond.fieldLink RX1 25 "GateHalls" "marks" "[I", Cond.instanceMethod yX0_guardIsInTheWay, Cond.selects RX0 yX0_guardIsInTheWay yX0_guardIsInTheWay, Cond.code yX0_guardIsInTheWay cX0_guardIsInTheWay 1 (some .boolean), Cond.fieldLink RX0 15 "GateHalls$Hall" "kind" "I", Cond.instanceMethod yX0_charge]
def wsX1_passPath_r3 : List Cond := [Cond.selects RX0 yX0_charge yX0_charge, Cond.code yX0_charge cX0_charge 2 (some .int), Cond.fieldLink RX0 18 "GateHalls$Hall" "fee" "I"]
def wsX1_passPath : List Cond := .code yX1_passPath cX1_passPath 5 (some .int) :: ((wsX1_passPath_r1 ++ (wsX1_passPath_r2 ++ wsX1_passPath_r3)) ++ wsX10 ++ wsX00)
def wsX1_leaveUntil : List Cond := .code yX1_leaveUntil cX1_leaveUntil 3 none :: ([.fieldLink RX1 96 "GateHalls" "depth" "I", .fieldLink RX1 22 "GateHalls" "passed" "[LGateHalls$Hall;", .instanceMethod yX0_mark, .initialized RX0, .selects RX0 yX0_mark yX0_mark, .code yX0_mark cX0_mark 1 (some .int), .fieldLink RX0 9 "GateHalls$Hall" "number" "I", .methodLink RX1 123 yX1_leaveMark, .instanceMethod yX1_leaveMark, .selects RX1 yX1_leaveMark yX1_leaveMark, .initialized RX1, .code yX1_leaveMark cX1_leaveMark 2 none, .fieldLink RX1 55 "GateHalls" "marksLeft" "I", .fieldLink RX1 25 "GateHalls" "marks" "[I"] ++ wsX10 ++ wsX00)
def wsX1_doDeed_r1 : List Cond := [Cond.fieldLink RX1 11 "GateHalls" "halls" "[LGateHalls$Hall;", Cond.fieldLink RX1 96 "GateHalls" "depth" "I", Cond.methodLink RX1 139 yX1_innermost, Cond.instanceMethod yX1_innermost, Cond.selects RX1 yX1_innermost yX1_innermost, Cond.initialized RX1, Cond.code yX1_innermost cX1_innermost 1 (some (.object "GateHalls$Hall")), Cond.fieldLink RX1 22 "GateHalls" "passed" "[LGateHalls$Hall;", Cond.methodLink RX1 143 yX1_takeGifts, Cond.instanceMethod yX1_takeGifts, Cond.selects RX1 yX1_takeGifts yX1_takeGifts, Cond.code yX1_takeGifts cX1_takeGifts 3 (some .int), Cond.methodLink RX1 156 yX1_addToPurse, Cond.instanceMethod yX1_addToPurse, Cond.selects RX1 yX1_addToPurse yX1_addToPurse, Cond.code yX1_addToPurse cX1_addToPurse 4 (some .int), Cond.fieldLink RX1 45 "GateHalls" "purse" "I", Cond.constantLong RX1 159 (1000000), Cond.methodLink RX1 146 yX1_divideGifts, Cond.static yX1_divideGifts, Cond.code yX1_divideGifts cX1_divideGifts 2 (some .int), Cond.methodLink RX1 150 yJ9_floorMod_7cf53, Cond.static yJ9_floorMod_7cf53, Cond.initialized RJ9]
def wsX1_doDeed_r2 : List Cond := [Cond.code yJ9_floorMod_7cf53 cJ9_floorMod_7cf53 3 (some .int), Cond.methodLink RX1 153 yX1_walkOn, Cond.instanceMethod yX1_walkOn, Cond.selects RX1 yX1_walkOn yX1_walkOn, Cond.code yX1_walkOn cX1_walkOn 4 (some .int), Cond.methodLink RX1 61 yX1_walkTo, Cond.instanceMethod yX1_walkTo, Cond.selects RX1 yX1_walkTo yX1_walkTo, Cond.code yX1_walkTo cX1_walkTo 8 (some .int), Cond.fieldLink RX1 90 "GateHalls" "walksBegun" "I", Cond.methodLink RX1 93 yX1_findPath, Cond.instanceMethod yX1_findPath, Cond.selects RX1 yX1_findPath yX1_findPath, Cond.code yX1_findPath cX1_findPath 4 (some .int), Cond.fieldLink RX1 19 "GateHalls" "path" "[I", Cond.fieldLink RX1 15 "GateHalls" "parents" "[I", Cond.methodLink RX1 34 yX1_isPlace, Cond.static yX1_isPlace, Cond.code yX1_isPlace cX1_isPlace 1 (some .boolean), Cond.methodLink RX1 99 yX1_passPath, Cond.instanceMethod yX1_passPath, Cond.selects RX1 yX1_passPath yX1_passPath, Cond.code yX1_passPath cX1_passPath 5 (some .int), Cond.methodLink RX1 49 Lib.Math.min.name]
def wsX1_doDeed_r3 : List Cond := [Cond.static Lib.Math.min.name, Cond.initialized "java/lang/Math", Cond.code Lib.Math.min.name Lib.Math.min.code 2 (some .int), Cond.methodLink RX1 75 yX1_hallAt, Cond.instanceMethod yX1_hallAt, Cond.selects RX1 yX1_hallAt yX1_hallAt, Cond.code yX1_hallAt cX1_hallAt 2 (some (.object "GateHalls$Hall")), Cond.methodLink RX1 110 yX1_passInto, Cond.instanceMethod yX1_passInto, Cond.selects RX1 yX1_passInto yX1_passInto, Cond.code yX1_passInto cX1_passInto 3 (some .int), Cond.fieldLink RX1 58 "GateHalls" "deepest" "I", Cond.methodLink RX1 117 Lib.Math.max.name, Cond.static Lib.Math.max.name, Cond.code Lib.Math.max.name Lib.Math.max.code 2 (some .int), Cond.instanceMethod yX0_enter, Cond.initialized RX0, Cond.selects RX0 yX0_enter yX0_enter, Cond.code yX0_enter cX0_enter 1 none, Cond.fieldLink RX0 21 "GateHalls$Hall" "passes" "I", Cond.fieldLink RX0 24 "GateHalls$Hall" "inside" "I", Cond.fieldLink RX0 27 "GateHalls$Hall" "most" "I", Cond.methodLink RX0 30 Lib.Math.max.name, Cond.instanceMethod yX0_mark]
def wsX1_doDeed_r4 : List Cond := [Cond.selects RX0 yX0_mark yX0_mark, Cond.code yX0_mark cX0_mark 1 (some .int), Cond.fieldLink RX0 9 "GateHalls$Hall" "number" "I", Cond.methodLink RX1 123 yX1_leaveMark, Cond.instanceMethod yX1_leaveMark, Cond.selects RX1 yX1_leaveMark yX1_leaveMark, Cond.code yX1_leaveMark cX1_leaveMark 2 none, Cond.fieldLink RX1 55 "GateHalls" "marksLeft" "I", Cond.fieldLink RX1 25 "GateHalls" "marks" "[I", Cond.instanceMethod yX0_guardIsInTheWay, Cond.selects RX0 yX0_guardIsInTheWay yX0_guardIsInTheWay, Cond.code yX0_guardIsInTheWay cX0_guardIsInTheWay 1 (some .boolean), Cond.fieldLink RX0 15 "GateHalls$Hall" "kind" "I", Cond.instanceMethod yX0_charge, Cond.selects RX0 yX0_charge yX0_charge, Cond.code yX0_charge cX0_charge 2 (some .int), Cond.fieldLink RX0 18 "GateHalls$Hall" "fee" "I", Cond.methodLink RX1 102 yX1_doDeed, Cond.instanceMethod yX1_doDeed, Cond.selects RX1 yX1_doDeed yX1_doDeed, Cond.methodLink RX1 106 yX1_leaveUntil, Cond.instanceMethod yX1_leaveUntil, Cond.selects RX1 yX1_leaveUntil yX1_leaveUntil, Cond.code yX1_leaveUntil cX1_leaveUntil 3 none]
def wsX1_doDeed : List Cond := .code yX1_doDeed cX1_doDeed 5 (some .int) :: ((wsX1_doDeed_r1 ++ (wsX1_doDeed_r2 ++ (wsX1_doDeed_r3 ++ wsX1_doDeed_r4))) ++ wsX00 ++ wsX10)
def wsX1_walkOn_r1 : List Cond := [Cond.methodLink RX1 150 yJ9_floorMod_7cf53, Cond.static yJ9_floorMod_7cf53, Cond.initialized RJ9, Cond.code yJ9_floorMod_7cf53 cJ9_floorMod_7cf53 3 (some .int), Cond.methodLink RX1 61 yX1_walkTo, Cond.instanceMethod yX1_walkTo, Cond.selects RX1 yX1_walkTo yX1_walkTo, Cond.initialized RX1, Cond.code yX1_doDeed cX1_doDeed 5 (some .int), Cond.fieldLink RX1 11 "GateHalls" "halls" "[LGateHalls$Hall;", Cond.fieldLink RX1 96 "GateHalls" "depth" "I", Cond.methodLink RX1 139 yX1_innermost, Cond.instanceMethod yX1_innermost, Cond.selects RX1 yX1_innermost yX1_innermost, Cond.code yX1_innermost cX1_innermost 1 (some (.object "GateHalls$Hall")), Cond.fieldLink RX1 22 "GateHalls" "passed" "[LGateHalls$Hall;", Cond.methodLink RX1 143 yX1_takeGifts, Cond.instanceMethod yX1_takeGifts, Cond.selects RX1 yX1_takeGifts yX1_takeGifts, Cond.code yX1_takeGifts cX1_takeGifts 3 (some .int), Cond.methodLink RX1 156 yX1_addToPurse, Cond.instanceMethod yX1_addToPurse, Cond.selects RX1 yX1_addToPurse yX1_addToPurse, Cond.code yX1_addToPurse cX1_addToPurse 4 (some .int)]
def wsX1_walkOn_r2 : List Cond := [Cond.fieldLink RX1 45 "GateHalls" "purse" "I", Cond.constantLong RX1 159 (1000000), Cond.methodLink RX1 146 yX1_divideGifts, Cond.static yX1_divideGifts, Cond.code yX1_divideGifts cX1_divideGifts 2 (some .int), Cond.methodLink RX1 153 yX1_walkOn, Cond.instanceMethod yX1_walkOn, Cond.selects RX1 yX1_walkOn yX1_walkOn, Cond.code yX1_walkTo cX1_walkTo 8 (some .int), Cond.fieldLink RX1 90 "GateHalls" "walksBegun" "I", Cond.methodLink RX1 93 yX1_findPath, Cond.instanceMethod yX1_findPath, Cond.selects RX1 yX1_findPath yX1_findPath, Cond.code yX1_findPath cX1_findPath 4 (some .int), Cond.fieldLink RX1 19 "GateHalls" "path" "[I", Cond.fieldLink RX1 15 "GateHalls" "parents" "[I", Cond.methodLink RX1 34 yX1_isPlace, Cond.static yX1_isPlace, Cond.code yX1_isPlace cX1_isPlace 1 (some .boolean), Cond.methodLink RX1 99 yX1_passPath, Cond.instanceMethod yX1_passPath, Cond.selects RX1 yX1_passPath yX1_passPath, Cond.code yX1_passPath cX1_passPath 5 (some .int), Cond.methodLink RX1 49 Lib.Math.min.name]
def wsX1_walkOn_r3 : List Cond := [Cond.static Lib.Math.min.name, Cond.initialized "java/lang/Math", Cond.code Lib.Math.min.name Lib.Math.min.code 2 (some .int), Cond.methodLink RX1 75 yX1_hallAt, Cond.instanceMethod yX1_hallAt, Cond.selects RX1 yX1_hallAt yX1_hallAt, Cond.code yX1_hallAt cX1_hallAt 2 (some (.object "GateHalls$Hall")), Cond.methodLink RX1 110 yX1_passInto, Cond.instanceMethod yX1_passInto, Cond.selects RX1 yX1_passInto yX1_passInto, Cond.code yX1_passInto cX1_passInto 3 (some .int), Cond.fieldLink RX1 58 "GateHalls" "deepest" "I", Cond.methodLink RX1 117 Lib.Math.max.name, Cond.static Lib.Math.max.name, Cond.code Lib.Math.max.name Lib.Math.max.code 2 (some .int), Cond.instanceMethod yX0_enter, Cond.initialized RX0, Cond.selects RX0 yX0_enter yX0_enter, Cond.code yX0_enter cX0_enter 1 none, Cond.fieldLink RX0 21 "GateHalls$Hall" "passes" "I", Cond.fieldLink RX0 24 "GateHalls$Hall" "inside" "I", Cond.fieldLink RX0 27 "GateHalls$Hall" "most" "I", Cond.methodLink RX0 30 Lib.Math.max.name, Cond.instanceMethod yX0_mark]
def wsX1_walkOn_r4 : List Cond := [Cond.selects RX0 yX0_mark yX0_mark, Cond.code yX0_mark cX0_mark 1 (some .int), Cond.fieldLink RX0 9 "GateHalls$Hall" "number" "I", Cond.methodLink RX1 123 yX1_leaveMark, Cond.instanceMethod yX1_leaveMark, Cond.selects RX1 yX1_leaveMark yX1_leaveMark, Cond.code yX1_leaveMark cX1_leaveMark 2 none, Cond.fieldLink RX1 55 "GateHalls" "marksLeft" "I", Cond.fieldLink RX1 25 "GateHalls" "marks" "[I", Cond.instanceMethod yX0_guardIsInTheWay, Cond.selects RX0 yX0_guardIsInTheWay yX0_guardIsInTheWay, Cond.code yX0_guardIsInTheWay cX0_guardIsInTheWay 1 (some .boolean), Cond.fieldLink RX0 15 "GateHalls$Hall" "kind" "I", Cond.instanceMethod yX0_charge, Cond.selects RX0 yX0_charge yX0_charge, Cond.code yX0_charge cX0_charge 2 (some .int), Cond.fieldLink RX0 18 "GateHalls$Hall" "fee" "I", Cond.methodLink RX1 102 yX1_doDeed, Cond.instanceMethod yX1_doDeed, Cond.selects RX1 yX1_doDeed yX1_doDeed, Cond.methodLink RX1 106 yX1_leaveUntil, Cond.instanceMethod yX1_leaveUntil, Cond.selects RX1 yX1_leaveUntil yX1_leaveUntil, Cond.code yX1_leaveUntil cX1_leaveUntil 3 none]
def wsX1_walkOn : List Cond := .code yX1_walkOn cX1_walkOn 4 (some .int) :: ((wsX1_walkOn_r1 ++ (wsX1_walkOn_r2 ++ (wsX1_walkOn_r3 ++ wsX1_walkOn_r4))) ++ wsX00 ++ wsX10)
def wsX1_walkTo_r1 : List Cond := [Cond.fieldLink RX1 90 "GateHalls" "walksBegun" "I", Cond.fieldLink RX1 96 "GateHalls" "depth" "I", Cond.methodLink RX1 93 yX1_findPath, Cond.instanceMethod yX1_findPath, Cond.selects RX1 yX1_findPath yX1_findPath, Cond.initialized RX1, Cond.code yX1_findPath cX1_findPath 4 (some .int), Cond.fieldLink RX1 19 "GateHalls" "path" "[I", Cond.fieldLink RX1 15 "GateHalls" "parents" "[I", Cond.methodLink RX1 34 yX1_isPlace, Cond.static yX1_isPlace, Cond.code yX1_isPlace cX1_isPlace 1 (some .boolean), Cond.methodLink RX1 99 yX1_passPath, Cond.instanceMethod yX1_passPath, Cond.selects RX1 yX1_passPath yX1_passPath, Cond.code yX1_passPath cX1_passPath 5 (some .int), Cond.methodLink RX1 49 Lib.Math.min.name, Cond.static Lib.Math.min.name, Cond.initialized "java/lang/Math", Cond.code Lib.Math.min.name Lib.Math.min.code 2 (some .int), Cond.methodLink RX1 75 yX1_hallAt, Cond.instanceMethod yX1_hallAt, Cond.selects RX1 yX1_hallAt yX1_hallAt, Cond.code yX1_hallAt cX1_hallAt 2 (some (.object "GateHalls$Hall"))]
def wsX1_walkTo_r2 : List Cond := [Cond.fieldLink RX1 11 "GateHalls" "halls" "[LGateHalls$Hall;", Cond.methodLink RX1 110 yX1_passInto, Cond.instanceMethod yX1_passInto, Cond.selects RX1 yX1_passInto yX1_passInto, Cond.code yX1_passInto cX1_passInto 3 (some .int), Cond.fieldLink RX1 22 "GateHalls" "passed" "[LGateHalls$Hall;", Cond.fieldLink RX1 58 "GateHalls" "deepest" "I", Cond.methodLink RX1 117 Lib.Math.max.name, Cond.static Lib.Math.max.name, Cond.code Lib.Math.max.name Lib.Math.max.code 2 (some .int), Cond.fieldLink RX1 45 "GateHalls" "purse" "I", Cond.instanceMethod yX0_enter, Cond.initialized RX0, Cond.selects RX0 yX0_enter yX0_enter, Cond.code yX0_enter cX0_enter 1 none, Cond.fieldLink RX0 21 "GateHalls$Hall" "passes" "I", Cond.fieldLink RX0 24 "GateHalls$Hall" "inside" "I", Cond.fieldLink RX0 27 "GateHalls$Hall" "most" "I", Cond.methodLink RX0 30 Lib.Math.max.name, Cond.instanceMethod yX0_mark, Cond.selects RX0 yX0_mark yX0_mark, Cond.code yX0_mark cX0_mark 1 (some .int), Cond.fieldLink RX0 9 "GateHalls$Hall" "number" "I", Cond.methodLink RX1 123 yX1_leaveMark]
def wsX1_walkTo_r3 : List Cond := [Cond.instanceMethod yX1_leaveMark, Cond.selects RX1 yX1_leaveMark yX1_leaveMark, Cond.code yX1_leaveMark cX1_leaveMark 2 none, Cond.fieldLink RX1 55 "GateHalls" "marksLeft" "I", Cond.fieldLink RX1 25 "GateHalls" "marks" "[I", Cond.instanceMethod yX0_guardIsInTheWay, Cond.selects RX0 yX0_guardIsInTheWay yX0_guardIsInTheWay, Cond.code yX0_guardIsInTheWay cX0_guardIsInTheWay 1 (some .boolean), Cond.fieldLink RX0 15 "GateHalls$Hall" "kind" "I", Cond.instanceMethod yX0_charge, Cond.selects RX0 yX0_charge yX0_charge, Cond.code yX0_charge cX0_charge 2 (some .int), Cond.fieldLink RX0 18 "GateHalls$Hall" "fee" "I", Cond.methodLink RX1 102 yX1_doDeed, Cond.instanceMethod yX1_doDeed, Cond.selects RX1 yX1_doDeed yX1_doDeed, Cond.methodLink RX1 106 yX1_leaveUntil, Cond.instanceMethod yX1_leaveUntil, Cond.selects RX1 yX1_leaveUntil yX1_leaveUntil, Cond.code yX1_leaveUntil cX1_leaveUntil 3 none, Cond.code yX1_doDeed cX1_doDeed 5 (some .int), Cond.methodLink RX1 139 yX1_innermost, Cond.instanceMethod yX1_innermost, Cond.selects RX1 yX1_innermost yX1_innermost]
def wsX1_walkTo_r4 : List Cond := [Cond.code yX1_innermost cX1_innermost 1 (some (.object "GateHalls$Hall")), Cond.methodLink RX1 143 yX1_takeGifts, Cond.instanceMethod yX1_takeGifts, Cond.selects RX1 yX1_takeGifts yX1_takeGifts, Cond.code yX1_takeGifts cX1_takeGifts 3 (some .int), Cond.methodLink RX1 156 yX1_addToPurse, Cond.instanceMethod yX1_addToPurse, Cond.selects RX1 yX1_addToPurse yX1_addToPurse, Cond.code yX1_addToPurse cX1_addToPurse 4 (some .int), Cond.constantLong RX1 159 (1000000), Cond.methodLink RX1 146 yX1_divideGifts, Cond.static yX1_divideGifts, Cond.code yX1_divideGifts cX1_divideGifts 2 (some .int), Cond.methodLink RX1 150 yJ9_floorMod_7cf53, Cond.static yJ9_floorMod_7cf53, Cond.initialized RJ9, Cond.code yJ9_floorMod_7cf53 cJ9_floorMod_7cf53 3 (some .int), Cond.methodLink RX1 153 yX1_walkOn, Cond.instanceMethod yX1_walkOn, Cond.selects RX1 yX1_walkOn yX1_walkOn, Cond.code yX1_walkOn cX1_walkOn 4 (some .int), Cond.methodLink RX1 61 yX1_walkTo, Cond.instanceMethod yX1_walkTo, Cond.selects RX1 yX1_walkTo yX1_walkTo]
def wsX1_walkTo : List Cond := .code yX1_walkTo cX1_walkTo 8 (some .int) :: ((wsX1_walkTo_r1 ++ (wsX1_walkTo_r2 ++ (wsX1_walkTo_r3 ++ wsX1_walkTo_r4))) ++ wsX00 ++ wsX10)
def wsX1_walk_r1 : List Cond := [Cond.fieldLink RX1 55 "GateHalls" "marksLeft" "I", Cond.fieldLink RX1 58 "GateHalls" "deepest" "I", Cond.fieldLink RX1 65 "GateHalls" "latestFailure" "I", Cond.methodLink RX1 34 yX1_isPlace, Cond.static yX1_isPlace, Cond.initialized RX1, Cond.code yX1_isPlace cX1_isPlace 1 (some .boolean), Cond.methodLink RX1 61 yX1_walkTo, Cond.instanceMethod yX1_walkTo, Cond.selects RX1 yX1_walkTo yX1_walkTo, Cond.code yX1_walkTo cX1_walkTo 8 (some .int), Cond.fieldLink RX1 90 "GateHalls" "walksBegun" "I", Cond.fieldLink RX1 96 "GateHalls" "depth" "I", Cond.methodLink RX1 93 yX1_findPath, Cond.instanceMethod yX1_findPath, Cond.selects RX1 yX1_findPath yX1_findPath, Cond.code yX1_findPath cX1_findPath 4 (some .int), Cond.fieldLink RX1 19 "GateHalls" "path" "[I", Cond.fieldLink RX1 15 "GateHalls" "parents" "[I", Cond.methodLink RX1 99 yX1_passPath, Cond.instanceMethod yX1_passPath, Cond.selects RX1 yX1_passPath yX1_passPath, Cond.code yX1_passPath cX1_passPath 5 (some .int), Cond.methodLink RX1 49 Lib.Math.min.name]
def wsX1_walk_r2 : List Cond := [Cond.static Lib.Math.min.name, Cond.initialized "java/lang/Math", Cond.code Lib.Math.min.name Lib.Math.min.code 2 (some .int), Cond.methodLink RX1 75 yX1_hallAt, Cond.instanceMethod yX1_hallAt, Cond.selects RX1 yX1_hallAt yX1_hallAt, Cond.code yX1_hallAt cX1_hallAt 2 (some (.object "GateHalls$Hall")), Cond.fieldLink RX1 11 "GateHalls" "halls" "[LGateHalls$Hall;", Cond.methodLink RX1 110 yX1_passInto, Cond.instanceMethod yX1_passInto, Cond.selects RX1 yX1_passInto yX1_passInto, Cond.code yX1_passInto cX1_passInto 3 (some .int), Cond.fieldLink RX1 22 "GateHalls" "passed" "[LGateHalls$Hall;", Cond.methodLink RX1 117 Lib.Math.max.name, Cond.static Lib.Math.max.name, Cond.code Lib.Math.max.name Lib.Math.max.code 2 (some .int), Cond.fieldLink RX1 45 "GateHalls" "purse" "I", Cond.instanceMethod yX0_enter, Cond.initialized RX0, Cond.selects RX0 yX0_enter yX0_enter, Cond.code yX0_enter cX0_enter 1 none, Cond.fieldLink RX0 21 "GateHalls$Hall" "passes" "I", Cond.fieldLink RX0 24 "GateHalls$Hall" "inside" "I", Cond.fieldLink RX0 27 "GateHalls$Hall" "most" "I"]
def wsX1_walk_r3 : List Cond := [Cond.methodLink RX0 30 Lib.Math.max.name, Cond.instanceMethod yX0_mark, Cond.selects RX0 yX0_mark yX0_mark, Cond.code yX0_mark cX0_mark 1 (some .int), Cond.fieldLink RX0 9 "GateHalls$Hall" "number" "I", Cond.methodLink RX1 123 yX1_leaveMark, Cond.instanceMethod yX1_leaveMark, Cond.selects RX1 yX1_leaveMark yX1_leaveMark, Cond.code yX1_leaveMark cX1_leaveMark 2 none, Cond.fieldLink RX1 25 "GateHalls" "marks" "[I", Cond.instanceMethod yX0_guardIsInTheWay, Cond.selects RX0 yX0_guardIsInTheWay yX0_guardIsInTheWay, Cond.code yX0_guardIsInTheWay cX0_guardIsInTheWay 1 (some .boolean), Cond.fieldLink RX0 15 "GateHalls$Hall" "kind" "I", Cond.instanceMethod yX0_charge, Cond.selects RX0 yX0_charge yX0_charge, Cond.code yX0_charge cX0_charge 2 (some .int), Cond.fieldLink RX0 18 "GateHalls$Hall" "fee" "I", Cond.methodLink RX1 102 yX1_doDeed, Cond.instanceMethod yX1_doDeed, Cond.selects RX1 yX1_doDeed yX1_doDeed, Cond.methodLink RX1 106 yX1_leaveUntil, Cond.instanceMethod yX1_leaveUntil, Cond.selects RX1 yX1_leaveUntil yX1_leaveUntil]
def wsX1_walk_r4 : List Cond := [Cond.code yX1_leaveUntil cX1_leaveUntil 3 none, Cond.code yX1_doDeed cX1_doDeed 5 (some .int), Cond.methodLink RX1 139 yX1_innermost, Cond.instanceMethod yX1_innermost, Cond.selects RX1 yX1_innermost yX1_innermost, Cond.code yX1_innermost cX1_innermost 1 (some (.object "GateHalls$Hall")), Cond.methodLink RX1 143 yX1_takeGifts, Cond.instanceMethod yX1_takeGifts, Cond.selects RX1 yX1_takeGifts yX1_takeGifts, Cond.code yX1_takeGifts cX1_takeGifts 3 (some .int), Cond.methodLink RX1 156 yX1_addToPurse, Cond.instanceMethod yX1_addToPurse, Cond.selects RX1 yX1_addToPurse yX1_addToPurse, Cond.code yX1_addToPurse cX1_addToPurse 4 (some .int), Cond.constantLong RX1 159 (1000000), Cond.methodLink RX1 146 yX1_divideGifts, Cond.static yX1_divideGifts, Cond.code yX1_divideGifts cX1_divideGifts 2 (some .int), Cond.methodLink RX1 150 yJ9_floorMod_7cf53, Cond.static yJ9_floorMod_7cf53, Cond.initialized RJ9, Cond.code yJ9_floorMod_7cf53 cJ9_floorMod_7cf53 3 (some .int), Cond.methodLink RX1 153 yX1_walkOn, Cond.instanceMethod yX1_walkOn]
def wsX1_walk_r5 : List Cond := [Cond.selects RX1 yX1_walkOn yX1_walkOn, Cond.code yX1_walkOn cX1_walkOn 4 (some .int)]
def wsX1_walk : List Cond := .code yX1_walk cX1_walk 4 (some .int) :: ((wsX1_walk_r1 ++ (wsX1_walk_r2 ++ (wsX1_walk_r3 ++ (wsX1_walk_r4 ++ wsX1_walk_r5)))) ++ wsX10 ++ wsX00)
def wsX1_seekPartner : List Cond := .code yX1_seekPartner cX1_seekPartner 7 (some .int) :: ([.methodLink RX1 75 yX1_hallAt, .instanceMethod yX1_hallAt, .selects RX1 yX1_hallAt yX1_hallAt, .initialized RX1, .code yX1_hallAt cX1_hallAt 2 (some (.object "GateHalls$Hall")), .fieldLink RX1 11 "GateHalls" "halls" "[LGateHalls$Hall;", .methodLink RX1 34 yX1_isPlace, .static yX1_isPlace, .code yX1_isPlace cX1_isPlace 1 (some .boolean)] ++ wsX00 ++ wsX10)
def wsX1_seek : List Cond := .code yX1_seek cX1_seek 6 (some .int) :: ([.fieldLink RX1 11 "GateHalls" "halls" "[LGateHalls$Hall;", .methodLink RX1 71 yX1_seekPartner, .instanceMethod yX1_seekPartner, .selects RX1 yX1_seekPartner yX1_seekPartner, .initialized RX1, .code yX1_seekPartner cX1_seekPartner 7 (some .int), .methodLink RX1 75 yX1_hallAt, .instanceMethod yX1_hallAt, .selects RX1 yX1_hallAt yX1_hallAt, .code yX1_hallAt cX1_hallAt 2 (some (.object "GateHalls$Hall")), .methodLink RX1 34 yX1_isPlace, .static yX1_isPlace, .code yX1_isPlace cX1_isPlace 1 (some .boolean)] ++ wsX10 ++ wsX00)
def wsX1_told : List Cond := .code yX1_told cX1_told 4 (some .int) :: ([.methodLink RX1 75 yX1_hallAt, .instanceMethod yX1_hallAt, .selects RX1 yX1_hallAt yX1_hallAt, .initialized RX1, .code yX1_hallAt cX1_hallAt 2 (some (.object "GateHalls$Hall")), .fieldLink RX1 11 "GateHalls" "halls" "[LGateHalls$Hall;", .methodLink RX1 34 yX1_isPlace, .static yX1_isPlace, .code yX1_isPlace cX1_isPlace 1 (some .boolean), .instanceMethod yX0_fact, .initialized RX0, .selects RX0 yX0_fact yX0_fact, .code yX0_fact cX0_fact 2 (some .int), .fieldLink RX0 9 "GateHalls$Hall" "number" "I", .fieldLink RX0 15 "GateHalls$Hall" "kind" "I", .fieldLink RX0 18 "GateHalls$Hall" "fee" "I", .fieldLink RX0 21 "GateHalls$Hall" "passes" "I", .fieldLink RX0 36 "GateHalls$Hall" "asks" "I", .fieldLink RX0 39 "GateHalls$Hall" "paid" "I", .fieldLink RX0 24 "GateHalls$Hall" "inside" "I", .fieldLink RX0 27 "GateHalls$Hall" "most" "I"] ++ wsX10 ++ wsX00)
def wsX1_gifts : List Cond := .code yX1_gifts cX1_gifts 3 (some .int) :: ([.methodLink RX1 75 yX1_hallAt, .instanceMethod yX1_hallAt, .selects RX1 yX1_hallAt yX1_hallAt, .initialized RX1, .code yX1_hallAt cX1_hallAt 2 (some (.object "GateHalls$Hall")), .fieldLink RX1 11 "GateHalls" "halls" "[LGateHalls$Hall;", .methodLink RX1 34 yX1_isPlace, .static yX1_isPlace, .code yX1_isPlace cX1_isPlace 1 (some .boolean)] ++ wsX00 ++ wsX10)
def wsX1_trace : List Cond := .code yX1_trace cX1_trace 2 (some .int) :: ([.fieldLink RX1 55 "GateHalls" "marksLeft" "I", .fieldLink RX1 25 "GateHalls" "marks" "[I"] ++ wsX10)
def wsX1_placesWithHall : List Cond := .code yX1_placesWithHall cX1_placesWithHall 3 (some .int) :: ([.fieldLink RX1 11 "GateHalls" "halls" "[LGateHalls$Hall;"] ++ wsX10)
def wsX1_count : List Cond := .code yX1_count cX1_count 2 (some .int) :: ([.fieldLink RX1 45 "GateHalls" "purse" "I", .fieldLink RX1 38 "GateHalls" "hallsMade" "I", .fieldLink RX1 65 "GateHalls" "latestFailure" "I", .fieldLink RX1 90 "GateHalls" "walksBegun" "I", .fieldLink RX1 58 "GateHalls" "deepest" "I", .methodLink RX1 86 yX1_placesWithHall, .instanceMethod yX1_placesWithHall, .selects RX1 yX1_placesWithHall yX1_placesWithHall, .initialized RX1, .code yX1_placesWithHall cX1_placesWithHall 3 (some .int), .fieldLink RX1 11 "GateHalls" "halls" "[LGateHalls$Hall;"] ++ wsX10)
def wsX2_init : List Cond := .code yX2_init cX2_init 1 none :: ([.methodLink RX2 1 objectInit, .instanceMethod objectInit, .code objectInit ⟨#[0xb1]⟩ 1 none, .arrayClass .int, .fieldLink RX2 7 "GateHallsModel" "kinds" "[I", .fieldLink RX2 13 "GateHallsModel" "fees" "[I", .fieldLink RX2 16 "GateHallsModel" "gifts" "[I", .fieldLink RX2 19 "GateHallsModel" "passes" "[I", .fieldLink RX2 22 "GateHallsModel" "asks" "[I", .fieldLink RX2 25 "GateHallsModel" "paid" "[I", .fieldLink RX2 28 "GateHallsModel" "inside" "[I", .fieldLink RX2 31 "GateHallsModel" "mosts" "[I", .fieldLink RX2 34 "GateHallsModel" "places" "[I", .fieldLink RX2 37 "GateHallsModel" "parents" "[I", .fieldLink RX2 40 "GateHallsModel" "traced" "[I", .fieldLink RX2 43 "GateHallsModel" "row" "[I", .fieldLink RX2 46 "GateHallsModel" "path" "[I"] ++ wsX20)
def wsX2_in : List Cond := .code yX2_in cX2_in 3 (some .boolean) :: ([])
def wsX2_ten : List Cond := .code yX2_ten cX2_ten 2 (some .int) :: ([])
def wsX2_hall : List Cond := .code yX2_hall cX2_hall 4 (some .int) :: ([.fieldLink RX2 7 "GateHallsModel" "kinds" "[I", .fieldLink RX2 53 "GateHallsModel" "halls" "I", .fieldLink RX2 13 "GateHallsModel" "fees" "[I", .fieldLink RX2 34 "GateHallsModel" "places" "[I", .methodLink RX2 49 yX2_in, .static yX2_in, .initialized RX2, .code yX2_in cX2_in 3 (some .boolean)] ++ wsX20)
def wsX2_share : List Cond := .code yX2_share cX2_share 3 (some .int) :: ([.fieldLink RX2 34 "GateHallsModel" "places" "[I", .methodLink RX2 49 yX2_in, .static yX2_in, .initialized RX2, .code yX2_in cX2_in 3 (some .boolean)] ++ wsX20)
def wsX2_parent : List Cond := .code yX2_parent cX2_parent 4 (some .int) :: ([.fieldLink RX2 37 "GateHallsModel" "parents" "[I", .methodLink RX2 49 yX2_in, .static yX2_in, .initialized RX2, .code yX2_in cX2_in 3 (some .boolean)] ++ wsX20)
def wsX2_fill : List Cond := .code yX2_fill cX2_fill 2 (some .int) :: ([.fieldLink RX2 57 "GateHallsModel" "purse" "I", .constant RX2 60 (1000000), .methodLink RX2 49 yX2_in, .static yX2_in, .initialized RX2, .code yX2_in cX2_in 3 (some .boolean)] ++ wsX20)
def wsX2_leave : List Cond := .code yX2_leave cX2_leave 2 none :: ([.fieldLink RX2 61 "GateHallsModel" "traces" "I", .fieldLink RX2 40 "GateHallsModel" "traced" "[I"] ++ wsX20)
def wsX2_charge : List Cond := .code yX2_charge cX2_charge 2 (some .int) :: ([.fieldLink RX2 7 "GateHallsModel" "kinds" "[I", .fieldLink RX2 13 "GateHallsModel" "fees" "[I", .fieldLink RX2 19 "GateHallsModel" "passes" "[I"] ++ wsX20)
def wsX2_pass : List Cond := .code yX2_pass cX2_pass 2 (some .int) :: ([.fieldLink RX2 19 "GateHallsModel" "passes" "[I", .fieldLink RX2 28 "GateHallsModel" "inside" "[I", .fieldLink RX2 31 "GateHallsModel" "mosts" "[I", .fieldLink RX2 43 "GateHallsModel" "row" "[I", .fieldLink RX2 68 "GateHallsModel" "within" "I", .fieldLink RX2 71 "GateHallsModel" "deepest" "I", .fieldLink RX2 7 "GateHallsModel" "kinds" "[I", .fieldLink RX2 57 "GateHallsModel" "purse" "I", .fieldLink RX2 25 "GateHallsModel" "paid" "[I", .methodLink RX2 64 yX2_leave, .instanceMethod yX2_leave, .selects RX2 yX2_leave yX2_leave, .initialized RX2, .code yX2_leave cX2_leave 2 none, .fieldLink RX2 61 "GateHallsModel" "traces" "I", .fieldLink RX2 40 "GateHallsModel" "traced" "[I", .methodLink RX2 74 yX2_charge, .instanceMethod yX2_charge, .selects RX2 yX2_charge yX2_charge, .code yX2_charge cX2_charge 2 (some .int), .fieldLink RX2 13 "GateHallsModel" "fees" "[I"] ++ wsX20)
def wsX2_leaveTo : List Cond := .code yX2_leaveTo cX2_leaveTo 2 none :: ([.fieldLink RX2 68 "GateHallsModel" "within" "I", .fieldLink RX2 28 "GateHallsModel" "inside" "[I", .fieldLink RX2 43 "GateHallsModel" "row" "[I", .methodLink RX2 64 yX2_leave, .instanceMethod yX2_leave, .selects RX2 yX2_leave yX2_leave, .initialized RX2, .code yX2_leave cX2_leave 2 none, .fieldLink RX2 61 "GateHallsModel" "traces" "I", .fieldLink RX2 40 "GateHallsModel" "traced" "[I"] ++ wsX20)
def wsX2_goTo_r1 : List Cond := [Cond.fieldLink RX2 78 "GateHallsModel" "walks" "I", Cond.fieldLink RX2 46 "GateHallsModel" "path" "[I", Cond.fieldLink RX2 37 "GateHallsModel" "parents" "[I", Cond.fieldLink RX2 34 "GateHallsModel" "places" "[I", Cond.methodLink RX2 81 yX2_pass, Cond.instanceMethod yX2_pass, Cond.selects RX2 yX2_pass yX2_pass, Cond.initialized RX2, Cond.code yX2_pass cX2_pass 2 (some .int), Cond.fieldLink RX2 19 "GateHallsModel" "passes" "[I", Cond.fieldLink RX2 28 "GateHallsModel" "inside" "[I", Cond.fieldLink RX2 31 "GateHallsModel" "mosts" "[I", Cond.fieldLink RX2 43 "GateHallsModel" "row" "[I", Cond.fieldLink RX2 68 "GateHallsModel" "within" "I", Cond.fieldLink RX2 71 "GateHallsModel" "deepest" "I", Cond.fieldLink RX2 7 "GateHallsModel" "kinds" "[I", Cond.fieldLink RX2 57 "GateHallsModel" "purse" "I", Cond.fieldLink RX2 25 "GateHallsModel" "paid" "[I", Cond.methodLink RX2 64 yX2_leave, Cond.instanceMethod yX2_leave, Cond.selects RX2 yX2_leave yX2_leave, Cond.code yX2_leave cX2_leave 2 none, Cond.fieldLink RX2 61 "GateHallsModel" "traces" "I", Cond.fieldLink RX2 40 "GateHallsModel" "traced" "[I"]
def wsX2_goTo_r2 : List Cond := [Cond.methodLink RX2 74 yX2_charge, Cond.instanceMethod yX2_charge, Cond.selects RX2 yX2_charge yX2_charge, Cond.code yX2_charge cX2_charge 2 (some .int), Cond.fieldLink RX2 13 "GateHallsModel" "fees" "[I"]
def wsX2_goTo : List Cond := .code yX2_goTo cX2_goTo 7 (some .int) :: ((wsX2_goTo_r1 ++ wsX2_goTo_r2) ++ wsX20)
def wsX2_rich : List Cond := .code yX2_rich cX2_rich 5 (some .int) :: ([.fieldLink RX2 57 "GateHallsModel" "purse" "I", .constantLong RX2 84 (1000000)] ++ wsX20)
def wsX2_goesOn_r1 : List Cond := [Cond.fieldLink RX2 68 "GateHallsModel" "within" "I", Cond.methodLink RX2 86 yX2_ten, Cond.static yX2_ten, Cond.initialized RX2, Cond.code yX2_ten cX2_ten 2 (some .int), Cond.methodLink RX2 89 yX2_goTo, Cond.instanceMethod yX2_goTo, Cond.selects RX2 yX2_goTo yX2_goTo, Cond.code yX2_goTo cX2_goTo 7 (some .int), Cond.fieldLink RX2 78 "GateHallsModel" "walks" "I", Cond.fieldLink RX2 46 "GateHallsModel" "path" "[I", Cond.fieldLink RX2 37 "GateHallsModel" "parents" "[I", Cond.fieldLink RX2 34 "GateHallsModel" "places" "[I", Cond.methodLink RX2 81 yX2_pass, Cond.instanceMethod yX2_pass, Cond.selects RX2 yX2_pass yX2_pass, Cond.code yX2_pass cX2_pass 2 (some .int), Cond.fieldLink RX2 19 "GateHallsModel" "passes" "[I", Cond.fieldLink RX2 28 "GateHallsModel" "inside" "[I", Cond.fieldLink RX2 31 "GateHallsModel" "mosts" "[I", Cond.fieldLink RX2 43 "GateHallsModel" "row" "[I", Cond.fieldLink RX2 71 "GateHallsModel" "deepest" "I", Cond.fieldLink RX2 7 "GateHallsModel" "kinds" "[I", Cond.fieldLink RX2 57 "GateHallsModel" "purse" "I"]
def wsX2_goesOn_r2 : List Cond := [Cond.fieldLink RX2 25 "GateHallsModel" "paid" "[I", Cond.methodLink RX2 64 yX2_leave, Cond.instanceMethod yX2_leave, Cond.selects RX2 yX2_leave yX2_leave, Cond.code yX2_leave cX2_leave 2 none, Cond.fieldLink RX2 61 "GateHallsModel" "traces" "I", Cond.fieldLink RX2 40 "GateHallsModel" "traced" "[I", Cond.methodLink RX2 74 yX2_charge, Cond.instanceMethod yX2_charge, Cond.selects RX2 yX2_charge yX2_charge, Cond.code yX2_charge cX2_charge 2 (some .int), Cond.fieldLink RX2 13 "GateHallsModel" "fees" "[I", Cond.methodLink RX2 92 yX2_leaveTo, Cond.instanceMethod yX2_leaveTo, Cond.selects RX2 yX2_leaveTo yX2_leaveTo, Cond.code yX2_leaveTo cX2_leaveTo 2 none]
def wsX2_goesOn : List Cond := .code yX2_goesOn cX2_goesOn 7 (some .int) :: ((wsX2_goesOn_r1 ++ wsX2_goesOn_r2) ++ wsX20)
def wsX2_does_r1 : List Cond := [Cond.fieldLink RX2 43 "GateHallsModel" "row" "[I", Cond.fieldLink RX2 68 "GateHallsModel" "within" "I", Cond.fieldLink RX2 16 "GateHallsModel" "gifts" "[I", Cond.fieldLink RX2 34 "GateHallsModel" "places" "[I", Cond.methodLink RX2 95 yX2_rich, Cond.instanceMethod yX2_rich, Cond.selects RX2 yX2_rich yX2_rich, Cond.initialized RX2, Cond.code yX2_rich cX2_rich 5 (some .int), Cond.fieldLink RX2 57 "GateHallsModel" "purse" "I", Cond.constantLong RX2 84 (1000000), Cond.methodLink RX2 86 yX2_ten, Cond.static yX2_ten, Cond.code yX2_ten cX2_ten 2 (some .int), Cond.methodLink RX2 99 yX2_goesOn, Cond.instanceMethod yX2_goesOn, Cond.selects RX2 yX2_goesOn yX2_goesOn, Cond.code yX2_goesOn cX2_goesOn 7 (some .int), Cond.methodLink RX2 89 yX2_goTo, Cond.instanceMethod yX2_goTo, Cond.selects RX2 yX2_goTo yX2_goTo, Cond.code yX2_goTo cX2_goTo 7 (some .int), Cond.fieldLink RX2 78 "GateHallsModel" "walks" "I", Cond.fieldLink RX2 46 "GateHallsModel" "path" "[I"]
def wsX2_does_r2 : List Cond := [Cond.fieldLink RX2 37 "GateHallsModel" "parents" "[I", Cond.methodLink RX2 81 yX2_pass, Cond.instanceMethod yX2_pass, Cond.selects RX2 yX2_pass yX2_pass, Cond.code yX2_pass cX2_pass 2 (some .int), Cond.fieldLink RX2 19 "GateHallsModel" "passes" "[I", Cond.fieldLink RX2 28 "GateHallsModel" "inside" "[I", Cond.fieldLink RX2 31 "GateHallsModel" "mosts" "[I", Cond.fieldLink RX2 71 "GateHallsModel" "deepest" "I", Cond.fieldLink RX2 7 "GateHallsModel" "kinds" "[I", Cond.fieldLink RX2 25 "GateHallsModel" "paid" "[I", Cond.methodLink RX2 64 yX2_leave, Cond.instanceMethod yX2_leave, Cond.selects RX2 yX2_leave yX2_leave, Cond.code yX2_leave cX2_leave 2 none, Cond.fieldLink RX2 61 "GateHallsModel" "traces" "I", Cond.fieldLink RX2 40 "GateHallsModel" "traced" "[I", Cond.methodLink RX2 74 yX2_charge, Cond.instanceMethod yX2_charge, Cond.selects RX2 yX2_charge yX2_charge, Cond.code yX2_charge cX2_charge 2 (some .int), Cond.fieldLink RX2 13 "GateHallsModel" "fees" "[I", Cond.methodLink RX2 92 yX2_leaveTo, Cond.instanceMethod yX2_leaveTo]
def wsX2_does_r3 : List Cond := [Cond.selects RX2 yX2_leaveTo yX2_leaveTo, Cond.code yX2_leaveTo cX2_leaveTo 2 none]
def wsX2_does : List Cond := .code yX2_does cX2_does 4 (some .int) :: ((wsX2_does_r1 ++ (wsX2_does_r2 ++ wsX2_does_r3)) ++ wsX20)
def wsX2_walk_r1 : List Cond := [Cond.fieldLink RX2 61 "GateHallsModel" "traces" "I", Cond.fieldLink RX2 71 "GateHallsModel" "deepest" "I", Cond.fieldLink RX2 68 "GateHallsModel" "within" "I", Cond.fieldLink RX2 102 "GateHallsModel" "failure" "I", Cond.methodLink RX2 49 yX2_in, Cond.static yX2_in, Cond.initialized RX2, Cond.code yX2_in cX2_in 3 (some .boolean), Cond.methodLink RX2 89 yX2_goTo, Cond.instanceMethod yX2_goTo, Cond.selects RX2 yX2_goTo yX2_goTo, Cond.code yX2_goTo cX2_goTo 7 (some .int), Cond.fieldLink RX2 78 "GateHallsModel" "walks" "I", Cond.fieldLink RX2 46 "GateHallsModel" "path" "[I", Cond.fieldLink RX2 37 "GateHallsModel" "parents" "[I", Cond.fieldLink RX2 34 "GateHallsModel" "places" "[I", Cond.methodLink RX2 81 yX2_pass, Cond.instanceMethod yX2_pass, Cond.selects RX2 yX2_pass yX2_pass, Cond.code yX2_pass cX2_pass 2 (some .int), Cond.fieldLink RX2 19 "GateHallsModel" "passes" "[I", Cond.fieldLink RX2 28 "GateHallsModel" "inside" "[I", Cond.fieldLink RX2 31 "GateHallsModel" "mosts" "[I", Cond.fieldLink RX2 43 "GateHallsModel" "row" "[I"]
def wsX2_walk_r2 : List Cond := [Cond.fieldLink RX2 7 "GateHallsModel" "kinds" "[I", Cond.fieldLink RX2 57 "GateHallsModel" "purse" "I", Cond.fieldLink RX2 25 "GateHallsModel" "paid" "[I", Cond.methodLink RX2 64 yX2_leave, Cond.instanceMethod yX2_leave, Cond.selects RX2 yX2_leave yX2_leave, Cond.code yX2_leave cX2_leave 2 none, Cond.fieldLink RX2 40 "GateHallsModel" "traced" "[I", Cond.methodLink RX2 74 yX2_charge, Cond.instanceMethod yX2_charge, Cond.selects RX2 yX2_charge yX2_charge, Cond.code yX2_charge cX2_charge 2 (some .int), Cond.fieldLink RX2 13 "GateHallsModel" "fees" "[I", Cond.methodLink RX2 105 yX2_does, Cond.instanceMethod yX2_does, Cond.selects RX2 yX2_does yX2_does, Cond.code yX2_does cX2_does 4 (some .int), Cond.fieldLink RX2 16 "GateHallsModel" "gifts" "[I", Cond.methodLink RX2 95 yX2_rich, Cond.instanceMethod yX2_rich, Cond.selects RX2 yX2_rich yX2_rich, Cond.code yX2_rich cX2_rich 5 (some .int), Cond.constantLong RX2 84 (1000000), Cond.methodLink RX2 86 yX2_ten]
def wsX2_walk_r3 : List Cond := [Cond.static yX2_ten, Cond.code yX2_ten cX2_ten 2 (some .int), Cond.methodLink RX2 99 yX2_goesOn, Cond.instanceMethod yX2_goesOn, Cond.selects RX2 yX2_goesOn yX2_goesOn, Cond.code yX2_goesOn cX2_goesOn 7 (some .int), Cond.methodLink RX2 92 yX2_leaveTo, Cond.instanceMethod yX2_leaveTo, Cond.selects RX2 yX2_leaveTo yX2_leaveTo, Cond.code yX2_leaveTo cX2_leaveTo 2 none]
def wsX2_walk : List Cond := .code yX2_walk cX2_walk 4 (some .int) :: ((wsX2_walk_r1 ++ (wsX2_walk_r2 ++ wsX2_walk_r3)) ++ wsX20)
def wsX2_seek : List Cond := .code yX2_seek cX2_seek 8 (some .int) :: ([.fieldLink RX2 34 "GateHallsModel" "places" "[I", .fieldLink RX2 22 "GateHallsModel" "asks" "[I", .fieldLink RX2 16 "GateHallsModel" "gifts" "[I"] ++ wsX20)
def wsX2_told : List Cond := .code yX2_told cX2_told 4 (some .int) :: ([.fieldLink RX2 34 "GateHallsModel" "places" "[I", .fieldLink RX2 7 "GateHallsModel" "kinds" "[I", .fieldLink RX2 13 "GateHallsModel" "fees" "[I", .fieldLink RX2 19 "GateHallsModel" "passes" "[I", .fieldLink RX2 22 "GateHallsModel" "asks" "[I", .fieldLink RX2 25 "GateHallsModel" "paid" "[I", .fieldLink RX2 28 "GateHallsModel" "inside" "[I", .fieldLink RX2 31 "GateHallsModel" "mosts" "[I", .methodLink RX2 49 yX2_in, .static yX2_in, .initialized RX2, .code yX2_in cX2_in 3 (some .boolean)] ++ wsX20)
def wsX2_gifts : List Cond := .code yX2_gifts cX2_gifts 2 (some .int) :: ([.fieldLink RX2 34 "GateHallsModel" "places" "[I", .fieldLink RX2 16 "GateHallsModel" "gifts" "[I", .methodLink RX2 49 yX2_in, .static yX2_in, .initialized RX2, .code yX2_in cX2_in 3 (some .boolean)] ++ wsX20)
def wsX2_trace : List Cond := .code yX2_trace cX2_trace 2 (some .int) :: ([.fieldLink RX2 61 "GateHallsModel" "traces" "I", .fieldLink RX2 40 "GateHallsModel" "traced" "[I", .methodLink RX2 49 yX2_in, .static yX2_in, .initialized RX2, .code yX2_in cX2_in 3 (some .boolean)] ++ wsX20)
def wsX2_count : List Cond := .code yX2_count cX2_count 4 (some .int) :: ([.fieldLink RX2 57 "GateHallsModel" "purse" "I", .fieldLink RX2 53 "GateHallsModel" "halls" "I", .fieldLink RX2 34 "GateHallsModel" "places" "[I", .fieldLink RX2 102 "GateHallsModel" "failure" "I", .fieldLink RX2 78 "GateHallsModel" "walks" "I", .fieldLink RX2 71 "GateHallsModel" "deepest" "I"] ++ wsX20)
def wsJ9_max_7cf53 : List Cond := .code yJ9_max_7cf53 cJ9_max_7cf53 2 (some .int) :: ([])
def wsJ9_min_7cf53 : List Cond := .code yJ9_min_7cf53 cJ9_min_7cf53 2 (some .int) :: ([])
def wsL_law_r1 : List Cond := [Cond.classLink RL 7 RX1, Cond.instantiable RX1 12, Cond.initialized RX1, Cond.classLink RL 10 RX2, Cond.instantiable RX2 20, Cond.initialized RX2, Cond.constantLong RL 36 (4294967295), Cond.methodLink RL 9 yX1_init, Cond.instanceMethod yX1_init, Cond.code yX1_init cX1_init 1 none, Cond.methodLink RX1 1 objectInit, Cond.instanceMethod objectInit, Cond.code objectInit ⟨#[0xb1]⟩ 1 none, Cond.classLink RX1 9 RX0, Cond.fieldLink RX1 11 "GateHalls" "halls" "[LGateHalls$Hall;", Cond.arrayClass .int, Cond.fieldLink RX1 15 "GateHalls" "parents" "[I", Cond.fieldLink RX1 19 "GateHalls" "path" "[I", Cond.fieldLink RX1 22 "GateHalls" "passed" "[LGateHalls$Hall;", Cond.fieldLink RX1 25 "GateHalls" "marks" "[I", Cond.methodLink RX1 28 yJ7_fill_53178, Cond.static yJ7_fill_53178, Cond.initialized RJ7, Cond.code yJ7_fill_53178 cJ7_fill_53178 4 none]
def wsL_law_r2 : List Cond := [Cond.methodLink RL 12 yX2_init, Cond.instanceMethod yX2_init, Cond.code yX2_init cX2_init 1 none, Cond.methodLink RX2 1 objectInit, Cond.fieldLink RX2 7 "GateHallsModel" "kinds" "[I", Cond.fieldLink RX2 13 "GateHallsModel" "fees" "[I", Cond.fieldLink RX2 16 "GateHallsModel" "gifts" "[I", Cond.fieldLink RX2 19 "GateHallsModel" "passes" "[I", Cond.fieldLink RX2 22 "GateHallsModel" "asks" "[I", Cond.fieldLink RX2 25 "GateHallsModel" "paid" "[I", Cond.fieldLink RX2 28 "GateHallsModel" "inside" "[I", Cond.fieldLink RX2 31 "GateHallsModel" "mosts" "[I", Cond.fieldLink RX2 34 "GateHallsModel" "places" "[I", Cond.fieldLink RX2 37 "GateHallsModel" "parents" "[I", Cond.fieldLink RX2 40 "GateHallsModel" "traced" "[I", Cond.fieldLink RX2 43 "GateHallsModel" "row" "[I", Cond.fieldLink RX2 46 "GateHallsModel" "path" "[I", Cond.methodLink RL 13 yX1_hall, Cond.instanceMethod yX1_hall, Cond.selects RX1 yX1_hall yX1_hall, Cond.code yX1_hall cX1_hall 5 (some .int), Cond.fieldLink RX1 38 "GateHalls" "hallsMade" "I", Cond.instantiable RX0 9, Cond.initialized RX0]
def wsL_law_r3 : List Cond := [Cond.methodLink RX1 34 yX1_isPlace, Cond.static yX1_isPlace, Cond.code yX1_isPlace cX1_isPlace 1 (some .boolean), Cond.instanceMethod yX0_init, Cond.code yX0_init cX0_init 4 none, Cond.methodLink RX0 3 objectInit, Cond.fieldLink RX0 9 "GateHalls$Hall" "number" "I", Cond.fieldLink RX0 15 "GateHalls$Hall" "kind" "I", Cond.fieldLink RX0 18 "GateHalls$Hall" "fee" "I", Cond.methodLink RL 17 yX2_hall, Cond.instanceMethod yX2_hall, Cond.selects RX2 yX2_hall yX2_hall, Cond.code yX2_hall cX2_hall 4 (some .int), Cond.fieldLink RX2 53 "GateHallsModel" "halls" "I", Cond.methodLink RX2 49 yX2_in, Cond.static yX2_in, Cond.code yX2_in cX2_in 3 (some .boolean), Cond.methodLink RL 18 yX1_share, Cond.instanceMethod yX1_share, Cond.selects RX1 yX1_share yX1_share, Cond.code yX1_share cX1_share 3 (some .int), Cond.methodLink RL 22 yX2_share, Cond.instanceMethod yX2_share, Cond.selects RX2 yX2_share yX2_share]
def wsL_law_r4 : List Cond := [Cond.code yX2_share cX2_share 3 (some .int), Cond.methodLink RL 23 yX1_parent, Cond.instanceMethod yX1_parent, Cond.selects RX1 yX1_parent yX1_parent, Cond.code yX1_parent cX1_parent 4 (some .int), Cond.methodLink RL 26 yX2_parent, Cond.instanceMethod yX2_parent, Cond.selects RX2 yX2_parent yX2_parent, Cond.code yX2_parent cX2_parent 4 (some .int), Cond.methodLink RL 27 yX1_fill, Cond.instanceMethod yX1_fill, Cond.selects RX1 yX1_fill yX1_fill, Cond.code yX1_fill cX1_fill 2 (some .int), Cond.fieldLink RX1 45 "GateHalls" "purse" "I", Cond.constant RX1 48 (1000000), Cond.methodLink RX1 49 Lib.Math.min.name, Cond.static Lib.Math.min.name, Cond.initialized "java/lang/Math", Cond.code Lib.Math.min.name Lib.Math.min.code 2 (some .int), Cond.methodLink RL 31 yX2_fill, Cond.instanceMethod yX2_fill, Cond.selects RX2 yX2_fill yX2_fill, Cond.code yX2_fill cX2_fill 2 (some .int), Cond.fieldLink RX2 57 "GateHallsModel" "purse" "I"]
def wsL_law_r5 : List Cond := [Cond.constant RX2 60 (1000000), Cond.methodLink RL 32 yX1_walk, Cond.instanceMethod yX1_walk, Cond.selects RX1 yX1_walk yX1_walk, Cond.code yX1_walk cX1_walk 4 (some .int), Cond.fieldLink RX1 55 "GateHalls" "marksLeft" "I", Cond.fieldLink RX1 58 "GateHalls" "deepest" "I", Cond.fieldLink RX1 65 "GateHalls" "latestFailure" "I", Cond.methodLink RX1 61 yX1_walkTo, Cond.instanceMethod yX1_walkTo, Cond.selects RX1 yX1_walkTo yX1_walkTo, Cond.code yX1_walkTo cX1_walkTo 8 (some .int), Cond.fieldLink RX1 90 "GateHalls" "walksBegun" "I", Cond.fieldLink RX1 96 "GateHalls" "depth" "I", Cond.methodLink RX1 93 yX1_findPath, Cond.instanceMethod yX1_findPath, Cond.selects RX1 yX1_findPath yX1_findPath, Cond.code yX1_findPath cX1_findPath 4 (some .int), Cond.methodLink RX1 99 yX1_passPath, Cond.instanceMethod yX1_passPath, Cond.selects RX1 yX1_passPath yX1_passPath, Cond.code yX1_passPath cX1_passPath 5 (some .int), Cond.methodLink RX1 75 yX1_hallAt, Cond.instanceMethod yX1_hallAt]
def wsL_law_r6 : List Cond := [Cond.selects RX1 yX1_hallAt yX1_hallAt, Cond.code yX1_hallAt cX1_hallAt 2 (some (.object "GateHalls$Hall")), Cond.methodLink RX1 110 yX1_passInto, Cond.instanceMethod yX1_passInto, Cond.selects RX1 yX1_passInto yX1_passInto, Cond.code yX1_passInto cX1_passInto 3 (some .int), Cond.methodLink RX1 117 Lib.Math.max.name, Cond.static Lib.Math.max.name, Cond.code Lib.Math.max.name Lib.Math.max.code 2 (some .int), Cond.instanceMethod yX0_enter, Cond.selects RX0 yX0_enter yX0_enter, Cond.code yX0_enter cX0_enter 1 none, Cond.fieldLink RX0 21 "GateHalls$Hall" "passes" "I", Cond.fieldLink RX0 24 "GateHalls$Hall" "inside" "I", Cond.fieldLink RX0 27 "GateHalls$Hall" "most" "I", Cond.methodLink RX0 30 Lib.Math.max.name, Cond.instanceMethod yX0_mark, Cond.selects RX0 yX0_mark yX0_mark, Cond.code yX0_mark cX0_mark 1 (some .int), Cond.methodLink RX1 123 yX1_leaveMark, Cond.instanceMethod yX1_leaveMark, Cond.selects RX1 yX1_leaveMark yX1_leaveMark, Cond.code yX1_leaveMark cX1_leaveMark 2 none, Cond.instanceMethod yX0_guardIsInTheWay]
def wsL_law_r7 : List Cond := [Cond.selects RX0 yX0_guardIsInTheWay yX0_guardIsInTheWay, Cond.code yX0_guardIsInTheWay cX0_guardIsInTheWay 1 (some .boolean), Cond.instanceMethod yX0_charge, Cond.selects RX0 yX0_charge yX0_charge, Cond.code yX0_charge cX0_charge 2 (some .int), Cond.methodLink RX1 102 yX1_doDeed, Cond.instanceMethod yX1_doDeed, Cond.selects RX1 yX1_doDeed yX1_doDeed, Cond.methodLink RX1 106 yX1_leaveUntil, Cond.instanceMethod yX1_leaveUntil, Cond.selects RX1 yX1_leaveUntil yX1_leaveUntil, Cond.code yX1_leaveUntil cX1_leaveUntil 3 none, Cond.code yX1_doDeed cX1_doDeed 5 (some .int), Cond.methodLink RX1 139 yX1_innermost, Cond.instanceMethod yX1_innermost, Cond.selects RX1 yX1_innermost yX1_innermost, Cond.code yX1_innermost cX1_innermost 1 (some (.object "GateHalls$Hall")), Cond.methodLink RX1 143 yX1_takeGifts, Cond.instanceMethod yX1_takeGifts, Cond.selects RX1 yX1_takeGifts yX1_takeGifts, Cond.code yX1_takeGifts cX1_takeGifts 3 (some .int), Cond.methodLink RX1 156 yX1_addToPurse, Cond.instanceMethod yX1_addToPurse, Cond.selects RX1 yX1_addToPurse yX1_addToPurse]
def wsL_law_r8 : List Cond := [Cond.code yX1_addToPurse cX1_addToPurse 4 (some .int), Cond.constantLong RX1 159 (1000000), Cond.methodLink RX1 146 yX1_divideGifts, Cond.static yX1_divideGifts, Cond.code yX1_divideGifts cX1_divideGifts 2 (some .int), Cond.methodLink RX1 150 yJ9_floorMod_7cf53, Cond.static yJ9_floorMod_7cf53, Cond.initialized RJ9, Cond.code yJ9_floorMod_7cf53 cJ9_floorMod_7cf53 3 (some .int), Cond.methodLink RX1 153 yX1_walkOn, Cond.instanceMethod yX1_walkOn, Cond.selects RX1 yX1_walkOn yX1_walkOn, Cond.code yX1_walkOn cX1_walkOn 4 (some .int), Cond.methodLink RL 35 yX2_walk, Cond.instanceMethod yX2_walk, Cond.selects RX2 yX2_walk yX2_walk, Cond.code yX2_walk cX2_walk 4 (some .int), Cond.fieldLink RX2 61 "GateHallsModel" "traces" "I", Cond.fieldLink RX2 71 "GateHallsModel" "deepest" "I", Cond.fieldLink RX2 68 "GateHallsModel" "within" "I", Cond.fieldLink RX2 102 "GateHallsModel" "failure" "I", Cond.methodLink RX2 89 yX2_goTo, Cond.instanceMethod yX2_goTo, Cond.selects RX2 yX2_goTo yX2_goTo]
def wsL_law_r9 : List Cond := [Cond.code yX2_goTo cX2_goTo 7 (some .int), Cond.fieldLink RX2 78 "GateHallsModel" "walks" "I", Cond.methodLink RX2 81 yX2_pass, Cond.instanceMethod yX2_pass, Cond.selects RX2 yX2_pass yX2_pass, Cond.code yX2_pass cX2_pass 2 (some .int), Cond.methodLink RX2 64 yX2_leave, Cond.instanceMethod yX2_leave, Cond.selects RX2 yX2_leave yX2_leave, Cond.code yX2_leave cX2_leave 2 none, Cond.methodLink RX2 74 yX2_charge, Cond.instanceMethod yX2_charge, Cond.selects RX2 yX2_charge yX2_charge, Cond.code yX2_charge cX2_charge 2 (some .int), Cond.methodLink RX2 105 yX2_does, Cond.instanceMethod yX2_does, Cond.selects RX2 yX2_does yX2_does, Cond.code yX2_does cX2_does 4 (some .int), Cond.methodLink RX2 95 yX2_rich, Cond.instanceMethod yX2_rich, Cond.selects RX2 yX2_rich yX2_rich, Cond.code yX2_rich cX2_rich 5 (some .int), Cond.constantLong RX2 84 (1000000), Cond.methodLink RX2 86 yX2_ten]
def wsL_law_r10 : List Cond := [Cond.static yX2_ten, Cond.code yX2_ten cX2_ten 2 (some .int), Cond.methodLink RX2 99 yX2_goesOn, Cond.instanceMethod yX2_goesOn, Cond.selects RX2 yX2_goesOn yX2_goesOn, Cond.code yX2_goesOn cX2_goesOn 7 (some .int), Cond.methodLink RX2 92 yX2_leaveTo, Cond.instanceMethod yX2_leaveTo, Cond.selects RX2 yX2_leaveTo yX2_leaveTo, Cond.code yX2_leaveTo cX2_leaveTo 2 none, Cond.methodLink RL 38 yX1_seek, Cond.instanceMethod yX1_seek, Cond.selects RX1 yX1_seek yX1_seek, Cond.code yX1_seek cX1_seek 6 (some .int), Cond.methodLink RX1 71 yX1_seekPartner, Cond.instanceMethod yX1_seekPartner, Cond.selects RX1 yX1_seekPartner yX1_seekPartner, Cond.code yX1_seekPartner cX1_seekPartner 7 (some .int), Cond.methodLink RL 42 yX2_seek, Cond.instanceMethod yX2_seek, Cond.selects RX2 yX2_seek yX2_seek, Cond.code yX2_seek cX2_seek 8 (some .int), Cond.methodLink RL 43 yX1_told, Cond.instanceMethod yX1_told]
def wsL_law_r11 : List Cond := [Cond.selects RX1 yX1_told yX1_told, Cond.code yX1_told cX1_told 4 (some .int), Cond.instanceMethod yX0_fact, Cond.selects RX0 yX0_fact yX0_fact, Cond.code yX0_fact cX0_fact 2 (some .int), Cond.fieldLink RX0 36 "GateHalls$Hall" "asks" "I", Cond.fieldLink RX0 39 "GateHalls$Hall" "paid" "I", Cond.methodLink RL 46 yX2_told, Cond.instanceMethod yX2_told, Cond.selects RX2 yX2_told yX2_told, Cond.code yX2_told cX2_told 4 (some .int), Cond.methodLink RL 47 yX1_gifts, Cond.instanceMethod yX1_gifts, Cond.selects RX1 yX1_gifts yX1_gifts, Cond.code yX1_gifts cX1_gifts 3 (some .int), Cond.methodLink RL 50 yX2_gifts, Cond.instanceMethod yX2_gifts, Cond.selects RX2 yX2_gifts yX2_gifts, Cond.code yX2_gifts cX2_gifts 2 (some .int), Cond.methodLink RL 51 yX1_trace, Cond.instanceMethod yX1_trace, Cond.selects RX1 yX1_trace yX1_trace, Cond.code yX1_trace cX1_trace 2 (some .int), Cond.methodLink RL 54 yX2_trace]
def wsL_law_r12 : List Cond := [Cond.instanceMethod yX2_trace, Cond.selects RX2 yX2_trace yX2_trace, Cond.code yX2_trace cX2_trace 2 (some .int), Cond.methodLink RL 55 yX1_count, Cond.instanceMethod yX1_count, Cond.selects RX1 yX1_count yX1_count, Cond.code yX1_count cX1_count 2 (some .int), Cond.methodLink RX1 86 yX1_placesWithHall, Cond.instanceMethod yX1_placesWithHall, Cond.selects RX1 yX1_placesWithHall yX1_placesWithHall, Cond.code yX1_placesWithHall cX1_placesWithHall 3 (some .int), Cond.methodLink RL 58 yX2_count, Cond.instanceMethod yX2_count, Cond.selects RX2 yX2_count yX2_count, Cond.code yX2_count cX2_count 4 (some .int)]
def wsL_law : List Cond := (wsL_law_r1 ++ (wsL_law_r2 ++ (wsL_law_r3 ++ (wsL_law_r4 ++ (wsL_law_r5 ++ (wsL_law_r6 ++ (wsL_law_r7 ++ (wsL_law_r8 ++ (wsL_law_r9 ++ (wsL_law_r10 ++ (wsL_law_r11 ++ wsL_law_r12))))))))))) ++ wsX10 ++ wsX20 ++ wsX00 ++ ([] : List Cond)
set_option maxRecDepth 20000 in
theorem wsL_law_in : ∀ w ∈ wsL_law, w ∈ lw_tbl := fun w h => (goodIn_p wsL_law [37, 40, 45, 258, 87, 90, 94, 324, 327, 130, 331, 134, 335, 138, 142, 339, 146, 150, 154, 158, 162, 166, 173, 170, 178, 182, 186, 190, 221, 194, 198, 202, 206, 210, 213, 217, 344, 348, 352, 356, 360, 364, 368, 372, 376, 380, 225, 229, 384, 233, 237, 388, 241, 392, 245, 396, 249, 253, 400] (by decide +kernel) (by decide +kernel) w h).1
theorem inlX0 : ∀ w ∈ wsX00, w ∈ wsL_law := fun _ h => List.mem_append_left _ (List.mem_append_right _ h)
theorem inX0 : ∀ w ∈ wsX00, w ∈ lw_tbl := fun w h => wsL_law_in w (inlX0 w h)
theorem inlX1 : ∀ w ∈ wsX10, w ∈ wsL_law := fun _ h => List.mem_append_left _ (List.mem_append_left _ (List.mem_append_left _ (List.mem_append_right _ h)))
theorem inX1 : ∀ w ∈ wsX10, w ∈ lw_tbl := fun w h => wsL_law_in w (inlX1 w h)
theorem inlX2 : ∀ w ∈ wsX20, w ∈ wsL_law := fun _ h => List.mem_append_left _ (List.mem_append_left _ (List.mem_append_right _ h))
theorem inX2 : ∀ w ∈ wsX20, w ∈ lw_tbl := fun w h => wsL_law_in w (inlX2 w h)
theorem inJ9 : ∀ w ∈ wsJ90, w ∈ lw_tbl := by decide +kernel
theorem inJ7 : ∀ w ∈ wsJ70, w ∈ lw_tbl := by decide +kernel
theorem dX0_init_0 : decode cX0_init 0 = .ok (.aload_n 0, 1) := by decide +kernel
theorem dX0_init_1 : decode cX0_init 1 = .ok (.invokespecial 3, 3) := by decide +kernel
theorem dX0_init_4 : decode cX0_init 4 = .ok (.aload_n 0, 1) := by decide +kernel
theorem dX0_init_5 : decode cX0_init 5 = .ok (.iload_n 1, 1) := by decide +kernel
theorem dX0_init_6 : decode cX0_init 6 = .ok (.putfield 9, 3) := by decide +kernel
theorem dX0_init_9 : decode cX0_init 9 = .ok (.aload_n 0, 1) := by decide +kernel
theorem dX0_init_10 : decode cX0_init 10 = .ok (.iload_n 2, 1) := by decide +kernel
theorem dX0_init_11 : decode cX0_init 11 = .ok (.putfield 15, 3) := by decide +kernel
theorem dX0_init_14 : decode cX0_init 14 = .ok (.aload_n 0, 1) := by decide +kernel
theorem dX0_init_15 : decode cX0_init 15 = .ok (.iload_n 3, 1) := by decide +kernel
theorem dX0_init_16 : decode cX0_init 16 = .ok (.putfield 18, 3) := by decide +kernel
theorem dX0_init_19 : decode cX0_init 19 = .ok (.return_, 1) := by decide +kernel
theorem dX0_enter_0 : decode cX0_enter 0 = .ok (.aload_n 0, 1) := by decide +kernel
theorem dX0_enter_1 : decode cX0_enter 1 = .ok (.dup, 1) := by decide +kernel
theorem dX0_enter_2 : decode cX0_enter 2 = .ok (.getfield 21, 3) := by decide +kernel
theorem dX0_enter_5 : decode cX0_enter 5 = .ok (.iconst 1, 1) := by decide +kernel
theorem dX0_enter_6 : decode cX0_enter 6 = .ok (.iadd, 1) := by decide +kernel
theorem dX0_enter_7 : decode cX0_enter 7 = .ok (.putfield 21, 3) := by decide +kernel
theorem dX0_enter_10 : decode cX0_enter 10 = .ok (.aload_n 0, 1) := by decide +kernel
theorem dX0_enter_11 : decode cX0_enter 11 = .ok (.dup, 1) := by decide +kernel
theorem dX0_enter_12 : decode cX0_enter 12 = .ok (.getfield 24, 3) := by decide +kernel
theorem dX0_enter_15 : decode cX0_enter 15 = .ok (.iconst 1, 1) := by decide +kernel
theorem dX0_enter_16 : decode cX0_enter 16 = .ok (.iadd, 1) := by decide +kernel
theorem dX0_enter_17 : decode cX0_enter 17 = .ok (.putfield 24, 3) := by decide +kernel
theorem dX0_enter_20 : decode cX0_enter 20 = .ok (.aload_n 0, 1) := by decide +kernel
theorem dX0_enter_21 : decode cX0_enter 21 = .ok (.aload_n 0, 1) := by decide +kernel
theorem dX0_enter_22 : decode cX0_enter 22 = .ok (.getfield 27, 3) := by decide +kernel
theorem dX0_enter_25 : decode cX0_enter 25 = .ok (.aload_n 0, 1) := by decide +kernel
theorem dX0_enter_26 : decode cX0_enter 26 = .ok (.getfield 24, 3) := by decide +kernel
theorem dX0_enter_29 : decode cX0_enter 29 = .ok (.invokestatic 30, 3) := by decide +kernel
theorem dX0_enter_32 : decode cX0_enter 32 = .ok (.putfield 27, 3) := by decide +kernel
theorem dX0_enter_35 : decode cX0_enter 35 = .ok (.return_, 1) := by decide +kernel
theorem dX0_guardIsInTheWay_0 : decode cX0_guardIsInTheWay 0 = .ok (.aload_n 0, 1) := by decide +kernel
theorem dX0_guardIsInTheWay_1 : decode cX0_guardIsInTheWay 1 = .ok (.getfield 15, 3) := by decide +kernel
theorem dX0_guardIsInTheWay_4 : decode cX0_guardIsInTheWay 4 = .ok (.iconst 2, 1) := by decide +kernel
theorem dX0_guardIsInTheWay_5 : decode cX0_guardIsInTheWay 5 = .ok (.if_icmp .ne 16, 3) := by decide +kernel
theorem dX0_guardIsInTheWay_8 : decode cX0_guardIsInTheWay 8 = .ok (.aload_n 0, 1) := by decide +kernel
theorem dX0_guardIsInTheWay_9 : decode cX0_guardIsInTheWay 9 = .ok (.getfield 21, 3) := by decide +kernel
theorem dX0_guardIsInTheWay_12 : decode cX0_guardIsInTheWay 12 = .ok (.iconst 3, 1) := by decide +kernel
theorem dX0_guardIsInTheWay_13 : decode cX0_guardIsInTheWay 13 = .ok (.irem, 1) := by decide +kernel
theorem dX0_guardIsInTheWay_14 : decode cX0_guardIsInTheWay 14 = .ok (.ifCond .ne 7, 3) := by decide +kernel
theorem dX0_guardIsInTheWay_17 : decode cX0_guardIsInTheWay 17 = .ok (.iconst 1, 1) := by decide +kernel
theorem dX0_guardIsInTheWay_18 : decode cX0_guardIsInTheWay 18 = .ok (.goto 4, 3) := by decide +kernel
theorem dX0_guardIsInTheWay_21 : decode cX0_guardIsInTheWay 21 = .ok (.iconst 0, 1) := by decide +kernel
theorem dX0_guardIsInTheWay_22 : decode cX0_guardIsInTheWay 22 = .ok (.ireturn, 1) := by decide +kernel
theorem dX0_charge_0 : decode cX0_charge 0 = .ok (.aload_n 0, 1) := by decide +kernel
theorem dX0_charge_1 : decode cX0_charge 1 = .ok (.getfield 15, 3) := by decide +kernel
theorem dX0_charge_4 : decode cX0_charge 4 = .ok (.ifCond .ne 8, 3) := by decide +kernel
theorem dX0_charge_7 : decode cX0_charge 7 = .ok (.aload_n 0, 1) := by decide +kernel
theorem dX0_charge_8 : decode cX0_charge 8 = .ok (.getfield 18, 3) := by decide +kernel
theorem dX0_charge_11 : decode cX0_charge 11 = .ok (.ireturn, 1) := by decide +kernel
theorem dX0_charge_12 : decode cX0_charge 12 = .ok (.aload_n 0, 1) := by decide +kernel
theorem dX0_charge_13 : decode cX0_charge 13 = .ok (.getfield 18, 3) := by decide +kernel
theorem dX0_charge_16 : decode cX0_charge 16 = .ok (.aload_n 0, 1) := by decide +kernel
theorem dX0_charge_17 : decode cX0_charge 17 = .ok (.getfield 21, 3) := by decide +kernel
theorem dX0_charge_20 : decode cX0_charge 20 = .ok (.iadd, 1) := by decide +kernel
theorem dX0_charge_21 : decode cX0_charge 21 = .ok (.istore_n 1, 1) := by decide +kernel
theorem dX0_charge_22 : decode cX0_charge 22 = .ok (.aload_n 0, 1) := by decide +kernel
theorem dX0_charge_23 : decode cX0_charge 23 = .ok (.getfield 15, 3) := by decide +kernel
theorem dX0_charge_26 : decode cX0_charge 26 = .ok (.iconst 2, 1) := by decide +kernel
theorem dX0_charge_27 : decode cX0_charge 27 = .ok (.if_icmp .ne 9, 3) := by decide +kernel
theorem dX0_charge_30 : decode cX0_charge 30 = .ok (.iconst 2, 1) := by decide +kernel
theorem dX0_charge_31 : decode cX0_charge 31 = .ok (.iload_n 1, 1) := by decide +kernel
theorem dX0_charge_32 : decode cX0_charge 32 = .ok (.imul, 1) := by decide +kernel
theorem dX0_charge_33 : decode cX0_charge 33 = .ok (.goto 4, 3) := by decide +kernel
theorem dX0_charge_36 : decode cX0_charge 36 = .ok (.iload_n 1, 1) := by decide +kernel
theorem dX0_charge_37 : decode cX0_charge 37 = .ok (.ireturn, 1) := by decide +kernel
theorem dX0_mark_0 : decode cX0_mark 0 = .ok (.aload_n 0, 1) := by decide +kernel
theorem dX0_mark_1 : decode cX0_mark 1 = .ok (.getfield 9, 3) := by decide +kernel
theorem dX0_mark_4 : decode cX0_mark 4 = .ok (.bipush 100, 2) := by decide +kernel
theorem dX0_mark_6 : decode cX0_mark 6 = .ok (.irem, 1) := by decide +kernel
theorem dX0_mark_7 : decode cX0_mark 7 = .ok (.ireturn, 1) := by decide +kernel
theorem dX0_fact_0 : decode cX0_fact 0 = .ok (.iload_n 1, 1) := by decide +kernel
theorem dX0_fact_1 : decode cX0_fact 1 = .ok (.tableswitch 87 0 7 #[47, 52, 57, 62, 67, 72, 77, 82], 47) := by decide +kernel
theorem dX0_fact_48 : decode cX0_fact 48 = .ok (.aload_n 0, 1) := by decide +kernel
theorem dX0_fact_49 : decode cX0_fact 49 = .ok (.getfield 9, 3) := by decide +kernel
theorem dX0_fact_52 : decode cX0_fact 52 = .ok (.ireturn, 1) := by decide +kernel
theorem dX0_fact_53 : decode cX0_fact 53 = .ok (.aload_n 0, 1) := by decide +kernel
theorem dX0_fact_54 : decode cX0_fact 54 = .ok (.getfield 15, 3) := by decide +kernel
theorem dX0_fact_57 : decode cX0_fact 57 = .ok (.ireturn, 1) := by decide +kernel
theorem dX0_fact_58 : decode cX0_fact 58 = .ok (.aload_n 0, 1) := by decide +kernel
theorem dX0_fact_59 : decode cX0_fact 59 = .ok (.getfield 18, 3) := by decide +kernel
theorem dX0_fact_62 : decode cX0_fact 62 = .ok (.ireturn, 1) := by decide +kernel
theorem dX0_fact_63 : decode cX0_fact 63 = .ok (.aload_n 0, 1) := by decide +kernel
theorem dX0_fact_64 : decode cX0_fact 64 = .ok (.getfield 21, 3) := by decide +kernel
theorem dX0_fact_67 : decode cX0_fact 67 = .ok (.ireturn, 1) := by decide +kernel
theorem dX0_fact_68 : decode cX0_fact 68 = .ok (.aload_n 0, 1) := by decide +kernel
theorem dX0_fact_69 : decode cX0_fact 69 = .ok (.getfield 36, 3) := by decide +kernel
theorem dX0_fact_72 : decode cX0_fact 72 = .ok (.ireturn, 1) := by decide +kernel
theorem dX0_fact_73 : decode cX0_fact 73 = .ok (.aload_n 0, 1) := by decide +kernel
theorem dX0_fact_74 : decode cX0_fact 74 = .ok (.getfield 39, 3) := by decide +kernel
theorem dX0_fact_77 : decode cX0_fact 77 = .ok (.ireturn, 1) := by decide +kernel
theorem dX0_fact_78 : decode cX0_fact 78 = .ok (.aload_n 0, 1) := by decide +kernel
theorem dX0_fact_79 : decode cX0_fact 79 = .ok (.getfield 24, 3) := by decide +kernel
theorem dX0_fact_82 : decode cX0_fact 82 = .ok (.ireturn, 1) := by decide +kernel
theorem dX0_fact_83 : decode cX0_fact 83 = .ok (.aload_n 0, 1) := by decide +kernel
theorem dX0_fact_84 : decode cX0_fact 84 = .ok (.getfield 27, 3) := by decide +kernel
theorem dX0_fact_87 : decode cX0_fact 87 = .ok (.ireturn, 1) := by decide +kernel
theorem dX0_fact_88 : decode cX0_fact 88 = .ok (.iconst (-1), 1) := by decide +kernel
theorem dX0_fact_89 : decode cX0_fact 89 = .ok (.ireturn, 1) := by decide +kernel
set_option maxRecDepth 20000 in
theorem ggX1_init_J7_fill_53178 : GoodIn wsX1_init wsJ7_fill_53178 := goodIn_r _ [14] (by decide +kernel) (by decide +kernel)
set_option maxRecDepth 20000 in
theorem gX1_init_J7_fill_53178 : GoodIn wsX1_init (va_wsS RX1 28 yJ7_fill_53178 wsJ7_fill_53178) := goodIn_app (goodIn_of _ (by decide +kernel)) ggX1_init_J7_fill_53178
theorem dX1_init_0 : decode cX1_init 0 = .ok (.aload_n 0, 1) := by decide +kernel
theorem dX1_init_1 : decode cX1_init 1 = .ok (.invokespecial 1, 3) := by decide +kernel
theorem dX1_init_4 : decode cX1_init 4 = .ok (.aload_n 0, 1) := by decide +kernel
theorem dX1_init_5 : decode cX1_init 5 = .ok (.bipush 10, 2) := by decide +kernel
theorem dX1_init_7 : decode cX1_init 7 = .ok (.anewarray 9, 3) := by decide +kernel
theorem dX1_init_10 : decode cX1_init 10 = .ok (.putfield 11, 3) := by decide +kernel
theorem dX1_init_13 : decode cX1_init 13 = .ok (.aload_n 0, 1) := by decide +kernel
theorem dX1_init_14 : decode cX1_init 14 = .ok (.bipush 10, 2) := by decide +kernel
theorem dX1_init_16 : decode cX1_init 16 = .ok (.newarray .int, 2) := by decide +kernel
theorem dX1_init_18 : decode cX1_init 18 = .ok (.putfield 15, 3) := by decide +kernel
theorem dX1_init_21 : decode cX1_init 21 = .ok (.aload_n 0, 1) := by decide +kernel
theorem dX1_init_22 : decode cX1_init 22 = .ok (.bipush 10, 2) := by decide +kernel
theorem dX1_init_24 : decode cX1_init 24 = .ok (.newarray .int, 2) := by decide +kernel
theorem dX1_init_26 : decode cX1_init 26 = .ok (.putfield 19, 3) := by decide +kernel
theorem dX1_init_29 : decode cX1_init 29 = .ok (.aload_n 0, 1) := by decide +kernel
theorem dX1_init_30 : decode cX1_init 30 = .ok (.bipush 30, 2) := by decide +kernel
theorem dX1_init_32 : decode cX1_init 32 = .ok (.anewarray 9, 3) := by decide +kernel
theorem dX1_init_35 : decode cX1_init 35 = .ok (.putfield 22, 3) := by decide +kernel
theorem dX1_init_38 : decode cX1_init 38 = .ok (.aload_n 0, 1) := by decide +kernel
theorem dX1_init_39 : decode cX1_init 39 = .ok (.bipush 100, 2) := by decide +kernel
theorem dX1_init_41 : decode cX1_init 41 = .ok (.newarray .int, 2) := by decide +kernel
theorem dX1_init_43 : decode cX1_init 43 = .ok (.putfield 25, 3) := by decide +kernel
theorem dX1_init_46 : decode cX1_init 46 = .ok (.aload_n 0, 1) := by decide +kernel
theorem dX1_init_47 : decode cX1_init 47 = .ok (.getfield 15, 3) := by decide +kernel
theorem dX1_init_50 : decode cX1_init 50 = .ok (.iconst (-1), 1) := by decide +kernel
theorem dX1_init_51 : decode cX1_init 51 = .ok (.invokestatic 28, 3) := by decide +kernel
theorem dX1_init_54 : decode cX1_init 54 = .ok (.return_, 1) := by decide +kernel
set_option maxRecDepth 20000 in
theorem ggX1_hall_X1_isPlace : GoodIn wsX1_hall wsX1_isPlace := goodIn_r _ [9] (by decide +kernel) (by decide +kernel)
set_option maxRecDepth 20000 in
theorem gX1_hall_X1_isPlace : GoodIn wsX1_hall (va_wsS RX1 34 yX1_isPlace wsX1_isPlace) := goodIn_app (goodIn_of _ (by decide +kernel)) ggX1_hall_X1_isPlace
set_option maxRecDepth 20000 in
theorem ggX1_hall_X0_init : GoodIn wsX1_hall wsX0_init := goodIn_r _ [11, 12, 13, 14, 15, 16, 17, 30, 31, 32, 33, 34, 35, 36, 37, 38] (by decide +kernel) (by decide +kernel)
set_option maxRecDepth 20000 in
theorem gX1_hall_X0_init_n42 : GoodIn wsX1_hall (wsX0_init) := ggX1_hall_X0_init
theorem dX1_hall_0 : decode cX1_hall 0 = .ok (.iload_n 1, 1) := by decide +kernel
theorem dX1_hall_1 : decode cX1_hall 1 = .ok (.invokestatic 34, 3) := by decide +kernel
theorem dX1_hall_4 : decode cX1_hall 4 = .ok (.ifCond .eq 23, 3) := by decide +kernel
theorem dX1_hall_7 : decode cX1_hall 7 = .ok (.iload_n 2, 1) := by decide +kernel
theorem dX1_hall_8 : decode cX1_hall 8 = .ok (.ifCond .lt 19, 3) := by decide +kernel
theorem dX1_hall_11 : decode cX1_hall 11 = .ok (.iload_n 2, 1) := by decide +kernel
theorem dX1_hall_12 : decode cX1_hall 12 = .ok (.iconst 2, 1) := by decide +kernel
theorem dX1_hall_13 : decode cX1_hall 13 = .ok (.if_icmp .gt 14, 3) := by decide +kernel
theorem dX1_hall_16 : decode cX1_hall 16 = .ok (.iload_n 3, 1) := by decide +kernel
theorem dX1_hall_17 : decode cX1_hall 17 = .ok (.ifCond .lt 10, 3) := by decide +kernel
theorem dX1_hall_20 : decode cX1_hall 20 = .ok (.iload_n 3, 1) := by decide +kernel
theorem dX1_hall_21 : decode cX1_hall 21 = .ok (.sipush 1000, 3) := by decide +kernel
theorem dX1_hall_24 : decode cX1_hall 24 = .ok (.if_icmp .le 5, 3) := by decide +kernel
theorem dX1_hall_27 : decode cX1_hall 27 = .ok (.iconst (-1), 1) := by decide +kernel
theorem dX1_hall_28 : decode cX1_hall 28 = .ok (.ireturn, 1) := by decide +kernel
theorem dX1_hall_29 : decode cX1_hall 29 = .ok (.aload_n 0, 1) := by decide +kernel
theorem dX1_hall_30 : decode cX1_hall 30 = .ok (.getfield 38, 3) := by decide +kernel
theorem dX1_hall_33 : decode cX1_hall 33 = .ok (.istore 4, 2) := by decide +kernel
theorem dX1_hall_35 : decode cX1_hall 35 = .ok (.aload_n 0, 1) := by decide +kernel
theorem dX1_hall_36 : decode cX1_hall 36 = .ok (.getfield 11, 3) := by decide +kernel
theorem dX1_hall_39 : decode cX1_hall 39 = .ok (.iload_n 1, 1) := by decide +kernel
theorem dX1_hall_40 : decode cX1_hall 40 = .ok (.new 9, 3) := by decide +kernel
theorem dX1_hall_43 : decode cX1_hall 43 = .ok (.dup, 1) := by decide +kernel
theorem dX1_hall_44 : decode cX1_hall 44 = .ok (.iload 4, 2) := by decide +kernel
theorem dX1_hall_46 : decode cX1_hall 46 = .ok (.iload_n 2, 1) := by decide +kernel
theorem dX1_hall_47 : decode cX1_hall 47 = .ok (.iload_n 3, 1) := by decide +kernel
theorem dX1_hall_48 : decode cX1_hall 48 = .ok (.invokespecial 42, 3) := by decide +kernel
theorem dX1_hall_51 : decode cX1_hall 51 = .ok (.aastore, 1) := by decide +kernel
theorem dX1_hall_52 : decode cX1_hall 52 = .ok (.aload_n 0, 1) := by decide +kernel
theorem dX1_hall_53 : decode cX1_hall 53 = .ok (.dup, 1) := by decide +kernel
theorem dX1_hall_54 : decode cX1_hall 54 = .ok (.getfield 38, 3) := by decide +kernel
theorem dX1_hall_57 : decode cX1_hall 57 = .ok (.iconst 1, 1) := by decide +kernel
theorem dX1_hall_58 : decode cX1_hall 58 = .ok (.iadd, 1) := by decide +kernel
theorem dX1_hall_59 : decode cX1_hall 59 = .ok (.putfield 38, 3) := by decide +kernel
theorem dX1_hall_62 : decode cX1_hall 62 = .ok (.iload 4, 2) := by decide +kernel
theorem dX1_hall_64 : decode cX1_hall 64 = .ok (.ireturn, 1) := by decide +kernel
set_option maxRecDepth 20000 in
theorem ggX1_share_X1_isPlace : GoodIn wsX1_share wsX1_isPlace := goodIn_r _ [5] (by decide +kernel) (by decide +kernel)
set_option maxRecDepth 20000 in
theorem gX1_share_X1_isPlace : GoodIn wsX1_share (va_wsS RX1 34 yX1_isPlace wsX1_isPlace) := goodIn_app (goodIn_of _ (by decide +kernel)) ggX1_share_X1_isPlace
theorem dX1_share_0 : decode cX1_share 0 = .ok (.iload_n 1, 1) := by decide +kernel
theorem dX1_share_1 : decode cX1_share 1 = .ok (.invokestatic 34, 3) := by decide +kernel
theorem dX1_share_4 : decode cX1_share 4 = .ok (.ifCond .eq 10, 3) := by decide +kernel
theorem dX1_share_7 : decode cX1_share 7 = .ok (.iload_n 2, 1) := by decide +kernel
theorem dX1_share_8 : decode cX1_share 8 = .ok (.invokestatic 34, 3) := by decide +kernel
theorem dX1_share_11 : decode cX1_share 11 = .ok (.ifCond .ne 5, 3) := by decide +kernel
theorem dX1_share_14 : decode cX1_share 14 = .ok (.iconst (-1), 1) := by decide +kernel
theorem dX1_share_15 : decode cX1_share 15 = .ok (.ireturn, 1) := by decide +kernel
theorem dX1_share_16 : decode cX1_share 16 = .ok (.aload_n 0, 1) := by decide +kernel
theorem dX1_share_17 : decode cX1_share 17 = .ok (.getfield 11, 3) := by decide +kernel
theorem dX1_share_20 : decode cX1_share 20 = .ok (.iload_n 2, 1) := by decide +kernel
theorem dX1_share_21 : decode cX1_share 21 = .ok (.aload_n 0, 1) := by decide +kernel
theorem dX1_share_22 : decode cX1_share 22 = .ok (.getfield 11, 3) := by decide +kernel
theorem dX1_share_25 : decode cX1_share 25 = .ok (.iload_n 1, 1) := by decide +kernel
theorem dX1_share_26 : decode cX1_share 26 = .ok (.aaload, 1) := by decide +kernel
theorem dX1_share_27 : decode cX1_share 27 = .ok (.aastore, 1) := by decide +kernel
theorem dX1_share_28 : decode cX1_share 28 = .ok (.aload_n 0, 1) := by decide +kernel
theorem dX1_share_29 : decode cX1_share 29 = .ok (.getfield 11, 3) := by decide +kernel
theorem dX1_share_32 : decode cX1_share 32 = .ok (.iload_n 2, 1) := by decide +kernel
theorem dX1_share_33 : decode cX1_share 33 = .ok (.aaload, 1) := by decide +kernel
theorem dX1_share_34 : decode cX1_share 34 = .ok (.ifnonnull 7, 3) := by decide +kernel
theorem dX1_share_37 : decode cX1_share 37 = .ok (.iconst 0, 1) := by decide +kernel
theorem dX1_share_38 : decode cX1_share 38 = .ok (.goto 4, 3) := by decide +kernel
theorem dX1_share_41 : decode cX1_share 41 = .ok (.iconst 1, 1) := by decide +kernel
theorem dX1_share_42 : decode cX1_share 42 = .ok (.ireturn, 1) := by decide +kernel
set_option maxRecDepth 20000 in
theorem ggX1_parent_X1_isPlace : GoodIn wsX1_parent wsX1_isPlace := goodIn_r _ [5] (by decide +kernel) (by decide +kernel)
set_option maxRecDepth 20000 in
theorem gX1_parent_X1_isPlace : GoodIn wsX1_parent (va_wsS RX1 34 yX1_isPlace wsX1_isPlace) := goodIn_app (goodIn_of _ (by decide +kernel)) ggX1_parent_X1_isPlace
theorem dX1_parent_0 : decode cX1_parent 0 = .ok (.iload_n 1, 1) := by decide +kernel
theorem dX1_parent_1 : decode cX1_parent 1 = .ok (.invokestatic 34, 3) := by decide +kernel
theorem dX1_parent_4 : decode cX1_parent 4 = .ok (.ifCond .eq 15, 3) := by decide +kernel
theorem dX1_parent_7 : decode cX1_parent 7 = .ok (.iload_n 2, 1) := by decide +kernel
theorem dX1_parent_8 : decode cX1_parent 8 = .ok (.iconst (-1), 1) := by decide +kernel
theorem dX1_parent_9 : decode cX1_parent 9 = .ok (.if_icmp .eq 13, 3) := by decide +kernel
theorem dX1_parent_12 : decode cX1_parent 12 = .ok (.iload_n 2, 1) := by decide +kernel
theorem dX1_parent_13 : decode cX1_parent 13 = .ok (.invokestatic 34, 3) := by decide +kernel
theorem dX1_parent_16 : decode cX1_parent 16 = .ok (.ifCond .ne 6, 3) := by decide +kernel
theorem dX1_parent_19 : decode cX1_parent 19 = .ok (.bipush (-2), 2) := by decide +kernel
theorem dX1_parent_21 : decode cX1_parent 21 = .ok (.ireturn, 1) := by decide +kernel
theorem dX1_parent_22 : decode cX1_parent 22 = .ok (.aload_n 0, 1) := by decide +kernel
theorem dX1_parent_23 : decode cX1_parent 23 = .ok (.getfield 15, 3) := by decide +kernel
theorem dX1_parent_26 : decode cX1_parent 26 = .ok (.iload_n 1, 1) := by decide +kernel
theorem dX1_parent_27 : decode cX1_parent 27 = .ok (.iaload, 1) := by decide +kernel
theorem dX1_parent_28 : decode cX1_parent 28 = .ok (.istore_n 3, 1) := by decide +kernel
theorem dX1_parent_29 : decode cX1_parent 29 = .ok (.aload_n 0, 1) := by decide +kernel
theorem dX1_parent_30 : decode cX1_parent 30 = .ok (.getfield 15, 3) := by decide +kernel
theorem dX1_parent_33 : decode cX1_parent 33 = .ok (.iload_n 1, 1) := by decide +kernel
theorem dX1_parent_34 : decode cX1_parent 34 = .ok (.iload_n 2, 1) := by decide +kernel
theorem dX1_parent_35 : decode cX1_parent 35 = .ok (.iastore, 1) := by decide +kernel
theorem dX1_parent_36 : decode cX1_parent 36 = .ok (.iload_n 3, 1) := by decide +kernel
theorem dX1_parent_37 : decode cX1_parent 37 = .ok (.ireturn, 1) := by decide +kernel
theorem dX1_fill_0 : decode cX1_fill 0 = .ok (.iload_n 1, 1) := by decide +kernel
theorem dX1_fill_1 : decode cX1_fill 1 = .ok (.ifCond .lt 10, 3) := by decide +kernel
theorem dX1_fill_4 : decode cX1_fill 4 = .ok (.iload_n 1, 1) := by decide +kernel
theorem dX1_fill_5 : decode cX1_fill 5 = .ok (.sipush 1000, 3) := by decide +kernel
theorem dX1_fill_8 : decode cX1_fill 8 = .ok (.if_icmp .le 5, 3) := by decide +kernel
theorem dX1_fill_11 : decode cX1_fill 11 = .ok (.iconst (-1), 1) := by decide +kernel
theorem dX1_fill_12 : decode cX1_fill 12 = .ok (.ireturn, 1) := by decide +kernel
theorem dX1_fill_13 : decode cX1_fill 13 = .ok (.aload_n 0, 1) := by decide +kernel
theorem dX1_fill_14 : decode cX1_fill 14 = .ok (.aload_n 0, 1) := by decide +kernel
theorem dX1_fill_15 : decode cX1_fill 15 = .ok (.getfield 45, 3) := by decide +kernel
theorem dX1_fill_18 : decode cX1_fill 18 = .ok (.iload_n 1, 1) := by decide +kernel
theorem dX1_fill_19 : decode cX1_fill 19 = .ok (.iadd, 1) := by decide +kernel
theorem dX1_fill_20 : decode cX1_fill 20 = .ok (.ldc 48, 2) := by decide +kernel
theorem dX1_fill_22 : decode cX1_fill 22 = .ok (.invokestatic 49, 3) := by decide +kernel
theorem dX1_fill_25 : decode cX1_fill 25 = .ok (.putfield 45, 3) := by decide +kernel
theorem dX1_fill_28 : decode cX1_fill 28 = .ok (.aload_n 0, 1) := by decide +kernel
theorem dX1_fill_29 : decode cX1_fill 29 = .ok (.getfield 45, 3) := by decide +kernel
theorem dX1_fill_32 : decode cX1_fill 32 = .ok (.ireturn, 1) := by decide +kernel
set_option maxRecDepth 20000 in
theorem ggX1_walk_X1_isPlace : GoodIn wsX1_walk wsX1_isPlace := goodIn_r _ [7] (by decide +kernel) (by decide +kernel)
set_option maxRecDepth 20000 in
theorem gX1_walk_X1_isPlace : GoodIn wsX1_walk (va_wsS RX1 34 yX1_isPlace wsX1_isPlace) := goodIn_app (goodIn_of _ (by decide +kernel)) ggX1_walk_X1_isPlace
set_option maxRecDepth 20000 in
theorem ggX1_walk_X1_walkTo : GoodIn wsX1_walk wsX1_walkTo := goodIn_r _ [11, 12, 13, 14, 15, 16, 6, 17, 18, 19, 4, 5, 7, 20, 21, 22, 23, 24, 25, 26, 27, 28, 29, 30, 31, 32, 33, 34, 35, 36, 37, 2, 38, 39, 40, 41, 42, 43, 44, 45, 46, 47, 48, 49, 50, 51, 52, 53, 54, 55, 56, 57, 1, 58, 59, 60, 61, 62, 63, 64, 65, 66, 67, 68, 69, 70, 71, 72, 73, 74, 75, 76, 77, 78, 79, 80, 81, 82, 83, 84, 85, 86, 87, 88, 89, 90, 91, 92, 93, 94, 95, 96, 97, 98, 8, 9, 10, 111, 112, 113, 114, 115, 116, 117, 118, 119, 99, 100, 101, 102, 103, 104, 105, 106, 107, 108, 109, 110] (by decide +kernel) (by decide +kernel)
set_option maxRecDepth 20000 in
theorem gX1_walk_X1_walkTo : GoodIn wsX1_walk (wsV RX1 61 RX1 yX1_walkTo wsX1_walkTo) := goodIn_app (goodIn_of _ (by decide +kernel)) ggX1_walk_X1_walkTo
theorem dX1_walk_0 : decode cX1_walk 0 = .ok (.iload_n 1, 1) := by decide +kernel
theorem dX1_walk_1 : decode cX1_walk 1 = .ok (.invokestatic 34, 3) := by decide +kernel
theorem dX1_walk_4 : decode cX1_walk 4 = .ok (.ifCond .eq 13, 3) := by decide +kernel
theorem dX1_walk_7 : decode cX1_walk 7 = .ok (.iload_n 2, 1) := by decide +kernel
theorem dX1_walk_8 : decode cX1_walk 8 = .ok (.ifCond .lt 9, 3) := by decide +kernel
theorem dX1_walk_11 : decode cX1_walk 11 = .ok (.iload_n 2, 1) := by decide +kernel
theorem dX1_walk_12 : decode cX1_walk 12 = .ok (.bipush 7, 2) := by decide +kernel
theorem dX1_walk_14 : decode cX1_walk 14 = .ok (.if_icmp .le 5, 3) := by decide +kernel
theorem dX1_walk_17 : decode cX1_walk 17 = .ok (.iconst (-1), 1) := by decide +kernel
theorem dX1_walk_18 : decode cX1_walk 18 = .ok (.ireturn, 1) := by decide +kernel
theorem dX1_walk_19 : decode cX1_walk 19 = .ok (.aload_n 0, 1) := by decide +kernel
theorem dX1_walk_20 : decode cX1_walk 20 = .ok (.iconst 0, 1) := by decide +kernel
theorem dX1_walk_21 : decode cX1_walk 21 = .ok (.putfield 55, 3) := by decide +kernel
theorem dX1_walk_24 : decode cX1_walk 24 = .ok (.aload_n 0, 1) := by decide +kernel
theorem dX1_walk_25 : decode cX1_walk 25 = .ok (.iconst 0, 1) := by decide +kernel
theorem dX1_walk_26 : decode cX1_walk 26 = .ok (.putfield 58, 3) := by decide +kernel
theorem dX1_walk_29 : decode cX1_walk 29 = .ok (.aload_n 0, 1) := by decide +kernel
theorem dX1_walk_30 : decode cX1_walk 30 = .ok (.aload_n 0, 1) := by decide +kernel
theorem dX1_walk_31 : decode cX1_walk 31 = .ok (.iload_n 1, 1) := by decide +kernel
theorem dX1_walk_32 : decode cX1_walk 32 = .ok (.iload_n 2, 1) := by decide +kernel
theorem dX1_walk_33 : decode cX1_walk 33 = .ok (.iload_n 3, 1) := by decide +kernel
theorem dX1_walk_34 : decode cX1_walk 34 = .ok (.iconst 0, 1) := by decide +kernel
theorem dX1_walk_35 : decode cX1_walk 35 = .ok (.invokevirtual 61, 3) := by decide +kernel
theorem dX1_walk_38 : decode cX1_walk 38 = .ok (.putfield 65, 3) := by decide +kernel
theorem dX1_walk_41 : decode cX1_walk 41 = .ok (.aload_n 0, 1) := by decide +kernel
theorem dX1_walk_42 : decode cX1_walk 42 = .ok (.getfield 65, 3) := by decide +kernel
theorem dX1_walk_45 : decode cX1_walk 45 = .ok (.ifCond .ne 7, 3) := by decide +kernel
theorem dX1_walk_48 : decode cX1_walk 48 = .ok (.iconst 1, 1) := by decide +kernel
theorem dX1_walk_49 : decode cX1_walk 49 = .ok (.goto 10, 3) := by decide +kernel
theorem dX1_walk_52 : decode cX1_walk 52 = .ok (.bipush (-10), 2) := by decide +kernel
theorem dX1_walk_54 : decode cX1_walk 54 = .ok (.aload_n 0, 1) := by decide +kernel
theorem dX1_walk_55 : decode cX1_walk 55 = .ok (.getfield 65, 3) := by decide +kernel
theorem dX1_walk_58 : decode cX1_walk 58 = .ok (.isub, 1) := by decide +kernel
theorem dX1_walk_59 : decode cX1_walk 59 = .ok (.ireturn, 1) := by decide +kernel
set_option maxRecDepth 20000 in
theorem ggX1_seek_X1_seekPartner : GoodIn wsX1_seek wsX1_seekPartner := goodIn_r _ [6, 7, 8, 9, 5, 10, 1, 11, 12, 13, 26, 27, 28, 29, 30, 31, 32, 33, 34, 14, 15, 16, 17, 18, 19, 20, 21, 22, 23, 24, 25] (by decide +kernel) (by decide +kernel)
set_option maxRecDepth 20000 in
theorem gX1_seek_X1_seekPartner : GoodIn wsX1_seek (wsV RX1 71 RX1 yX1_seekPartner wsX1_seekPartner) := goodIn_app (goodIn_of _ (by decide +kernel)) ggX1_seek_X1_seekPartner
theorem dX1_seek_0 : decode cX1_seek 0 = .ok (.iconst 0, 1) := by decide +kernel
theorem dX1_seek_1 : decode cX1_seek 1 = .ok (.istore_n 3, 1) := by decide +kernel
theorem dX1_seek_2 : decode cX1_seek 2 = .ok (.iload_n 3, 1) := by decide +kernel
theorem dX1_seek_3 : decode cX1_seek 3 = .ok (.bipush 10, 2) := by decide +kernel
theorem dX1_seek_5 : decode cX1_seek 5 = .ok (.if_icmp .ge 57, 3) := by decide +kernel
theorem dX1_seek_8 : decode cX1_seek 8 = .ok (.aload_n 0, 1) := by decide +kernel
theorem dX1_seek_9 : decode cX1_seek 9 = .ok (.getfield 11, 3) := by decide +kernel
theorem dX1_seek_12 : decode cX1_seek 12 = .ok (.iload_n 3, 1) := by decide +kernel
theorem dX1_seek_13 : decode cX1_seek 13 = .ok (.aaload, 1) := by decide +kernel
theorem dX1_seek_14 : decode cX1_seek 14 = .ok (.astore 4, 2) := by decide +kernel
theorem dX1_seek_16 : decode cX1_seek 16 = .ok (.aload 4, 2) := by decide +kernel
theorem dX1_seek_18 : decode cX1_seek 18 = .ok (.ifnull 38, 3) := by decide +kernel
theorem dX1_seek_21 : decode cX1_seek 21 = .ok (.aload 4, 2) := by decide +kernel
theorem dX1_seek_23 : decode cX1_seek 23 = .ok (.dup, 1) := by decide +kernel
theorem dX1_seek_24 : decode cX1_seek 24 = .ok (.getfield 68, 3) := by decide +kernel
theorem dX1_seek_27 : decode cX1_seek 27 = .ok (.iconst 1, 1) := by decide +kernel
theorem dX1_seek_28 : decode cX1_seek 28 = .ok (.iadd, 1) := by decide +kernel
theorem dX1_seek_29 : decode cX1_seek 29 = .ok (.putfield 68, 3) := by decide +kernel
theorem dX1_seek_32 : decode cX1_seek 32 = .ok (.aload_n 0, 1) := by decide +kernel
theorem dX1_seek_33 : decode cX1_seek 33 = .ok (.iload_n 3, 1) := by decide +kernel
theorem dX1_seek_34 : decode cX1_seek 34 = .ok (.aload 4, 2) := by decide +kernel
theorem dX1_seek_36 : decode cX1_seek 36 = .ok (.lload_n 1, 1) := by decide +kernel
theorem dX1_seek_37 : decode cX1_seek 37 = .ok (.invokevirtual 71, 3) := by decide +kernel
theorem dX1_seek_40 : decode cX1_seek 40 = .ok (.istore 5, 2) := by decide +kernel
theorem dX1_seek_42 : decode cX1_seek 42 = .ok (.iload 5, 2) := by decide +kernel
theorem dX1_seek_44 : decode cX1_seek 44 = .ok (.iconst (-1), 1) := by decide +kernel
theorem dX1_seek_45 : decode cX1_seek 45 = .ok (.if_icmp .eq 11, 3) := by decide +kernel
theorem dX1_seek_48 : decode cX1_seek 48 = .ok (.bipush 10, 2) := by decide +kernel
theorem dX1_seek_50 : decode cX1_seek 50 = .ok (.iload_n 3, 1) := by decide +kernel
theorem dX1_seek_51 : decode cX1_seek 51 = .ok (.imul, 1) := by decide +kernel
theorem dX1_seek_52 : decode cX1_seek 52 = .ok (.iload 5, 2) := by decide +kernel
theorem dX1_seek_54 : decode cX1_seek 54 = .ok (.iadd, 1) := by decide +kernel
theorem dX1_seek_55 : decode cX1_seek 55 = .ok (.ireturn, 1) := by decide +kernel
theorem dX1_seek_56 : decode cX1_seek 56 = .ok (.iinc 3 1, 3) := by decide +kernel
theorem dX1_seek_59 : decode cX1_seek 59 = .ok (.goto (-57), 3) := by decide +kernel
theorem dX1_seek_62 : decode cX1_seek 62 = .ok (.iconst (-1), 1) := by decide +kernel
theorem dX1_seek_63 : decode cX1_seek 63 = .ok (.ireturn, 1) := by decide +kernel
set_option maxRecDepth 20000 in
theorem ggX1_told_X1_hallAt : GoodIn wsX1_told wsX1_hallAt := goodIn_r _ [5, 6, 7, 8, 4, 9, 22, 23, 24, 25, 26, 27, 28, 29, 30, 31, 32, 33] (by decide +kernel) (by decide +kernel)
set_option maxRecDepth 20000 in
theorem gX1_told_X1_hallAt : GoodIn wsX1_told (wsV RX1 75 RX1 yX1_hallAt wsX1_hallAt) := goodIn_app (goodIn_of _ (by decide +kernel)) ggX1_told_X1_hallAt
set_option maxRecDepth 20000 in
theorem ggX1_told_X0_fact : GoodIn wsX1_told wsX0_fact := goodIn_r _ [13, 14, 15, 16, 17, 18, 19, 20, 21, 34, 35, 36, 37, 38, 39, 40, 41, 42] (by decide +kernel) (by decide +kernel)
set_option maxRecDepth 20000 in
theorem gX1_told_X0_fact_n79 : GoodIn wsX1_told (wsX0_fact) := ggX1_told_X0_fact
theorem dX1_told_0 : decode cX1_told 0 = .ok (.aload_n 0, 1) := by decide +kernel
theorem dX1_told_1 : decode cX1_told 1 = .ok (.iload_n 1, 1) := by decide +kernel
theorem dX1_told_2 : decode cX1_told 2 = .ok (.invokevirtual 75, 3) := by decide +kernel
theorem dX1_told_5 : decode cX1_told 5 = .ok (.astore_n 3, 1) := by decide +kernel
theorem dX1_told_6 : decode cX1_told 6 = .ok (.aload_n 3, 1) := by decide +kernel
theorem dX1_told_7 : decode cX1_told 7 = .ok (.ifnonnull 7, 3) := by decide +kernel
theorem dX1_told_10 : decode cX1_told 10 = .ok (.iconst (-1), 1) := by decide +kernel
theorem dX1_told_11 : decode cX1_told 11 = .ok (.goto 8, 3) := by decide +kernel
theorem dX1_told_14 : decode cX1_told 14 = .ok (.aload_n 3, 1) := by decide +kernel
theorem dX1_told_15 : decode cX1_told 15 = .ok (.iload_n 2, 1) := by decide +kernel
theorem dX1_told_16 : decode cX1_told 16 = .ok (.invokevirtual 79, 3) := by decide +kernel
theorem dX1_told_19 : decode cX1_told 19 = .ok (.ireturn, 1) := by decide +kernel
set_option maxRecDepth 20000 in
theorem ggX1_gifts_X1_hallAt : GoodIn wsX1_gifts wsX1_hallAt := goodIn_r _ [5, 6, 7, 8, 4, 9, 19, 20, 21, 22, 23, 24, 25, 26, 27, 28, 29, 30] (by decide +kernel) (by decide +kernel)
set_option maxRecDepth 20000 in
theorem gX1_gifts_X1_hallAt : GoodIn wsX1_gifts (wsV RX1 75 RX1 yX1_hallAt wsX1_hallAt) := goodIn_app (goodIn_of _ (by decide +kernel)) ggX1_gifts_X1_hallAt
theorem dX1_gifts_0 : decode cX1_gifts 0 = .ok (.aload_n 0, 1) := by decide +kernel
theorem dX1_gifts_1 : decode cX1_gifts 1 = .ok (.iload_n 1, 1) := by decide +kernel
theorem dX1_gifts_2 : decode cX1_gifts 2 = .ok (.invokevirtual 75, 3) := by decide +kernel
theorem dX1_gifts_5 : decode cX1_gifts 5 = .ok (.astore_n 2, 1) := by decide +kernel
theorem dX1_gifts_6 : decode cX1_gifts 6 = .ok (.aload_n 2, 1) := by decide +kernel
theorem dX1_gifts_7 : decode cX1_gifts 7 = .ok (.ifnonnull 7, 3) := by decide +kernel
theorem dX1_gifts_10 : decode cX1_gifts 10 = .ok (.iconst 0, 1) := by decide +kernel
theorem dX1_gifts_11 : decode cX1_gifts 11 = .ok (.goto 7, 3) := by decide +kernel
theorem dX1_gifts_14 : decode cX1_gifts 14 = .ok (.aload_n 2, 1) := by decide +kernel
theorem dX1_gifts_15 : decode cX1_gifts 15 = .ok (.getfield 83, 3) := by decide +kernel
theorem dX1_gifts_18 : decode cX1_gifts 18 = .ok (.ireturn, 1) := by decide +kernel
theorem dX1_trace_0 : decode cX1_trace 0 = .ok (.iload_n 1, 1) := by decide +kernel
theorem dX1_trace_1 : decode cX1_trace 1 = .ok (.iconst (-1), 1) := by decide +kernel
theorem dX1_trace_2 : decode cX1_trace 2 = .ok (.if_icmp .ne 8, 3) := by decide +kernel
theorem dX1_trace_5 : decode cX1_trace 5 = .ok (.aload_n 0, 1) := by decide +kernel
theorem dX1_trace_6 : decode cX1_trace 6 = .ok (.getfield 55, 3) := by decide +kernel
theorem dX1_trace_9 : decode cX1_trace 9 = .ok (.ireturn, 1) := by decide +kernel
theorem dX1_trace_10 : decode cX1_trace 10 = .ok (.iload_n 1, 1) := by decide +kernel
theorem dX1_trace_11 : decode cX1_trace 11 = .ok (.ifCond .lt 26, 3) := by decide +kernel
theorem dX1_trace_14 : decode cX1_trace 14 = .ok (.iload_n 1, 1) := by decide +kernel
theorem dX1_trace_15 : decode cX1_trace 15 = .ok (.aload_n 0, 1) := by decide +kernel
theorem dX1_trace_16 : decode cX1_trace 16 = .ok (.getfield 55, 3) := by decide +kernel
theorem dX1_trace_19 : decode cX1_trace 19 = .ok (.if_icmp .ge 18, 3) := by decide +kernel
theorem dX1_trace_22 : decode cX1_trace 22 = .ok (.iload_n 1, 1) := by decide +kernel
theorem dX1_trace_23 : decode cX1_trace 23 = .ok (.bipush 100, 2) := by decide +kernel
theorem dX1_trace_25 : decode cX1_trace 25 = .ok (.if_icmp .ge 12, 3) := by decide +kernel
theorem dX1_trace_28 : decode cX1_trace 28 = .ok (.aload_n 0, 1) := by decide +kernel
theorem dX1_trace_29 : decode cX1_trace 29 = .ok (.getfield 25, 3) := by decide +kernel
theorem dX1_trace_32 : decode cX1_trace 32 = .ok (.iload_n 1, 1) := by decide +kernel
theorem dX1_trace_33 : decode cX1_trace 33 = .ok (.iaload, 1) := by decide +kernel
theorem dX1_trace_34 : decode cX1_trace 34 = .ok (.goto 4, 3) := by decide +kernel
theorem dX1_trace_37 : decode cX1_trace 37 = .ok (.iconst (-1), 1) := by decide +kernel
theorem dX1_trace_38 : decode cX1_trace 38 = .ok (.ireturn, 1) := by decide +kernel
set_option maxRecDepth 20000 in
theorem ggX1_count_X1_placesWithHall : GoodIn wsX1_count wsX1_placesWithHall := goodIn_r _ [10, 11, 12, 13, 14, 15, 16, 17, 18, 19, 20, 21, 22, 23] (by decide +kernel) (by decide +kernel)
set_option maxRecDepth 20000 in
theorem gX1_count_X1_placesWithHall : GoodIn wsX1_count (wsV RX1 86 RX1 yX1_placesWithHall wsX1_placesWithHall) := goodIn_app (goodIn_of _ (by decide +kernel)) ggX1_count_X1_placesWithHall
theorem dX1_count_0 : decode cX1_count 0 = .ok (.iload_n 1, 1) := by decide +kernel
theorem dX1_count_1 : decode cX1_count 1 = .ok (.tableswitch 69 0 5 #[39, 44, 49, 54, 59, 64], 39) := by decide +kernel
theorem dX1_count_40 : decode cX1_count 40 = .ok (.aload_n 0, 1) := by decide +kernel
theorem dX1_count_41 : decode cX1_count 41 = .ok (.getfield 45, 3) := by decide +kernel
theorem dX1_count_44 : decode cX1_count 44 = .ok (.ireturn, 1) := by decide +kernel
theorem dX1_count_45 : decode cX1_count 45 = .ok (.aload_n 0, 1) := by decide +kernel
theorem dX1_count_46 : decode cX1_count 46 = .ok (.getfield 38, 3) := by decide +kernel
theorem dX1_count_49 : decode cX1_count 49 = .ok (.ireturn, 1) := by decide +kernel
theorem dX1_count_50 : decode cX1_count 50 = .ok (.aload_n 0, 1) := by decide +kernel
theorem dX1_count_51 : decode cX1_count 51 = .ok (.invokevirtual 86, 3) := by decide +kernel
theorem dX1_count_54 : decode cX1_count 54 = .ok (.ireturn, 1) := by decide +kernel
theorem dX1_count_55 : decode cX1_count 55 = .ok (.aload_n 0, 1) := by decide +kernel
theorem dX1_count_56 : decode cX1_count 56 = .ok (.getfield 65, 3) := by decide +kernel
theorem dX1_count_59 : decode cX1_count 59 = .ok (.ireturn, 1) := by decide +kernel
theorem dX1_count_60 : decode cX1_count 60 = .ok (.aload_n 0, 1) := by decide +kernel
theorem dX1_count_61 : decode cX1_count 61 = .ok (.getfield 90, 3) := by decide +kernel
theorem dX1_count_64 : decode cX1_count 64 = .ok (.ireturn, 1) := by decide +kernel
theorem dX1_count_65 : decode cX1_count 65 = .ok (.aload_n 0, 1) := by decide +kernel
theorem dX1_count_66 : decode cX1_count 66 = .ok (.getfield 58, 3) := by decide +kernel
theorem dX1_count_69 : decode cX1_count 69 = .ok (.ireturn, 1) := by decide +kernel
theorem dX1_count_70 : decode cX1_count 70 = .ok (.iconst (-1), 1) := by decide +kernel
theorem dX1_count_71 : decode cX1_count 71 = .ok (.ireturn, 1) := by decide +kernel
theorem dX1_isPlace_0 : decode cX1_isPlace 0 = .ok (.iload_n 0, 1) := by decide +kernel
theorem dX1_isPlace_1 : decode cX1_isPlace 1 = .ok (.ifCond .lt 13, 3) := by decide +kernel
theorem dX1_isPlace_4 : decode cX1_isPlace 4 = .ok (.iload_n 0, 1) := by decide +kernel
theorem dX1_isPlace_5 : decode cX1_isPlace 5 = .ok (.bipush 10, 2) := by decide +kernel
theorem dX1_isPlace_7 : decode cX1_isPlace 7 = .ok (.if_icmp .ge 7, 3) := by decide +kernel
theorem dX1_isPlace_10 : decode cX1_isPlace 10 = .ok (.iconst 1, 1) := by decide +kernel
theorem dX1_isPlace_11 : decode cX1_isPlace 11 = .ok (.goto 4, 3) := by decide +kernel
theorem dX1_isPlace_14 : decode cX1_isPlace 14 = .ok (.iconst 0, 1) := by decide +kernel
theorem dX1_isPlace_15 : decode cX1_isPlace 15 = .ok (.ireturn, 1) := by decide +kernel
set_option maxRecDepth 20000 in
theorem ggX1_hallAt_X1_isPlace : GoodIn wsX1_hallAt wsX1_isPlace := goodIn_r _ [5] (by decide +kernel) (by decide +kernel)
set_option maxRecDepth 20000 in
theorem gX1_hallAt_X1_isPlace : GoodIn wsX1_hallAt (va_wsS RX1 34 yX1_isPlace wsX1_isPlace) := goodIn_app (goodIn_of _ (by decide +kernel)) ggX1_hallAt_X1_isPlace
theorem dX1_hallAt_0 : decode cX1_hallAt 0 = .ok (.iload_n 1, 1) := by decide +kernel
theorem dX1_hallAt_1 : decode cX1_hallAt 1 = .ok (.invokestatic 34, 3) := by decide +kernel
theorem dX1_hallAt_4 : decode cX1_hallAt 4 = .ok (.ifCond .eq 12, 3) := by decide +kernel
theorem dX1_hallAt_7 : decode cX1_hallAt 7 = .ok (.aload_n 0, 1) := by decide +kernel
theorem dX1_hallAt_8 : decode cX1_hallAt 8 = .ok (.getfield 11, 3) := by decide +kernel
theorem dX1_hallAt_11 : decode cX1_hallAt 11 = .ok (.iload_n 1, 1) := by decide +kernel
theorem dX1_hallAt_12 : decode cX1_hallAt 12 = .ok (.aaload, 1) := by decide +kernel
theorem dX1_hallAt_13 : decode cX1_hallAt 13 = .ok (.goto 4, 3) := by decide +kernel
theorem dX1_hallAt_16 : decode cX1_hallAt 16 = .ok (.aconst_null, 1) := by decide +kernel
theorem dX1_hallAt_17 : decode cX1_hallAt 17 = .ok (.areturn, 1) := by decide +kernel
theorem dX1_placesWithHall_0 : decode cX1_placesWithHall 0 = .ok (.iconst 0, 1) := by decide +kernel
theorem dX1_placesWithHall_1 : decode cX1_placesWithHall 1 = .ok (.istore_n 1, 1) := by decide +kernel
theorem dX1_placesWithHall_2 : decode cX1_placesWithHall 2 = .ok (.iconst 0, 1) := by decide +kernel
theorem dX1_placesWithHall_3 : decode cX1_placesWithHall 3 = .ok (.istore_n 2, 1) := by decide +kernel
theorem dX1_placesWithHall_4 : decode cX1_placesWithHall 4 = .ok (.iload_n 2, 1) := by decide +kernel
theorem dX1_placesWithHall_5 : decode cX1_placesWithHall 5 = .ok (.bipush 10, 2) := by decide +kernel
theorem dX1_placesWithHall_7 : decode cX1_placesWithHall 7 = .ok (.if_icmp .ge 21, 3) := by decide +kernel
theorem dX1_placesWithHall_10 : decode cX1_placesWithHall 10 = .ok (.aload_n 0, 1) := by decide +kernel
theorem dX1_placesWithHall_11 : decode cX1_placesWithHall 11 = .ok (.getfield 11, 3) := by decide +kernel
theorem dX1_placesWithHall_14 : decode cX1_placesWithHall 14 = .ok (.iload_n 2, 1) := by decide +kernel
theorem dX1_placesWithHall_15 : decode cX1_placesWithHall 15 = .ok (.aaload, 1) := by decide +kernel
theorem dX1_placesWithHall_16 : decode cX1_placesWithHall 16 = .ok (.ifnull 6, 3) := by decide +kernel
theorem dX1_placesWithHall_19 : decode cX1_placesWithHall 19 = .ok (.iinc 1 1, 3) := by decide +kernel
theorem dX1_placesWithHall_22 : decode cX1_placesWithHall 22 = .ok (.iinc 2 1, 3) := by decide +kernel
theorem dX1_placesWithHall_25 : decode cX1_placesWithHall 25 = .ok (.goto (-21), 3) := by decide +kernel
theorem dX1_placesWithHall_28 : decode cX1_placesWithHall 28 = .ok (.iload_n 1, 1) := by decide +kernel
theorem dX1_placesWithHall_29 : decode cX1_placesWithHall 29 = .ok (.ireturn, 1) := by decide +kernel
set_option maxRecDepth 20000 in
theorem ggX1_seekPartner_X1_hallAt : GoodIn wsX1_seekPartner wsX1_hallAt := goodIn_r _ [5, 6, 7, 8, 4, 9, 19, 20, 21, 22, 23, 24, 25, 26, 27, 28, 29, 30] (by decide +kernel) (by decide +kernel)
set_option maxRecDepth 20000 in
theorem gX1_seekPartner_X1_hallAt : GoodIn wsX1_seekPartner (wsV RX1 75 RX1 yX1_hallAt wsX1_hallAt) := goodIn_app (goodIn_of _ (by decide +kernel)) ggX1_seekPartner_X1_hallAt
theorem dX1_seekPartner_0 : decode cX1_seekPartner 0 = .ok (.iload_n 1, 1) := by decide +kernel
theorem dX1_seekPartner_1 : decode cX1_seekPartner 1 = .ok (.iconst 1, 1) := by decide +kernel
theorem dX1_seekPartner_2 : decode cX1_seekPartner 2 = .ok (.iadd, 1) := by decide +kernel
theorem dX1_seekPartner_3 : decode cX1_seekPartner 3 = .ok (.istore 5, 2) := by decide +kernel
theorem dX1_seekPartner_5 : decode cX1_seekPartner 5 = .ok (.iload 5, 2) := by decide +kernel
theorem dX1_seekPartner_7 : decode cX1_seekPartner 7 = .ok (.bipush 10, 2) := by decide +kernel
theorem dX1_seekPartner_9 : decode cX1_seekPartner 9 = .ok (.if_icmp .ge 63, 3) := by decide +kernel
theorem dX1_seekPartner_12 : decode cX1_seekPartner 12 = .ok (.aload_n 0, 1) := by decide +kernel
theorem dX1_seekPartner_13 : decode cX1_seekPartner 13 = .ok (.iload 5, 2) := by decide +kernel
theorem dX1_seekPartner_15 : decode cX1_seekPartner 15 = .ok (.invokevirtual 75, 3) := by decide +kernel
theorem dX1_seekPartner_18 : decode cX1_seekPartner 18 = .ok (.astore 6, 2) := by decide +kernel
theorem dX1_seekPartner_20 : decode cX1_seekPartner 20 = .ok (.aload 6, 2) := by decide +kernel
theorem dX1_seekPartner_22 : decode cX1_seekPartner 22 = .ok (.ifnull 44, 3) := by decide +kernel
theorem dX1_seekPartner_25 : decode cX1_seekPartner 25 = .ok (.aload 6, 2) := by decide +kernel
theorem dX1_seekPartner_27 : decode cX1_seekPartner 27 = .ok (.dup, 1) := by decide +kernel
theorem dX1_seekPartner_28 : decode cX1_seekPartner 28 = .ok (.getfield 68, 3) := by decide +kernel
theorem dX1_seekPartner_31 : decode cX1_seekPartner 31 = .ok (.iconst 1, 1) := by decide +kernel
theorem dX1_seekPartner_32 : decode cX1_seekPartner 32 = .ok (.iadd, 1) := by decide +kernel
theorem dX1_seekPartner_33 : decode cX1_seekPartner 33 = .ok (.putfield 68, 3) := by decide +kernel
theorem dX1_seekPartner_36 : decode cX1_seekPartner 36 = .ok (.aload_n 2, 1) := by decide +kernel
theorem dX1_seekPartner_37 : decode cX1_seekPartner 37 = .ok (.getfield 83, 3) := by decide +kernel
theorem dX1_seekPartner_40 : decode cX1_seekPartner 40 = .ok (.i2l, 1) := by decide +kernel
theorem dX1_seekPartner_41 : decode cX1_seekPartner 41 = .ok (.aload 6, 2) := by decide +kernel
theorem dX1_seekPartner_43 : decode cX1_seekPartner 43 = .ok (.getfield 83, 3) := by decide +kernel
theorem dX1_seekPartner_46 : decode cX1_seekPartner 46 = .ok (.i2l, 1) := by decide +kernel
theorem dX1_seekPartner_47 : decode cX1_seekPartner 47 = .ok (.ladd, 1) := by decide +kernel
theorem dX1_seekPartner_48 : decode cX1_seekPartner 48 = .ok (.lload_n 3, 1) := by decide +kernel
theorem dX1_seekPartner_49 : decode cX1_seekPartner 49 = .ok (.lcmp, 1) := by decide +kernel
theorem dX1_seekPartner_50 : decode cX1_seekPartner 50 = .ok (.ifCond .ne 6, 3) := by decide +kernel
theorem dX1_seekPartner_53 : decode cX1_seekPartner 53 = .ok (.iload 5, 2) := by decide +kernel
theorem dX1_seekPartner_55 : decode cX1_seekPartner 55 = .ok (.ireturn, 1) := by decide +kernel
theorem dX1_seekPartner_56 : decode cX1_seekPartner 56 = .ok (.aload 6, 2) := by decide +kernel
theorem dX1_seekPartner_58 : decode cX1_seekPartner 58 = .ok (.getfield 83, 3) := by decide +kernel
theorem dX1_seekPartner_61 : decode cX1_seekPartner 61 = .ok (.ifCond .ge 5, 3) := by decide +kernel
theorem dX1_seekPartner_64 : decode cX1_seekPartner 64 = .ok (.iconst (-1), 1) := by decide +kernel
theorem dX1_seekPartner_65 : decode cX1_seekPartner 65 = .ok (.ireturn, 1) := by decide +kernel
theorem dX1_seekPartner_66 : decode cX1_seekPartner 66 = .ok (.iinc 5 1, 3) := by decide +kernel
theorem dX1_seekPartner_69 : decode cX1_seekPartner 69 = .ok (.goto (-64), 3) := by decide +kernel
theorem dX1_seekPartner_72 : decode cX1_seekPartner 72 = .ok (.iconst (-1), 1) := by decide +kernel
theorem dX1_seekPartner_73 : decode cX1_seekPartner 73 = .ok (.ireturn, 1) := by decide +kernel
set_option maxRecDepth 20000 in
theorem ggX1_walkTo_X1_findPath : GoodIn wsX1_walkTo wsX1_findPath := goodIn_r _ [7, 8, 9, 10, 11, 6, 12, 106, 107, 108, 109, 110, 111, 112, 113, 114, 115, 116, 117] (by decide +kernel) (by decide +kernel)
set_option maxRecDepth 20000 in
theorem gX1_walkTo_X1_findPath : GoodIn wsX1_walkTo (wsV RX1 93 RX1 yX1_findPath wsX1_findPath) := goodIn_app (goodIn_of _ (by decide +kernel)) ggX1_walkTo_X1_findPath
set_option maxRecDepth 20000 in
theorem ggX1_walkTo_X1_passPath : GoodIn wsX1_walkTo wsX1_passPath := goodIn_r _ [16, 17, 18, 19, 20, 8, 21, 22, 23, 6, 24, 25, 10, 11, 12, 26, 27, 28, 29, 2, 30, 31, 32, 33, 34, 35, 36, 37, 38, 39, 40, 41, 42, 43, 44, 45, 46, 47, 48, 49, 50, 51, 52, 53, 54, 55, 56, 57, 58, 59, 60, 61, 106, 107, 108, 109, 110, 111, 112, 113, 114, 115, 116, 117, 97, 98, 99, 100, 101, 102, 103, 104, 105] (by decide +kernel) (by decide +kernel)
set_option maxRecDepth 20000 in
theorem gX1_walkTo_X1_passPath : GoodIn wsX1_walkTo (wsV RX1 99 RX1 yX1_passPath wsX1_passPath) := goodIn_app (goodIn_of _ (by decide +kernel)) ggX1_walkTo_X1_passPath
set_option maxRecDepth 20000 in
theorem ggX1_walkTo_X1_doDeed : GoodIn wsX1_walkTo wsX1_doDeed := goodIn_r _ [69, 25, 2, 70, 71, 72, 6, 73, 30, 74, 75, 76, 77, 78, 79, 80, 81, 35, 82, 83, 84, 85, 86, 87, 88, 89, 90, 91, 92, 93, 94, 95, 96, 0, 1, 3, 4, 5, 7, 8, 9, 10, 11, 12, 13, 14, 15, 16, 17, 18, 19, 20, 21, 22, 23, 24, 26, 27, 28, 29, 31, 32, 33, 34, 36, 37, 38, 39, 40, 41, 42, 43, 44, 45, 46, 47, 48, 49, 50, 51, 52, 53, 54, 55, 56, 57, 58, 59, 60, 61, 62, 63, 64, 65, 66, 67, 68, 97, 98, 99, 100, 101, 102, 103, 104, 105, 106, 107, 108, 109, 110, 111, 112, 113, 114, 115, 116, 117] (by decide +kernel) (by decide +kernel)
set_option maxRecDepth 20000 in
theorem gX1_walkTo_X1_doDeed : GoodIn wsX1_walkTo (wsV RX1 102 RX1 yX1_doDeed wsX1_doDeed) := goodIn_app (goodIn_of _ (by decide +kernel)) ggX1_walkTo_X1_doDeed
set_option maxRecDepth 20000 in
theorem ggX1_walkTo_X1_leaveUntil : GoodIn wsX1_walkTo wsX1_leaveUntil := goodIn_r _ [68, 2, 30, 44, 37, 45, 46, 47, 48, 49, 50, 6, 51, 52, 53, 106, 107, 108, 109, 110, 111, 112, 113, 114, 115, 116, 117, 97, 98, 99, 100, 101, 102, 103, 104, 105] (by decide +kernel) (by decide +kernel)
set_option maxRecDepth 20000 in
theorem gX1_walkTo_X1_leaveUntil : GoodIn wsX1_walkTo (wsV RX1 106 RX1 yX1_leaveUntil wsX1_leaveUntil) := goodIn_app (goodIn_of _ (by decide +kernel)) ggX1_walkTo_X1_leaveUntil
theorem dX1_walkTo_0 : decode cX1_walkTo 0 = .ok (.iload 4, 2) := by decide +kernel
theorem dX1_walkTo_2 : decode cX1_walkTo 2 = .ok (.iconst 3, 1) := by decide +kernel
theorem dX1_walkTo_3 : decode cX1_walkTo 3 = .ok (.if_icmp .lt 5, 3) := by decide +kernel
theorem dX1_walkTo_6 : decode cX1_walkTo 6 = .ok (.iconst 2, 1) := by decide +kernel
theorem dX1_walkTo_7 : decode cX1_walkTo 7 = .ok (.ireturn, 1) := by decide +kernel
theorem dX1_walkTo_8 : decode cX1_walkTo 8 = .ok (.aload_n 0, 1) := by decide +kernel
theorem dX1_walkTo_9 : decode cX1_walkTo 9 = .ok (.dup, 1) := by decide +kernel
theorem dX1_walkTo_10 : decode cX1_walkTo 10 = .ok (.getfield 90, 3) := by decide +kernel
theorem dX1_walkTo_13 : decode cX1_walkTo 13 = .ok (.iconst 1, 1) := by decide +kernel
theorem dX1_walkTo_14 : decode cX1_walkTo 14 = .ok (.iadd, 1) := by decide +kernel
theorem dX1_walkTo_15 : decode cX1_walkTo 15 = .ok (.putfield 90, 3) := by decide +kernel
theorem dX1_walkTo_18 : decode cX1_walkTo 18 = .ok (.aload_n 0, 1) := by decide +kernel
theorem dX1_walkTo_19 : decode cX1_walkTo 19 = .ok (.iload_n 1, 1) := by decide +kernel
theorem dX1_walkTo_20 : decode cX1_walkTo 20 = .ok (.invokevirtual 93, 3) := by decide +kernel
theorem dX1_walkTo_23 : decode cX1_walkTo 23 = .ok (.istore 5, 2) := by decide +kernel
theorem dX1_walkTo_25 : decode cX1_walkTo 25 = .ok (.iload 5, 2) := by decide +kernel
theorem dX1_walkTo_27 : decode cX1_walkTo 27 = .ok (.ifCond .ne 6, 3) := by decide +kernel
theorem dX1_walkTo_30 : decode cX1_walkTo 30 = .ok (.bipush 8, 2) := by decide +kernel
theorem dX1_walkTo_32 : decode cX1_walkTo 32 = .ok (.ireturn, 1) := by decide +kernel
theorem dX1_walkTo_33 : decode cX1_walkTo 33 = .ok (.aload_n 0, 1) := by decide +kernel
theorem dX1_walkTo_34 : decode cX1_walkTo 34 = .ok (.getfield 96, 3) := by decide +kernel
theorem dX1_walkTo_37 : decode cX1_walkTo 37 = .ok (.istore 6, 2) := by decide +kernel
theorem dX1_walkTo_39 : decode cX1_walkTo 39 = .ok (.aload_n 0, 1) := by decide +kernel
theorem dX1_walkTo_40 : decode cX1_walkTo 40 = .ok (.iload 5, 2) := by decide +kernel
theorem dX1_walkTo_42 : decode cX1_walkTo 42 = .ok (.invokevirtual 99, 3) := by decide +kernel
theorem dX1_walkTo_45 : decode cX1_walkTo 45 = .ok (.istore 7, 2) := by decide +kernel
theorem dX1_walkTo_47 : decode cX1_walkTo 47 = .ok (.iload 7, 2) := by decide +kernel
theorem dX1_walkTo_49 : decode cX1_walkTo 49 = .ok (.ifCond .ne 15, 3) := by decide +kernel
theorem dX1_walkTo_52 : decode cX1_walkTo 52 = .ok (.aload_n 0, 1) := by decide +kernel
theorem dX1_walkTo_53 : decode cX1_walkTo 53 = .ok (.iload_n 2, 1) := by decide +kernel
theorem dX1_walkTo_54 : decode cX1_walkTo 54 = .ok (.iload_n 3, 1) := by decide +kernel
theorem dX1_walkTo_55 : decode cX1_walkTo 55 = .ok (.iload 4, 2) := by decide +kernel
theorem dX1_walkTo_57 : decode cX1_walkTo 57 = .ok (.iconst 1, 1) := by decide +kernel
theorem dX1_walkTo_58 : decode cX1_walkTo 58 = .ok (.iadd, 1) := by decide +kernel
theorem dX1_walkTo_59 : decode cX1_walkTo 59 = .ok (.invokevirtual 102, 3) := by decide +kernel
theorem dX1_walkTo_62 : decode cX1_walkTo 62 = .ok (.istore 7, 2) := by decide +kernel
theorem dX1_walkTo_64 : decode cX1_walkTo 64 = .ok (.aload_n 0, 1) := by decide +kernel
theorem dX1_walkTo_65 : decode cX1_walkTo 65 = .ok (.iload 6, 2) := by decide +kernel
theorem dX1_walkTo_67 : decode cX1_walkTo 67 = .ok (.invokevirtual 106, 3) := by decide +kernel
theorem dX1_walkTo_70 : decode cX1_walkTo 70 = .ok (.iload 7, 2) := by decide +kernel
theorem dX1_walkTo_72 : decode cX1_walkTo 72 = .ok (.ireturn, 1) := by decide +kernel
set_option maxRecDepth 20000 in
theorem ggX1_findPath_X1_isPlace : GoodIn wsX1_findPath wsX1_isPlace := goodIn_r _ [6] (by decide +kernel) (by decide +kernel)
set_option maxRecDepth 20000 in
theorem gX1_findPath_X1_isPlace : GoodIn wsX1_findPath (va_wsS RX1 34 yX1_isPlace wsX1_isPlace) := goodIn_app (goodIn_of _ (by decide +kernel)) ggX1_findPath_X1_isPlace
theorem dX1_findPath_0 : decode cX1_findPath 0 = .ok (.iload_n 1, 1) := by decide +kernel
theorem dX1_findPath_1 : decode cX1_findPath 1 = .ok (.istore_n 2, 1) := by decide +kernel
theorem dX1_findPath_2 : decode cX1_findPath 2 = .ok (.iconst 0, 1) := by decide +kernel
theorem dX1_findPath_3 : decode cX1_findPath 3 = .ok (.istore_n 3, 1) := by decide +kernel
theorem dX1_findPath_4 : decode cX1_findPath 4 = .ok (.iload_n 2, 1) := by decide +kernel
theorem dX1_findPath_5 : decode cX1_findPath 5 = .ok (.invokestatic 34, 3) := by decide +kernel
theorem dX1_findPath_8 : decode cX1_findPath 8 = .ok (.ifCond .eq 29, 3) := by decide +kernel
theorem dX1_findPath_11 : decode cX1_findPath 11 = .ok (.iload_n 3, 1) := by decide +kernel
theorem dX1_findPath_12 : decode cX1_findPath 12 = .ok (.bipush 10, 2) := by decide +kernel
theorem dX1_findPath_14 : decode cX1_findPath 14 = .ok (.if_icmp .ge 23, 3) := by decide +kernel
theorem dX1_findPath_17 : decode cX1_findPath 17 = .ok (.aload_n 0, 1) := by decide +kernel
theorem dX1_findPath_18 : decode cX1_findPath 18 = .ok (.getfield 19, 3) := by decide +kernel
theorem dX1_findPath_21 : decode cX1_findPath 21 = .ok (.iload_n 3, 1) := by decide +kernel
theorem dX1_findPath_22 : decode cX1_findPath 22 = .ok (.iload_n 2, 1) := by decide +kernel
theorem dX1_findPath_23 : decode cX1_findPath 23 = .ok (.iastore, 1) := by decide +kernel
theorem dX1_findPath_24 : decode cX1_findPath 24 = .ok (.iinc 3 1, 3) := by decide +kernel
theorem dX1_findPath_27 : decode cX1_findPath 27 = .ok (.aload_n 0, 1) := by decide +kernel
theorem dX1_findPath_28 : decode cX1_findPath 28 = .ok (.getfield 15, 3) := by decide +kernel
theorem dX1_findPath_31 : decode cX1_findPath 31 = .ok (.iload_n 2, 1) := by decide +kernel
theorem dX1_findPath_32 : decode cX1_findPath 32 = .ok (.iaload, 1) := by decide +kernel
theorem dX1_findPath_33 : decode cX1_findPath 33 = .ok (.istore_n 2, 1) := by decide +kernel
theorem dX1_findPath_34 : decode cX1_findPath 34 = .ok (.goto (-30), 3) := by decide +kernel
theorem dX1_findPath_37 : decode cX1_findPath 37 = .ok (.iload_n 2, 1) := by decide +kernel
theorem dX1_findPath_38 : decode cX1_findPath 38 = .ok (.iconst (-1), 1) := by decide +kernel
theorem dX1_findPath_39 : decode cX1_findPath 39 = .ok (.if_icmp .ne 7, 3) := by decide +kernel
theorem dX1_findPath_42 : decode cX1_findPath 42 = .ok (.iload_n 3, 1) := by decide +kernel
theorem dX1_findPath_43 : decode cX1_findPath 43 = .ok (.goto 4, 3) := by decide +kernel
theorem dX1_findPath_46 : decode cX1_findPath 46 = .ok (.iconst 0, 1) := by decide +kernel
theorem dX1_findPath_47 : decode cX1_findPath 47 = .ok (.ireturn, 1) := by decide +kernel
set_option maxRecDepth 20000 in
theorem ggX1_passPath_X1_hallAt : GoodIn wsX1_passPath wsX1_hallAt := goodIn_r _ [10, 11, 12, 13, 9, 14, 52, 53, 54, 55, 56, 57, 58, 59, 60, 61, 62, 63] (by decide +kernel) (by decide +kernel)
set_option maxRecDepth 20000 in
theorem gX1_passPath_X1_hallAt : GoodIn wsX1_passPath (wsV RX1 75 RX1 yX1_hallAt wsX1_hallAt) := goodIn_app (goodIn_of _ (by decide +kernel)) ggX1_passPath_X1_hallAt
set_option maxRecDepth 20000 in
theorem ggX1_passPath_X1_passInto : GoodIn wsX1_passPath wsX1_passInto := goodIn_r _ [18, 19, 20, 21, 22, 23, 3, 24, 25, 26, 27, 28, 29, 30, 31, 32, 33, 34, 35, 36, 37, 38, 39, 40, 9, 41, 42, 43, 44, 45, 46, 47, 48, 49, 50, 51, 52, 53, 54, 55, 56, 57, 58, 59, 60, 61, 62, 63, 64, 65, 66, 67, 68, 69, 70, 71, 72] (by decide +kernel) (by decide +kernel)
set_option maxRecDepth 20000 in
theorem gX1_passPath_X1_passInto : GoodIn wsX1_passPath (wsV RX1 110 RX1 yX1_passInto wsX1_passInto) := goodIn_app (goodIn_of _ (by decide +kernel)) ggX1_passPath_X1_passInto
theorem dX1_passPath_0 : decode cX1_passPath 0 = .ok (.iload_n 1, 1) := by decide +kernel
theorem dX1_passPath_1 : decode cX1_passPath 1 = .ok (.bipush 10, 2) := by decide +kernel
theorem dX1_passPath_3 : decode cX1_passPath 3 = .ok (.invokestatic 49, 3) := by decide +kernel
theorem dX1_passPath_6 : decode cX1_passPath 6 = .ok (.iconst 1, 1) := by decide +kernel
theorem dX1_passPath_7 : decode cX1_passPath 7 = .ok (.isub, 1) := by decide +kernel
theorem dX1_passPath_8 : decode cX1_passPath 8 = .ok (.istore_n 2, 1) := by decide +kernel
theorem dX1_passPath_9 : decode cX1_passPath 9 = .ok (.iload_n 2, 1) := by decide +kernel
theorem dX1_passPath_10 : decode cX1_passPath 10 = .ok (.ifCond .lt 43, 3) := by decide +kernel
theorem dX1_passPath_13 : decode cX1_passPath 13 = .ok (.aload_n 0, 1) := by decide +kernel
theorem dX1_passPath_14 : decode cX1_passPath 14 = .ok (.aload_n 0, 1) := by decide +kernel
theorem dX1_passPath_15 : decode cX1_passPath 15 = .ok (.getfield 19, 3) := by decide +kernel
theorem dX1_passPath_18 : decode cX1_passPath 18 = .ok (.iload_n 2, 1) := by decide +kernel
theorem dX1_passPath_19 : decode cX1_passPath 19 = .ok (.iaload, 1) := by decide +kernel
theorem dX1_passPath_20 : decode cX1_passPath 20 = .ok (.invokevirtual 75, 3) := by decide +kernel
theorem dX1_passPath_23 : decode cX1_passPath 23 = .ok (.astore_n 3, 1) := by decide +kernel
theorem dX1_passPath_24 : decode cX1_passPath 24 = .ok (.aload_n 3, 1) := by decide +kernel
theorem dX1_passPath_25 : decode cX1_passPath 25 = .ok (.ifnonnull 7, 3) := by decide +kernel
theorem dX1_passPath_28 : decode cX1_passPath 28 = .ok (.iconst 1, 1) := by decide +kernel
theorem dX1_passPath_29 : decode cX1_passPath 29 = .ok (.goto 8, 3) := by decide +kernel
theorem dX1_passPath_32 : decode cX1_passPath 32 = .ok (.aload_n 0, 1) := by decide +kernel
theorem dX1_passPath_33 : decode cX1_passPath 33 = .ok (.aload_n 3, 1) := by decide +kernel
theorem dX1_passPath_34 : decode cX1_passPath 34 = .ok (.invokevirtual 110, 3) := by decide +kernel
theorem dX1_passPath_37 : decode cX1_passPath 37 = .ok (.istore 4, 2) := by decide +kernel
theorem dX1_passPath_39 : decode cX1_passPath 39 = .ok (.iload 4, 2) := by decide +kernel
theorem dX1_passPath_41 : decode cX1_passPath 41 = .ok (.ifCond .eq 6, 3) := by decide +kernel
theorem dX1_passPath_44 : decode cX1_passPath 44 = .ok (.iload 4, 2) := by decide +kernel
theorem dX1_passPath_46 : decode cX1_passPath 46 = .ok (.ireturn, 1) := by decide +kernel
theorem dX1_passPath_47 : decode cX1_passPath 47 = .ok (.iinc 2 (-1), 3) := by decide +kernel
theorem dX1_passPath_50 : decode cX1_passPath 50 = .ok (.goto (-41), 3) := by decide +kernel
theorem dX1_passPath_53 : decode cX1_passPath 53 = .ok (.iconst 0, 1) := by decide +kernel
theorem dX1_passPath_54 : decode cX1_passPath 54 = .ok (.ireturn, 1) := by decide +kernel
set_option maxRecDepth 20000 in
theorem ggX1_passInto_X0_enter : GoodIn wsX1_passInto wsX0_enter := goodIn_r _ [12, 13, 14, 15, 16, 5, 6, 7, 48, 49, 50, 51, 52, 53, 54, 55, 56] (by decide +kernel) (by decide +kernel)
set_option maxRecDepth 20000 in
theorem gX1_passInto_X0_enter_n114 : GoodIn wsX1_passInto (wsX0_enter) := ggX1_passInto_X0_enter
set_option maxRecDepth 20000 in
theorem ggX1_passInto_X0_mark : GoodIn wsX1_passInto wsX0_mark := goodIn_r _ [19, 20, 48, 49, 50, 51, 52, 53, 54, 55, 56] (by decide +kernel) (by decide +kernel)
set_option maxRecDepth 20000 in
theorem gX1_passInto_X0_mark_n120 : GoodIn wsX1_passInto (wsX0_mark) := ggX1_passInto_X0_mark
set_option maxRecDepth 20000 in
theorem ggX1_passInto_X1_leaveMark : GoodIn wsX1_passInto wsX1_leaveMark := goodIn_r _ [25, 26, 27, 36, 37, 38, 39, 40, 41, 42, 43, 44, 45, 46, 47] (by decide +kernel) (by decide +kernel)
set_option maxRecDepth 20000 in
theorem gX1_passInto_X1_leaveMark : GoodIn wsX1_passInto (wsV RX1 123 RX1 yX1_leaveMark wsX1_leaveMark) := goodIn_app (goodIn_of _ (by decide +kernel)) ggX1_passInto_X1_leaveMark
set_option maxRecDepth 20000 in
theorem ggX1_passInto_X0_guardIsInTheWay : GoodIn wsX1_passInto wsX0_guardIsInTheWay := goodIn_r _ [30, 31, 13, 48, 49, 50, 51, 52, 53, 54, 55, 56] (by decide +kernel) (by decide +kernel)
set_option maxRecDepth 20000 in
theorem gX1_passInto_X0_guardIsInTheWay_n126 : GoodIn wsX1_passInto (wsX0_guardIsInTheWay) := ggX1_passInto_X0_guardIsInTheWay
set_option maxRecDepth 20000 in
theorem ggX1_passInto_X0_charge : GoodIn wsX1_passInto wsX0_charge := goodIn_r _ [34, 31, 35, 13, 48, 49, 50, 51, 52, 53, 54, 55, 56] (by decide +kernel) (by decide +kernel)
set_option maxRecDepth 20000 in
theorem gX1_passInto_X0_charge_n130 : GoodIn wsX1_passInto (wsX0_charge) := ggX1_passInto_X0_charge
theorem dX1_passInto_0 : decode cX1_passInto 0 = .ok (.aload_n 1, 1) := by decide +kernel
theorem dX1_passInto_1 : decode cX1_passInto 1 = .ok (.invokevirtual 114, 3) := by decide +kernel
theorem dX1_passInto_4 : decode cX1_passInto 4 = .ok (.aload_n 0, 1) := by decide +kernel
theorem dX1_passInto_5 : decode cX1_passInto 5 = .ok (.getfield 96, 3) := by decide +kernel
theorem dX1_passInto_8 : decode cX1_passInto 8 = .ok (.ifCond .lt 35, 3) := by decide +kernel
theorem dX1_passInto_11 : decode cX1_passInto 11 = .ok (.aload_n 0, 1) := by decide +kernel
theorem dX1_passInto_12 : decode cX1_passInto 12 = .ok (.getfield 96, 3) := by decide +kernel
theorem dX1_passInto_15 : decode cX1_passInto 15 = .ok (.aload_n 0, 1) := by decide +kernel
theorem dX1_passInto_16 : decode cX1_passInto 16 = .ok (.getfield 22, 3) := by decide +kernel
theorem dX1_passInto_19 : decode cX1_passInto 19 = .ok (.arraylength, 1) := by decide +kernel
theorem dX1_passInto_20 : decode cX1_passInto 20 = .ok (.if_icmp .ge 23, 3) := by decide +kernel
theorem dX1_passInto_23 : decode cX1_passInto 23 = .ok (.aload_n 0, 1) := by decide +kernel
theorem dX1_passInto_24 : decode cX1_passInto 24 = .ok (.getfield 22, 3) := by decide +kernel
theorem dX1_passInto_27 : decode cX1_passInto 27 = .ok (.aload_n 0, 1) := by decide +kernel
theorem dX1_passInto_28 : decode cX1_passInto 28 = .ok (.getfield 96, 3) := by decide +kernel
theorem dX1_passInto_31 : decode cX1_passInto 31 = .ok (.aload_n 1, 1) := by decide +kernel
theorem dX1_passInto_32 : decode cX1_passInto 32 = .ok (.aastore, 1) := by decide +kernel
theorem dX1_passInto_33 : decode cX1_passInto 33 = .ok (.aload_n 0, 1) := by decide +kernel
theorem dX1_passInto_34 : decode cX1_passInto 34 = .ok (.dup, 1) := by decide +kernel
theorem dX1_passInto_35 : decode cX1_passInto 35 = .ok (.getfield 96, 3) := by decide +kernel
theorem dX1_passInto_38 : decode cX1_passInto 38 = .ok (.iconst 1, 1) := by decide +kernel
theorem dX1_passInto_39 : decode cX1_passInto 39 = .ok (.iadd, 1) := by decide +kernel
theorem dX1_passInto_40 : decode cX1_passInto 40 = .ok (.putfield 96, 3) := by decide +kernel
theorem dX1_passInto_43 : decode cX1_passInto 43 = .ok (.aload_n 0, 1) := by decide +kernel
theorem dX1_passInto_44 : decode cX1_passInto 44 = .ok (.aload_n 0, 1) := by decide +kernel
theorem dX1_passInto_45 : decode cX1_passInto 45 = .ok (.getfield 58, 3) := by decide +kernel
theorem dX1_passInto_48 : decode cX1_passInto 48 = .ok (.aload_n 0, 1) := by decide +kernel
theorem dX1_passInto_49 : decode cX1_passInto 49 = .ok (.getfield 96, 3) := by decide +kernel
theorem dX1_passInto_52 : decode cX1_passInto 52 = .ok (.invokestatic 117, 3) := by decide +kernel
theorem dX1_passInto_55 : decode cX1_passInto 55 = .ok (.putfield 58, 3) := by decide +kernel
theorem dX1_passInto_58 : decode cX1_passInto 58 = .ok (.aload_n 0, 1) := by decide +kernel
theorem dX1_passInto_59 : decode cX1_passInto 59 = .ok (.aload_n 1, 1) := by decide +kernel
theorem dX1_passInto_60 : decode cX1_passInto 60 = .ok (.invokevirtual 120, 3) := by decide +kernel
theorem dX1_passInto_63 : decode cX1_passInto 63 = .ok (.invokevirtual 123, 3) := by decide +kernel
theorem dX1_passInto_66 : decode cX1_passInto 66 = .ok (.aload_n 1, 1) := by decide +kernel
theorem dX1_passInto_67 : decode cX1_passInto 67 = .ok (.invokevirtual 126, 3) := by decide +kernel
theorem dX1_passInto_70 : decode cX1_passInto 70 = .ok (.ifCond .eq 6, 3) := by decide +kernel
theorem dX1_passInto_73 : decode cX1_passInto 73 = .ok (.bipush 21, 2) := by decide +kernel
theorem dX1_passInto_75 : decode cX1_passInto 75 = .ok (.ireturn, 1) := by decide +kernel
theorem dX1_passInto_76 : decode cX1_passInto 76 = .ok (.aload_n 1, 1) := by decide +kernel
theorem dX1_passInto_77 : decode cX1_passInto 77 = .ok (.invokevirtual 130, 3) := by decide +kernel
theorem dX1_passInto_80 : decode cX1_passInto 80 = .ok (.istore_n 2, 1) := by decide +kernel
theorem dX1_passInto_81 : decode cX1_passInto 81 = .ok (.aload_n 0, 1) := by decide +kernel
theorem dX1_passInto_82 : decode cX1_passInto 82 = .ok (.getfield 45, 3) := by decide +kernel
theorem dX1_passInto_85 : decode cX1_passInto 85 = .ok (.iload_n 2, 1) := by decide +kernel
theorem dX1_passInto_86 : decode cX1_passInto 86 = .ok (.if_icmp .ge 6, 3) := by decide +kernel
theorem dX1_passInto_89 : decode cX1_passInto 89 = .ok (.bipush 20, 2) := by decide +kernel
theorem dX1_passInto_91 : decode cX1_passInto 91 = .ok (.ireturn, 1) := by decide +kernel
theorem dX1_passInto_92 : decode cX1_passInto 92 = .ok (.aload_n 0, 1) := by decide +kernel
theorem dX1_passInto_93 : decode cX1_passInto 93 = .ok (.dup, 1) := by decide +kernel
theorem dX1_passInto_94 : decode cX1_passInto 94 = .ok (.getfield 45, 3) := by decide +kernel
theorem dX1_passInto_97 : decode cX1_passInto 97 = .ok (.iload_n 2, 1) := by decide +kernel
theorem dX1_passInto_98 : decode cX1_passInto 98 = .ok (.isub, 1) := by decide +kernel
theorem dX1_passInto_99 : decode cX1_passInto 99 = .ok (.putfield 45, 3) := by decide +kernel
theorem dX1_passInto_102 : decode cX1_passInto 102 = .ok (.aload_n 1, 1) := by decide +kernel
theorem dX1_passInto_103 : decode cX1_passInto 103 = .ok (.dup, 1) := by decide +kernel
theorem dX1_passInto_104 : decode cX1_passInto 104 = .ok (.getfield 133, 3) := by decide +kernel
theorem dX1_passInto_107 : decode cX1_passInto 107 = .ok (.iload_n 2, 1) := by decide +kernel
theorem dX1_passInto_108 : decode cX1_passInto 108 = .ok (.iadd, 1) := by decide +kernel
theorem dX1_passInto_109 : decode cX1_passInto 109 = .ok (.putfield 133, 3) := by decide +kernel
theorem dX1_passInto_112 : decode cX1_passInto 112 = .ok (.iconst 0, 1) := by decide +kernel
theorem dX1_passInto_113 : decode cX1_passInto 113 = .ok (.ireturn, 1) := by decide +kernel
set_option maxRecDepth 20000 in
theorem ggX1_leaveUntil_X0_mark : GoodIn wsX1_leaveUntil wsX0_mark := goodIn_r _ [6, 7, 27, 28, 29, 30, 31, 32, 33, 34, 35] (by decide +kernel) (by decide +kernel)
set_option maxRecDepth 20000 in
theorem gX1_leaveUntil_X0_mark_n120 : GoodIn wsX1_leaveUntil (wsX0_mark) := ggX1_leaveUntil_X0_mark
set_option maxRecDepth 20000 in
theorem ggX1_leaveUntil_X1_leaveMark : GoodIn wsX1_leaveUntil wsX1_leaveMark := goodIn_r _ [12, 13, 14, 15, 16, 17, 18, 19, 20, 21, 22, 23, 24, 25, 26] (by decide +kernel) (by decide +kernel)
set_option maxRecDepth 20000 in
theorem gX1_leaveUntil_X1_leaveMark : GoodIn wsX1_leaveUntil (wsV RX1 123 RX1 yX1_leaveMark wsX1_leaveMark) := goodIn_app (goodIn_of _ (by decide +kernel)) ggX1_leaveUntil_X1_leaveMark
theorem dX1_leaveUntil_0 : decode cX1_leaveUntil 0 = .ok (.aload_n 0, 1) := by decide +kernel
theorem dX1_leaveUntil_1 : decode cX1_leaveUntil 1 = .ok (.getfield 96, 3) := by decide +kernel
theorem dX1_leaveUntil_4 : decode cX1_leaveUntil 4 = .ok (.iload_n 1, 1) := by decide +kernel
theorem dX1_leaveUntil_5 : decode cX1_leaveUntil 5 = .ok (.if_icmp .le 80, 3) := by decide +kernel
theorem dX1_leaveUntil_8 : decode cX1_leaveUntil 8 = .ok (.aload_n 0, 1) := by decide +kernel
theorem dX1_leaveUntil_9 : decode cX1_leaveUntil 9 = .ok (.getfield 96, 3) := by decide +kernel
theorem dX1_leaveUntil_12 : decode cX1_leaveUntil 12 = .ok (.ifCond .le 73, 3) := by decide +kernel
theorem dX1_leaveUntil_15 : decode cX1_leaveUntil 15 = .ok (.aload_n 0, 1) := by decide +kernel
theorem dX1_leaveUntil_16 : decode cX1_leaveUntil 16 = .ok (.getfield 96, 3) := by decide +kernel
theorem dX1_leaveUntil_19 : decode cX1_leaveUntil 19 = .ok (.aload_n 0, 1) := by decide +kernel
theorem dX1_leaveUntil_20 : decode cX1_leaveUntil 20 = .ok (.getfield 22, 3) := by decide +kernel
theorem dX1_leaveUntil_23 : decode cX1_leaveUntil 23 = .ok (.arraylength, 1) := by decide +kernel
theorem dX1_leaveUntil_24 : decode cX1_leaveUntil 24 = .ok (.if_icmp .gt 61, 3) := by decide +kernel
theorem dX1_leaveUntil_27 : decode cX1_leaveUntil 27 = .ok (.aload_n 0, 1) := by decide +kernel
theorem dX1_leaveUntil_28 : decode cX1_leaveUntil 28 = .ok (.dup, 1) := by decide +kernel
theorem dX1_leaveUntil_29 : decode cX1_leaveUntil 29 = .ok (.getfield 96, 3) := by decide +kernel
theorem dX1_leaveUntil_32 : decode cX1_leaveUntil 32 = .ok (.iconst 1, 1) := by decide +kernel
theorem dX1_leaveUntil_33 : decode cX1_leaveUntil 33 = .ok (.isub, 1) := by decide +kernel
theorem dX1_leaveUntil_34 : decode cX1_leaveUntil 34 = .ok (.putfield 96, 3) := by decide +kernel
theorem dX1_leaveUntil_37 : decode cX1_leaveUntil 37 = .ok (.aload_n 0, 1) := by decide +kernel
theorem dX1_leaveUntil_38 : decode cX1_leaveUntil 38 = .ok (.getfield 22, 3) := by decide +kernel
theorem dX1_leaveUntil_41 : decode cX1_leaveUntil 41 = .ok (.aload_n 0, 1) := by decide +kernel
theorem dX1_leaveUntil_42 : decode cX1_leaveUntil 42 = .ok (.getfield 96, 3) := by decide +kernel
theorem dX1_leaveUntil_45 : decode cX1_leaveUntil 45 = .ok (.aaload, 1) := by decide +kernel
theorem dX1_leaveUntil_46 : decode cX1_leaveUntil 46 = .ok (.astore_n 2, 1) := by decide +kernel
theorem dX1_leaveUntil_47 : decode cX1_leaveUntil 47 = .ok (.aload_n 0, 1) := by decide +kernel
theorem dX1_leaveUntil_48 : decode cX1_leaveUntil 48 = .ok (.getfield 22, 3) := by decide +kernel
theorem dX1_leaveUntil_51 : decode cX1_leaveUntil 51 = .ok (.aload_n 0, 1) := by decide +kernel
theorem dX1_leaveUntil_52 : decode cX1_leaveUntil 52 = .ok (.getfield 96, 3) := by decide +kernel
theorem dX1_leaveUntil_55 : decode cX1_leaveUntil 55 = .ok (.aconst_null, 1) := by decide +kernel
theorem dX1_leaveUntil_56 : decode cX1_leaveUntil 56 = .ok (.aastore, 1) := by decide +kernel
theorem dX1_leaveUntil_57 : decode cX1_leaveUntil 57 = .ok (.aload_n 2, 1) := by decide +kernel
theorem dX1_leaveUntil_58 : decode cX1_leaveUntil 58 = .ok (.ifnull 24, 3) := by decide +kernel
theorem dX1_leaveUntil_61 : decode cX1_leaveUntil 61 = .ok (.aload_n 2, 1) := by decide +kernel
theorem dX1_leaveUntil_62 : decode cX1_leaveUntil 62 = .ok (.dup, 1) := by decide +kernel
theorem dX1_leaveUntil_63 : decode cX1_leaveUntil 63 = .ok (.getfield 136, 3) := by decide +kernel
theorem dX1_leaveUntil_66 : decode cX1_leaveUntil 66 = .ok (.iconst 1, 1) := by decide +kernel
theorem dX1_leaveUntil_67 : decode cX1_leaveUntil 67 = .ok (.isub, 1) := by decide +kernel
theorem dX1_leaveUntil_68 : decode cX1_leaveUntil 68 = .ok (.putfield 136, 3) := by decide +kernel
theorem dX1_leaveUntil_71 : decode cX1_leaveUntil 71 = .ok (.aload_n 0, 1) := by decide +kernel
theorem dX1_leaveUntil_72 : decode cX1_leaveUntil 72 = .ok (.bipush 100, 2) := by decide +kernel
theorem dX1_leaveUntil_74 : decode cX1_leaveUntil 74 = .ok (.aload_n 2, 1) := by decide +kernel
theorem dX1_leaveUntil_75 : decode cX1_leaveUntil 75 = .ok (.invokevirtual 120, 3) := by decide +kernel
theorem dX1_leaveUntil_78 : decode cX1_leaveUntil 78 = .ok (.iadd, 1) := by decide +kernel
theorem dX1_leaveUntil_79 : decode cX1_leaveUntil 79 = .ok (.invokevirtual 123, 3) := by decide +kernel
theorem dX1_leaveUntil_82 : decode cX1_leaveUntil 82 = .ok (.goto (-82), 3) := by decide +kernel
theorem dX1_leaveUntil_85 : decode cX1_leaveUntil 85 = .ok (.return_, 1) := by decide +kernel
theorem dX1_leaveMark_0 : decode cX1_leaveMark 0 = .ok (.aload_n 0, 1) := by decide +kernel
theorem dX1_leaveMark_1 : decode cX1_leaveMark 1 = .ok (.getfield 55, 3) := by decide +kernel
theorem dX1_leaveMark_4 : decode cX1_leaveMark 4 = .ok (.ifCond .lt 32, 3) := by decide +kernel
theorem dX1_leaveMark_7 : decode cX1_leaveMark 7 = .ok (.aload_n 0, 1) := by decide +kernel
theorem dX1_leaveMark_8 : decode cX1_leaveMark 8 = .ok (.getfield 55, 3) := by decide +kernel
theorem dX1_leaveMark_11 : decode cX1_leaveMark 11 = .ok (.bipush 100, 2) := by decide +kernel
theorem dX1_leaveMark_13 : decode cX1_leaveMark 13 = .ok (.if_icmp .ge 23, 3) := by decide +kernel
theorem dX1_leaveMark_16 : decode cX1_leaveMark 16 = .ok (.aload_n 0, 1) := by decide +kernel
theorem dX1_leaveMark_17 : decode cX1_leaveMark 17 = .ok (.getfield 25, 3) := by decide +kernel
theorem dX1_leaveMark_20 : decode cX1_leaveMark 20 = .ok (.aload_n 0, 1) := by decide +kernel
theorem dX1_leaveMark_21 : decode cX1_leaveMark 21 = .ok (.getfield 55, 3) := by decide +kernel
theorem dX1_leaveMark_24 : decode cX1_leaveMark 24 = .ok (.iload_n 1, 1) := by decide +kernel
theorem dX1_leaveMark_25 : decode cX1_leaveMark 25 = .ok (.iastore, 1) := by decide +kernel
theorem dX1_leaveMark_26 : decode cX1_leaveMark 26 = .ok (.aload_n 0, 1) := by decide +kernel
theorem dX1_leaveMark_27 : decode cX1_leaveMark 27 = .ok (.dup, 1) := by decide +kernel
theorem dX1_leaveMark_28 : decode cX1_leaveMark 28 = .ok (.getfield 55, 3) := by decide +kernel
theorem dX1_leaveMark_31 : decode cX1_leaveMark 31 = .ok (.iconst 1, 1) := by decide +kernel
theorem dX1_leaveMark_32 : decode cX1_leaveMark 32 = .ok (.iadd, 1) := by decide +kernel
theorem dX1_leaveMark_33 : decode cX1_leaveMark 33 = .ok (.putfield 55, 3) := by decide +kernel
theorem dX1_leaveMark_36 : decode cX1_leaveMark 36 = .ok (.return_, 1) := by decide +kernel
theorem dX1_innermost_0 : decode cX1_innermost 0 = .ok (.aload_n 0, 1) := by decide +kernel
theorem dX1_innermost_1 : decode cX1_innermost 1 = .ok (.getfield 96, 3) := by decide +kernel
theorem dX1_innermost_4 : decode cX1_innermost 4 = .ok (.ifCond .le 29, 3) := by decide +kernel
theorem dX1_innermost_7 : decode cX1_innermost 7 = .ok (.aload_n 0, 1) := by decide +kernel
theorem dX1_innermost_8 : decode cX1_innermost 8 = .ok (.getfield 96, 3) := by decide +kernel
theorem dX1_innermost_11 : decode cX1_innermost 11 = .ok (.aload_n 0, 1) := by decide +kernel
theorem dX1_innermost_12 : decode cX1_innermost 12 = .ok (.getfield 22, 3) := by decide +kernel
theorem dX1_innermost_15 : decode cX1_innermost 15 = .ok (.arraylength, 1) := by decide +kernel
theorem dX1_innermost_16 : decode cX1_innermost 16 = .ok (.if_icmp .gt 17, 3) := by decide +kernel
theorem dX1_innermost_19 : decode cX1_innermost 19 = .ok (.aload_n 0, 1) := by decide +kernel
theorem dX1_innermost_20 : decode cX1_innermost 20 = .ok (.getfield 22, 3) := by decide +kernel
theorem dX1_innermost_23 : decode cX1_innermost 23 = .ok (.aload_n 0, 1) := by decide +kernel
theorem dX1_innermost_24 : decode cX1_innermost 24 = .ok (.getfield 96, 3) := by decide +kernel
theorem dX1_innermost_27 : decode cX1_innermost 27 = .ok (.iconst 1, 1) := by decide +kernel
theorem dX1_innermost_28 : decode cX1_innermost 28 = .ok (.isub, 1) := by decide +kernel
theorem dX1_innermost_29 : decode cX1_innermost 29 = .ok (.aaload, 1) := by decide +kernel
theorem dX1_innermost_30 : decode cX1_innermost 30 = .ok (.goto 4, 3) := by decide +kernel
theorem dX1_innermost_33 : decode cX1_innermost 33 = .ok (.aconst_null, 1) := by decide +kernel
theorem dX1_innermost_34 : decode cX1_innermost 34 = .ok (.areturn, 1) := by decide +kernel
set_option maxRecDepth 20000 in
theorem ggX1_doDeed_X1_innermost : GoodIn wsX1_doDeed wsX1_innermost := goodIn_r _ [7, 2, 8, 106, 107, 108, 109, 110, 111, 112, 113, 114, 115, 116, 117] (by decide +kernel) (by decide +kernel)
set_option maxRecDepth 20000 in
theorem gX1_doDeed_X1_innermost : GoodIn wsX1_doDeed (wsV RX1 139 RX1 yX1_innermost wsX1_innermost) := goodIn_app (goodIn_of _ (by decide +kernel)) ggX1_doDeed_X1_innermost
set_option maxRecDepth 20000 in
theorem ggX1_doDeed_X1_takeGifts : GoodIn wsX1_doDeed wsX1_takeGifts := goodIn_r _ [12, 13, 14, 15, 6, 16, 17, 18, 97, 98, 99, 100, 101, 102, 103, 104, 105, 106, 107, 108, 109, 110, 111, 112, 113, 114, 115, 116, 117] (by decide +kernel) (by decide +kernel)
set_option maxRecDepth 20000 in
theorem gX1_doDeed_X1_takeGifts : GoodIn wsX1_doDeed (wsV RX1 143 RX1 yX1_takeGifts wsX1_takeGifts) := goodIn_app (goodIn_of _ (by decide +kernel)) ggX1_doDeed_X1_takeGifts
set_option maxRecDepth 20000 in
theorem ggX1_doDeed_X1_divideGifts : GoodIn wsX1_doDeed wsX1_divideGifts := goodIn_r _ [21, 97, 98, 99, 100, 101, 102, 103, 104, 105] (by decide +kernel) (by decide +kernel)
set_option maxRecDepth 20000 in
theorem gX1_doDeed_X1_divideGifts : GoodIn wsX1_doDeed (va_wsS RX1 146 yX1_divideGifts wsX1_divideGifts) := goodIn_app (goodIn_of _ (by decide +kernel)) ggX1_doDeed_X1_divideGifts
set_option maxRecDepth 20000 in
theorem ggX1_doDeed_J9_floorMod_7cf53 : GoodIn wsX1_doDeed wsJ9_floorMod_7cf53 := goodIn_r _ [25] (by decide +kernel) (by decide +kernel)
set_option maxRecDepth 20000 in
theorem gX1_doDeed_J9_floorMod_7cf53 : GoodIn wsX1_doDeed (va_wsS RX1 150 yJ9_floorMod_7cf53 wsJ9_floorMod_7cf53) := goodIn_app (goodIn_of _ (by decide +kernel)) ggX1_doDeed_J9_floorMod_7cf53
set_option maxRecDepth 20000 in
theorem ggX1_doDeed_X1_walkOn : GoodIn wsX1_doDeed wsX1_walkOn := goodIn_r _ [29, 22, 23, 24, 25, 30, 31, 32, 6, 0, 1, 2, 3, 4, 5, 7, 8, 9, 10, 11, 12, 13, 14, 15, 16, 17, 18, 19, 20, 21, 26, 27, 28, 33, 34, 35, 36, 37, 38, 39, 40, 41, 42, 43, 44, 45, 46, 47, 48, 49, 50, 51, 52, 53, 54, 55, 56, 57, 58, 59, 60, 61, 62, 63, 64, 65, 66, 67, 68, 69, 70, 71, 72, 73, 74, 75, 76, 77, 78, 79, 80, 81, 82, 83, 84, 85, 86, 87, 88, 89, 90, 91, 92, 93, 94, 95, 96, 97, 98, 99, 100, 101, 102, 103, 104, 105, 106, 107, 108, 109, 110, 111, 112, 113, 114, 115, 116, 117] (by decide +kernel) (by decide +kernel)
set_option maxRecDepth 20000 in
theorem gX1_doDeed_X1_walkOn : GoodIn wsX1_doDeed (wsV RX1 153 RX1 yX1_walkOn wsX1_walkOn) := goodIn_app (goodIn_of _ (by decide +kernel)) ggX1_doDeed_X1_walkOn
set_option maxRecDepth 20000 in
theorem ggX1_doDeed_X1_addToPurse : GoodIn wsX1_doDeed wsX1_addToPurse := goodIn_r _ [16, 17, 18, 106, 107, 108, 109, 110, 111, 112, 113, 114, 115, 116, 117] (by decide +kernel) (by decide +kernel)
set_option maxRecDepth 20000 in
theorem gX1_doDeed_X1_addToPurse : GoodIn wsX1_doDeed (wsV RX1 156 RX1 yX1_addToPurse wsX1_addToPurse) := goodIn_app (goodIn_of _ (by decide +kernel)) ggX1_doDeed_X1_addToPurse
theorem dX1_doDeed_0 : decode cX1_doDeed 0 = .ok (.aload_n 0, 1) := by decide +kernel
theorem dX1_doDeed_1 : decode cX1_doDeed 1 = .ok (.invokevirtual 139, 3) := by decide +kernel
theorem dX1_doDeed_4 : decode cX1_doDeed 4 = .ok (.astore 4, 2) := by decide +kernel
theorem dX1_doDeed_6 : decode cX1_doDeed 6 = .ok (.aload 4, 2) := by decide +kernel
theorem dX1_doDeed_8 : decode cX1_doDeed 8 = .ok (.ifnonnull 5, 3) := by decide +kernel
theorem dX1_doDeed_11 : decode cX1_doDeed 11 = .ok (.iconst 1, 1) := by decide +kernel
theorem dX1_doDeed_12 : decode cX1_doDeed 12 = .ok (.ireturn, 1) := by decide +kernel
theorem dX1_doDeed_13 : decode cX1_doDeed 13 = .ok (.iload_n 1, 1) := by decide +kernel
theorem dX1_doDeed_14 : decode cX1_doDeed 14 = .ok (.tableswitch 108 1 7 #[42, 55, 62, 69, 83, 90, 99], 42) := by decide +kernel
theorem dX1_doDeed_56 : decode cX1_doDeed 56 = .ok (.aload 4, 2) := by decide +kernel
theorem dX1_doDeed_58 : decode cX1_doDeed 58 = .ok (.dup, 1) := by decide +kernel
theorem dX1_doDeed_59 : decode cX1_doDeed 59 = .ok (.getfield 83, 3) := by decide +kernel
theorem dX1_doDeed_62 : decode cX1_doDeed 62 = .ok (.iload_n 2, 1) := by decide +kernel
theorem dX1_doDeed_63 : decode cX1_doDeed 63 = .ok (.iadd, 1) := by decide +kernel
theorem dX1_doDeed_64 : decode cX1_doDeed 64 = .ok (.putfield 83, 3) := by decide +kernel
theorem dX1_doDeed_67 : decode cX1_doDeed 67 = .ok (.iconst 0, 1) := by decide +kernel
theorem dX1_doDeed_68 : decode cX1_doDeed 68 = .ok (.ireturn, 1) := by decide +kernel
theorem dX1_doDeed_69 : decode cX1_doDeed 69 = .ok (.aload_n 0, 1) := by decide +kernel
theorem dX1_doDeed_70 : decode cX1_doDeed 70 = .ok (.aload 4, 2) := by decide +kernel
theorem dX1_doDeed_72 : decode cX1_doDeed 72 = .ok (.invokevirtual 143, 3) := by decide +kernel
theorem dX1_doDeed_75 : decode cX1_doDeed 75 = .ok (.ireturn, 1) := by decide +kernel
theorem dX1_doDeed_76 : decode cX1_doDeed 76 = .ok (.aload 4, 2) := by decide +kernel
theorem dX1_doDeed_78 : decode cX1_doDeed 78 = .ok (.iload_n 2, 1) := by decide +kernel
theorem dX1_doDeed_79 : decode cX1_doDeed 79 = .ok (.invokestatic 146, 3) := by decide +kernel
theorem dX1_doDeed_82 : decode cX1_doDeed 82 = .ok (.ireturn, 1) := by decide +kernel
theorem dX1_doDeed_83 : decode cX1_doDeed 83 = .ok (.aload_n 0, 1) := by decide +kernel
theorem dX1_doDeed_84 : decode cX1_doDeed 84 = .ok (.getfield 11, 3) := by decide +kernel
theorem dX1_doDeed_87 : decode cX1_doDeed 87 = .ok (.iload_n 2, 1) := by decide +kernel
theorem dX1_doDeed_88 : decode cX1_doDeed 88 = .ok (.bipush 10, 2) := by decide +kernel
theorem dX1_doDeed_90 : decode cX1_doDeed 90 = .ok (.invokestatic 150, 3) := by decide +kernel
theorem dX1_doDeed_93 : decode cX1_doDeed 93 = .ok (.aconst_null, 1) := by decide +kernel
theorem dX1_doDeed_94 : decode cX1_doDeed 94 = .ok (.aastore, 1) := by decide +kernel
theorem dX1_doDeed_95 : decode cX1_doDeed 95 = .ok (.iconst 0, 1) := by decide +kernel
theorem dX1_doDeed_96 : decode cX1_doDeed 96 = .ok (.ireturn, 1) := by decide +kernel
theorem dX1_doDeed_97 : decode cX1_doDeed 97 = .ok (.aload_n 0, 1) := by decide +kernel
theorem dX1_doDeed_98 : decode cX1_doDeed 98 = .ok (.iload_n 2, 1) := by decide +kernel
theorem dX1_doDeed_99 : decode cX1_doDeed 99 = .ok (.iload_n 3, 1) := by decide +kernel
theorem dX1_doDeed_100 : decode cX1_doDeed 100 = .ok (.invokevirtual 153, 3) := by decide +kernel
theorem dX1_doDeed_103 : decode cX1_doDeed 103 = .ok (.ireturn, 1) := by decide +kernel
theorem dX1_doDeed_104 : decode cX1_doDeed 104 = .ok (.bipush 20, 2) := by decide +kernel
theorem dX1_doDeed_106 : decode cX1_doDeed 106 = .ok (.iload_n 2, 1) := by decide +kernel
theorem dX1_doDeed_107 : decode cX1_doDeed 107 = .ok (.iconst 4, 1) := by decide +kernel
theorem dX1_doDeed_108 : decode cX1_doDeed 108 = .ok (.invokestatic 150, 3) := by decide +kernel
theorem dX1_doDeed_111 : decode cX1_doDeed 111 = .ok (.iadd, 1) := by decide +kernel
theorem dX1_doDeed_112 : decode cX1_doDeed 112 = .ok (.ireturn, 1) := by decide +kernel
theorem dX1_doDeed_113 : decode cX1_doDeed 113 = .ok (.aload_n 0, 1) := by decide +kernel
theorem dX1_doDeed_114 : decode cX1_doDeed 114 = .ok (.aload_n 0, 1) := by decide +kernel
theorem dX1_doDeed_115 : decode cX1_doDeed 115 = .ok (.getfield 96, 3) := by decide +kernel
theorem dX1_doDeed_118 : decode cX1_doDeed 118 = .ok (.invokevirtual 156, 3) := by decide +kernel
theorem dX1_doDeed_121 : decode cX1_doDeed 121 = .ok (.ireturn, 1) := by decide +kernel
theorem dX1_doDeed_122 : decode cX1_doDeed 122 = .ok (.iconst 0, 1) := by decide +kernel
theorem dX1_doDeed_123 : decode cX1_doDeed 123 = .ok (.ireturn, 1) := by decide +kernel
set_option maxRecDepth 20000 in
theorem ggX1_takeGifts_X1_addToPurse : GoodIn wsX1_takeGifts wsX1_addToPurse := goodIn_r _ [5, 6, 7, 17, 18, 19, 20, 21, 22, 23, 24, 25, 26, 27, 28] (by decide +kernel) (by decide +kernel)
set_option maxRecDepth 20000 in
theorem gX1_takeGifts_X1_addToPurse : GoodIn wsX1_takeGifts (wsV RX1 156 RX1 yX1_addToPurse wsX1_addToPurse) := goodIn_app (goodIn_of _ (by decide +kernel)) ggX1_takeGifts_X1_addToPurse
theorem dX1_takeGifts_0 : decode cX1_takeGifts 0 = .ok (.aload_n 0, 1) := by decide +kernel
theorem dX1_takeGifts_1 : decode cX1_takeGifts 1 = .ok (.aload_n 1, 1) := by decide +kernel
theorem dX1_takeGifts_2 : decode cX1_takeGifts 2 = .ok (.getfield 83, 3) := by decide +kernel
theorem dX1_takeGifts_5 : decode cX1_takeGifts 5 = .ok (.invokevirtual 156, 3) := by decide +kernel
theorem dX1_takeGifts_8 : decode cX1_takeGifts 8 = .ok (.istore_n 2, 1) := by decide +kernel
theorem dX1_takeGifts_9 : decode cX1_takeGifts 9 = .ok (.iload_n 2, 1) := by decide +kernel
theorem dX1_takeGifts_10 : decode cX1_takeGifts 10 = .ok (.ifCond .ne 8, 3) := by decide +kernel
theorem dX1_takeGifts_13 : decode cX1_takeGifts 13 = .ok (.aload_n 1, 1) := by decide +kernel
theorem dX1_takeGifts_14 : decode cX1_takeGifts 14 = .ok (.iconst 0, 1) := by decide +kernel
theorem dX1_takeGifts_15 : decode cX1_takeGifts 15 = .ok (.putfield 83, 3) := by decide +kernel
theorem dX1_takeGifts_18 : decode cX1_takeGifts 18 = .ok (.iload_n 2, 1) := by decide +kernel
theorem dX1_takeGifts_19 : decode cX1_takeGifts 19 = .ok (.ireturn, 1) := by decide +kernel
theorem dX1_addToPurse_0 : decode cX1_addToPurse 0 = .ok (.aload_n 0, 1) := by decide +kernel
theorem dX1_addToPurse_1 : decode cX1_addToPurse 1 = .ok (.getfield 45, 3) := by decide +kernel
theorem dX1_addToPurse_4 : decode cX1_addToPurse 4 = .ok (.i2l, 1) := by decide +kernel
theorem dX1_addToPurse_5 : decode cX1_addToPurse 5 = .ok (.iload_n 1, 1) := by decide +kernel
theorem dX1_addToPurse_6 : decode cX1_addToPurse 6 = .ok (.i2l, 1) := by decide +kernel
theorem dX1_addToPurse_7 : decode cX1_addToPurse 7 = .ok (.ladd, 1) := by decide +kernel
theorem dX1_addToPurse_8 : decode cX1_addToPurse 8 = .ok (.lstore_n 2, 1) := by decide +kernel
theorem dX1_addToPurse_9 : decode cX1_addToPurse 9 = .ok (.lload_n 2, 1) := by decide +kernel
theorem dX1_addToPurse_10 : decode cX1_addToPurse 10 = .ok (.lconst 0, 1) := by decide +kernel
theorem dX1_addToPurse_11 : decode cX1_addToPurse 11 = .ok (.lcmp, 1) := by decide +kernel
theorem dX1_addToPurse_12 : decode cX1_addToPurse 12 = .ok (.ifCond .lt 11, 3) := by decide +kernel
theorem dX1_addToPurse_15 : decode cX1_addToPurse 15 = .ok (.lload_n 2, 1) := by decide +kernel
theorem dX1_addToPurse_16 : decode cX1_addToPurse 16 = .ok (.ldc2_w 159, 3) := by decide +kernel
theorem dX1_addToPurse_19 : decode cX1_addToPurse 19 = .ok (.lcmp, 1) := by decide +kernel
theorem dX1_addToPurse_20 : decode cX1_addToPurse 20 = .ok (.ifCond .le 6, 3) := by decide +kernel
theorem dX1_addToPurse_23 : decode cX1_addToPurse 23 = .ok (.bipush 22, 2) := by decide +kernel
theorem dX1_addToPurse_25 : decode cX1_addToPurse 25 = .ok (.ireturn, 1) := by decide +kernel
theorem dX1_addToPurse_26 : decode cX1_addToPurse 26 = .ok (.aload_n 0, 1) := by decide +kernel
theorem dX1_addToPurse_27 : decode cX1_addToPurse 27 = .ok (.lload_n 2, 1) := by decide +kernel
theorem dX1_addToPurse_28 : decode cX1_addToPurse 28 = .ok (.l2i, 1) := by decide +kernel
theorem dX1_addToPurse_29 : decode cX1_addToPurse 29 = .ok (.putfield 45, 3) := by decide +kernel
theorem dX1_addToPurse_32 : decode cX1_addToPurse 32 = .ok (.iconst 0, 1) := by decide +kernel
theorem dX1_addToPurse_33 : decode cX1_addToPurse 33 = .ok (.ireturn, 1) := by decide +kernel
theorem dX1_divideGifts_0 : decode cX1_divideGifts 0 = .ok (.iload_n 1, 1) := by decide +kernel
theorem dX1_divideGifts_1 : decode cX1_divideGifts 1 = .ok (.ifCond .ne 6, 3) := by decide +kernel
theorem dX1_divideGifts_4 : decode cX1_divideGifts 4 = .ok (.bipush 6, 2) := by decide +kernel
theorem dX1_divideGifts_6 : decode cX1_divideGifts 6 = .ok (.ireturn, 1) := by decide +kernel
theorem dX1_divideGifts_7 : decode cX1_divideGifts 7 = .ok (.aload_n 0, 1) := by decide +kernel
theorem dX1_divideGifts_8 : decode cX1_divideGifts 8 = .ok (.dup, 1) := by decide +kernel
theorem dX1_divideGifts_9 : decode cX1_divideGifts 9 = .ok (.getfield 83, 3) := by decide +kernel
theorem dX1_divideGifts_12 : decode cX1_divideGifts 12 = .ok (.iload_n 1, 1) := by decide +kernel
theorem dX1_divideGifts_13 : decode cX1_divideGifts 13 = .ok (.idiv, 1) := by decide +kernel
theorem dX1_divideGifts_14 : decode cX1_divideGifts 14 = .ok (.putfield 83, 3) := by decide +kernel
theorem dX1_divideGifts_17 : decode cX1_divideGifts 17 = .ok (.iconst 0, 1) := by decide +kernel
theorem dX1_divideGifts_18 : decode cX1_divideGifts 18 = .ok (.ireturn, 1) := by decide +kernel
set_option maxRecDepth 20000 in
theorem ggX1_walkOn_J9_floorMod_7cf53 : GoodIn wsX1_walkOn wsJ9_floorMod_7cf53 := goodIn_r _ [4] (by decide +kernel) (by decide +kernel)
set_option maxRecDepth 20000 in
theorem gX1_walkOn_J9_floorMod_7cf53 : GoodIn wsX1_walkOn (va_wsS RX1 150 yJ9_floorMod_7cf53 wsJ9_floorMod_7cf53) := goodIn_app (goodIn_of _ (by decide +kernel)) ggX1_walkOn_J9_floorMod_7cf53
set_option maxRecDepth 20000 in
theorem ggX1_walkOn_X1_walkTo : GoodIn wsX1_walkOn wsX1_walkTo := goodIn_r _ [33, 34, 11, 35, 36, 37, 8, 38, 39, 40, 41, 42, 43, 44, 45, 46, 47, 48, 49, 50, 51, 52, 53, 54, 55, 10, 56, 57, 58, 59, 16, 60, 61, 62, 63, 25, 64, 65, 66, 67, 68, 69, 70, 71, 72, 73, 74, 75, 76, 77, 78, 79, 80, 81, 82, 83, 84, 85, 86, 87, 88, 89, 90, 91, 92, 93, 94, 95, 96, 9, 12, 13, 14, 15, 17, 18, 19, 20, 21, 22, 23, 24, 26, 27, 28, 29, 1, 2, 3, 4, 30, 31, 32, 0, 5, 6, 7, 97, 98, 99, 100, 101, 102, 103, 104, 105, 106, 107, 108, 109, 110, 111, 112, 113, 114, 115, 116, 117] (by decide +kernel) (by decide +kernel)
set_option maxRecDepth 20000 in
theorem gX1_walkOn_X1_walkTo : GoodIn wsX1_walkOn (wsV RX1 61 RX1 yX1_walkTo wsX1_walkTo) := goodIn_app (goodIn_of _ (by decide +kernel)) ggX1_walkOn_X1_walkTo
theorem dX1_walkOn_0 : decode cX1_walkOn 0 = .ok (.iload_n 1, 1) := by decide +kernel
theorem dX1_walkOn_1 : decode cX1_walkOn 1 = .ok (.bipush 10, 2) := by decide +kernel
theorem dX1_walkOn_3 : decode cX1_walkOn 3 = .ok (.idiv, 1) := by decide +kernel
theorem dX1_walkOn_4 : decode cX1_walkOn 4 = .ok (.istore_n 3, 1) := by decide +kernel
theorem dX1_walkOn_5 : decode cX1_walkOn 5 = .ok (.aload_n 0, 1) := by decide +kernel
theorem dX1_walkOn_6 : decode cX1_walkOn 6 = .ok (.iload_n 1, 1) := by decide +kernel
theorem dX1_walkOn_7 : decode cX1_walkOn 7 = .ok (.bipush 10, 2) := by decide +kernel
theorem dX1_walkOn_9 : decode cX1_walkOn 9 = .ok (.invokestatic 150, 3) := by decide +kernel
theorem dX1_walkOn_12 : decode cX1_walkOn 12 = .ok (.iload_n 3, 1) := by decide +kernel
theorem dX1_walkOn_13 : decode cX1_walkOn 13 = .ok (.ifCond .ne 7, 3) := by decide +kernel
theorem dX1_walkOn_16 : decode cX1_walkOn 16 = .ok (.iconst 0, 1) := by decide +kernel
theorem dX1_walkOn_17 : decode cX1_walkOn 17 = .ok (.goto 4, 3) := by decide +kernel
theorem dX1_walkOn_20 : decode cX1_walkOn 20 = .ok (.iconst 5, 1) := by decide +kernel
theorem dX1_walkOn_21 : decode cX1_walkOn 21 = .ok (.iload_n 3, 1) := by decide +kernel
theorem dX1_walkOn_22 : decode cX1_walkOn 22 = .ok (.iload_n 2, 1) := by decide +kernel
theorem dX1_walkOn_23 : decode cX1_walkOn 23 = .ok (.invokevirtual 61, 3) := by decide +kernel
theorem dX1_walkOn_26 : decode cX1_walkOn 26 = .ok (.ireturn, 1) := by decide +kernel
theorem dX2_init_0 : decode cX2_init 0 = .ok (.aload_n 0, 1) := by decide +kernel
theorem dX2_init_1 : decode cX2_init 1 = .ok (.invokespecial 1, 3) := by decide +kernel
theorem dX2_init_4 : decode cX2_init 4 = .ok (.aload_n 0, 1) := by decide +kernel
theorem dX2_init_5 : decode cX2_init 5 = .ok (.sipush 4200, 3) := by decide +kernel
theorem dX2_init_8 : decode cX2_init 8 = .ok (.newarray .int, 2) := by decide +kernel
theorem dX2_init_10 : decode cX2_init 10 = .ok (.putfield 7, 3) := by decide +kernel
theorem dX2_init_13 : decode cX2_init 13 = .ok (.aload_n 0, 1) := by decide +kernel
theorem dX2_init_14 : decode cX2_init 14 = .ok (.sipush 4200, 3) := by decide +kernel
theorem dX2_init_17 : decode cX2_init 17 = .ok (.newarray .int, 2) := by decide +kernel
theorem dX2_init_19 : decode cX2_init 19 = .ok (.putfield 13, 3) := by decide +kernel
theorem dX2_init_22 : decode cX2_init 22 = .ok (.aload_n 0, 1) := by decide +kernel
theorem dX2_init_23 : decode cX2_init 23 = .ok (.sipush 4200, 3) := by decide +kernel
theorem dX2_init_26 : decode cX2_init 26 = .ok (.newarray .int, 2) := by decide +kernel
theorem dX2_init_28 : decode cX2_init 28 = .ok (.putfield 16, 3) := by decide +kernel
theorem dX2_init_31 : decode cX2_init 31 = .ok (.aload_n 0, 1) := by decide +kernel
theorem dX2_init_32 : decode cX2_init 32 = .ok (.sipush 4200, 3) := by decide +kernel
theorem dX2_init_35 : decode cX2_init 35 = .ok (.newarray .int, 2) := by decide +kernel
theorem dX2_init_37 : decode cX2_init 37 = .ok (.putfield 19, 3) := by decide +kernel
theorem dX2_init_40 : decode cX2_init 40 = .ok (.aload_n 0, 1) := by decide +kernel
theorem dX2_init_41 : decode cX2_init 41 = .ok (.sipush 4200, 3) := by decide +kernel
theorem dX2_init_44 : decode cX2_init 44 = .ok (.newarray .int, 2) := by decide +kernel
theorem dX2_init_46 : decode cX2_init 46 = .ok (.putfield 22, 3) := by decide +kernel
theorem dX2_init_49 : decode cX2_init 49 = .ok (.aload_n 0, 1) := by decide +kernel
theorem dX2_init_50 : decode cX2_init 50 = .ok (.sipush 4200, 3) := by decide +kernel
theorem dX2_init_53 : decode cX2_init 53 = .ok (.newarray .int, 2) := by decide +kernel
theorem dX2_init_55 : decode cX2_init 55 = .ok (.putfield 25, 3) := by decide +kernel
theorem dX2_init_58 : decode cX2_init 58 = .ok (.aload_n 0, 1) := by decide +kernel
theorem dX2_init_59 : decode cX2_init 59 = .ok (.sipush 4200, 3) := by decide +kernel
theorem dX2_init_62 : decode cX2_init 62 = .ok (.newarray .int, 2) := by decide +kernel
theorem dX2_init_64 : decode cX2_init 64 = .ok (.putfield 28, 3) := by decide +kernel
theorem dX2_init_67 : decode cX2_init 67 = .ok (.aload_n 0, 1) := by decide +kernel
theorem dX2_init_68 : decode cX2_init 68 = .ok (.sipush 4200, 3) := by decide +kernel
theorem dX2_init_71 : decode cX2_init 71 = .ok (.newarray .int, 2) := by decide +kernel
theorem dX2_init_73 : decode cX2_init 73 = .ok (.putfield 31, 3) := by decide +kernel
theorem dX2_init_76 : decode cX2_init 76 = .ok (.aload_n 0, 1) := by decide +kernel
theorem dX2_init_77 : decode cX2_init 77 = .ok (.bipush 10, 2) := by decide +kernel
theorem dX2_init_79 : decode cX2_init 79 = .ok (.newarray .int, 2) := by decide +kernel
theorem dX2_init_81 : decode cX2_init 81 = .ok (.dup, 1) := by decide +kernel
theorem dX2_init_82 : decode cX2_init 82 = .ok (.iconst 0, 1) := by decide +kernel
theorem dX2_init_83 : decode cX2_init 83 = .ok (.iconst (-1), 1) := by decide +kernel
theorem dX2_init_84 : decode cX2_init 84 = .ok (.iastore, 1) := by decide +kernel
theorem dX2_init_85 : decode cX2_init 85 = .ok (.dup, 1) := by decide +kernel
theorem dX2_init_86 : decode cX2_init 86 = .ok (.iconst 1, 1) := by decide +kernel
theorem dX2_init_87 : decode cX2_init 87 = .ok (.iconst (-1), 1) := by decide +kernel
theorem dX2_init_88 : decode cX2_init 88 = .ok (.iastore, 1) := by decide +kernel
theorem dX2_init_89 : decode cX2_init 89 = .ok (.dup, 1) := by decide +kernel
theorem dX2_init_90 : decode cX2_init 90 = .ok (.iconst 2, 1) := by decide +kernel
theorem dX2_init_91 : decode cX2_init 91 = .ok (.iconst (-1), 1) := by decide +kernel
theorem dX2_init_92 : decode cX2_init 92 = .ok (.iastore, 1) := by decide +kernel
theorem dX2_init_93 : decode cX2_init 93 = .ok (.dup, 1) := by decide +kernel
theorem dX2_init_94 : decode cX2_init 94 = .ok (.iconst 3, 1) := by decide +kernel
theorem dX2_init_95 : decode cX2_init 95 = .ok (.iconst (-1), 1) := by decide +kernel
theorem dX2_init_96 : decode cX2_init 96 = .ok (.iastore, 1) := by decide +kernel
theorem dX2_init_97 : decode cX2_init 97 = .ok (.dup, 1) := by decide +kernel
theorem dX2_init_98 : decode cX2_init 98 = .ok (.iconst 4, 1) := by decide +kernel
theorem dX2_init_99 : decode cX2_init 99 = .ok (.iconst (-1), 1) := by decide +kernel
theorem dX2_init_100 : decode cX2_init 100 = .ok (.iastore, 1) := by decide +kernel
theorem dX2_init_101 : decode cX2_init 101 = .ok (.dup, 1) := by decide +kernel
theorem dX2_init_102 : decode cX2_init 102 = .ok (.iconst 5, 1) := by decide +kernel
theorem dX2_init_103 : decode cX2_init 103 = .ok (.iconst (-1), 1) := by decide +kernel
theorem dX2_init_104 : decode cX2_init 104 = .ok (.iastore, 1) := by decide +kernel
theorem dX2_init_105 : decode cX2_init 105 = .ok (.dup, 1) := by decide +kernel
theorem dX2_init_106 : decode cX2_init 106 = .ok (.bipush 6, 2) := by decide +kernel
theorem dX2_init_108 : decode cX2_init 108 = .ok (.iconst (-1), 1) := by decide +kernel
theorem dX2_init_109 : decode cX2_init 109 = .ok (.iastore, 1) := by decide +kernel
theorem dX2_init_110 : decode cX2_init 110 = .ok (.dup, 1) := by decide +kernel
theorem dX2_init_111 : decode cX2_init 111 = .ok (.bipush 7, 2) := by decide +kernel
theorem dX2_init_113 : decode cX2_init 113 = .ok (.iconst (-1), 1) := by decide +kernel
theorem dX2_init_114 : decode cX2_init 114 = .ok (.iastore, 1) := by decide +kernel
theorem dX2_init_115 : decode cX2_init 115 = .ok (.dup, 1) := by decide +kernel
theorem dX2_init_116 : decode cX2_init 116 = .ok (.bipush 8, 2) := by decide +kernel
theorem dX2_init_118 : decode cX2_init 118 = .ok (.iconst (-1), 1) := by decide +kernel
theorem dX2_init_119 : decode cX2_init 119 = .ok (.iastore, 1) := by decide +kernel
theorem dX2_init_120 : decode cX2_init 120 = .ok (.dup, 1) := by decide +kernel
theorem dX2_init_121 : decode cX2_init 121 = .ok (.bipush 9, 2) := by decide +kernel
theorem dX2_init_123 : decode cX2_init 123 = .ok (.iconst (-1), 1) := by decide +kernel
theorem dX2_init_124 : decode cX2_init 124 = .ok (.iastore, 1) := by decide +kernel
theorem dX2_init_125 : decode cX2_init 125 = .ok (.putfield 34, 3) := by decide +kernel
theorem dX2_init_128 : decode cX2_init 128 = .ok (.aload_n 0, 1) := by decide +kernel
theorem dX2_init_129 : decode cX2_init 129 = .ok (.bipush 10, 2) := by decide +kernel
theorem dX2_init_131 : decode cX2_init 131 = .ok (.newarray .int, 2) := by decide +kernel
theorem dX2_init_133 : decode cX2_init 133 = .ok (.dup, 1) := by decide +kernel
theorem dX2_init_134 : decode cX2_init 134 = .ok (.iconst 0, 1) := by decide +kernel
theorem dX2_init_135 : decode cX2_init 135 = .ok (.iconst (-1), 1) := by decide +kernel
theorem dX2_init_136 : decode cX2_init 136 = .ok (.iastore, 1) := by decide +kernel
theorem dX2_init_137 : decode cX2_init 137 = .ok (.dup, 1) := by decide +kernel
theorem dX2_init_138 : decode cX2_init 138 = .ok (.iconst 1, 1) := by decide +kernel
theorem dX2_init_139 : decode cX2_init 139 = .ok (.iconst (-1), 1) := by decide +kernel
theorem dX2_init_140 : decode cX2_init 140 = .ok (.iastore, 1) := by decide +kernel
theorem dX2_init_141 : decode cX2_init 141 = .ok (.dup, 1) := by decide +kernel
theorem dX2_init_142 : decode cX2_init 142 = .ok (.iconst 2, 1) := by decide +kernel
theorem dX2_init_143 : decode cX2_init 143 = .ok (.iconst (-1), 1) := by decide +kernel
theorem dX2_init_144 : decode cX2_init 144 = .ok (.iastore, 1) := by decide +kernel
theorem dX2_init_145 : decode cX2_init 145 = .ok (.dup, 1) := by decide +kernel
theorem dX2_init_146 : decode cX2_init 146 = .ok (.iconst 3, 1) := by decide +kernel
theorem dX2_init_147 : decode cX2_init 147 = .ok (.iconst (-1), 1) := by decide +kernel
theorem dX2_init_148 : decode cX2_init 148 = .ok (.iastore, 1) := by decide +kernel
theorem dX2_init_149 : decode cX2_init 149 = .ok (.dup, 1) := by decide +kernel
theorem dX2_init_150 : decode cX2_init 150 = .ok (.iconst 4, 1) := by decide +kernel
theorem dX2_init_151 : decode cX2_init 151 = .ok (.iconst (-1), 1) := by decide +kernel
theorem dX2_init_152 : decode cX2_init 152 = .ok (.iastore, 1) := by decide +kernel
theorem dX2_init_153 : decode cX2_init 153 = .ok (.dup, 1) := by decide +kernel
theorem dX2_init_154 : decode cX2_init 154 = .ok (.iconst 5, 1) := by decide +kernel
theorem dX2_init_155 : decode cX2_init 155 = .ok (.iconst (-1), 1) := by decide +kernel
theorem dX2_init_156 : decode cX2_init 156 = .ok (.iastore, 1) := by decide +kernel
theorem dX2_init_157 : decode cX2_init 157 = .ok (.dup, 1) := by decide +kernel
theorem dX2_init_158 : decode cX2_init 158 = .ok (.bipush 6, 2) := by decide +kernel
theorem dX2_init_160 : decode cX2_init 160 = .ok (.iconst (-1), 1) := by decide +kernel
theorem dX2_init_161 : decode cX2_init 161 = .ok (.iastore, 1) := by decide +kernel
theorem dX2_init_162 : decode cX2_init 162 = .ok (.dup, 1) := by decide +kernel
theorem dX2_init_163 : decode cX2_init 163 = .ok (.bipush 7, 2) := by decide +kernel
theorem dX2_init_165 : decode cX2_init 165 = .ok (.iconst (-1), 1) := by decide +kernel
theorem dX2_init_166 : decode cX2_init 166 = .ok (.iastore, 1) := by decide +kernel
theorem dX2_init_167 : decode cX2_init 167 = .ok (.dup, 1) := by decide +kernel
theorem dX2_init_168 : decode cX2_init 168 = .ok (.bipush 8, 2) := by decide +kernel
theorem dX2_init_170 : decode cX2_init 170 = .ok (.iconst (-1), 1) := by decide +kernel
theorem dX2_init_171 : decode cX2_init 171 = .ok (.iastore, 1) := by decide +kernel
theorem dX2_init_172 : decode cX2_init 172 = .ok (.dup, 1) := by decide +kernel
theorem dX2_init_173 : decode cX2_init 173 = .ok (.bipush 9, 2) := by decide +kernel
theorem dX2_init_175 : decode cX2_init 175 = .ok (.iconst (-1), 1) := by decide +kernel
theorem dX2_init_176 : decode cX2_init 176 = .ok (.iastore, 1) := by decide +kernel
theorem dX2_init_177 : decode cX2_init 177 = .ok (.putfield 37, 3) := by decide +kernel
theorem dX2_init_180 : decode cX2_init 180 = .ok (.aload_n 0, 1) := by decide +kernel
theorem dX2_init_181 : decode cX2_init 181 = .ok (.bipush 100, 2) := by decide +kernel
theorem dX2_init_183 : decode cX2_init 183 = .ok (.newarray .int, 2) := by decide +kernel
theorem dX2_init_185 : decode cX2_init 185 = .ok (.putfield 40, 3) := by decide +kernel
theorem dX2_init_188 : decode cX2_init 188 = .ok (.aload_n 0, 1) := by decide +kernel
theorem dX2_init_189 : decode cX2_init 189 = .ok (.bipush 64, 2) := by decide +kernel
theorem dX2_init_191 : decode cX2_init 191 = .ok (.newarray .int, 2) := by decide +kernel
theorem dX2_init_193 : decode cX2_init 193 = .ok (.putfield 43, 3) := by decide +kernel
theorem dX2_init_196 : decode cX2_init 196 = .ok (.aload_n 0, 1) := by decide +kernel
theorem dX2_init_197 : decode cX2_init 197 = .ok (.bipush 10, 2) := by decide +kernel
theorem dX2_init_199 : decode cX2_init 199 = .ok (.newarray .int, 2) := by decide +kernel
theorem dX2_init_201 : decode cX2_init 201 = .ok (.putfield 46, 3) := by decide +kernel
theorem dX2_init_204 : decode cX2_init 204 = .ok (.return_, 1) := by decide +kernel
theorem dX2_in_0 : decode cX2_in 0 = .ok (.iload_n 0, 1) := by decide +kernel
theorem dX2_in_1 : decode cX2_in 1 = .ok (.iload_n 1, 1) := by decide +kernel
theorem dX2_in_2 : decode cX2_in 2 = .ok (.if_icmp .lt 12, 3) := by decide +kernel
theorem dX2_in_5 : decode cX2_in 5 = .ok (.iload_n 0, 1) := by decide +kernel
theorem dX2_in_6 : decode cX2_in 6 = .ok (.iload_n 2, 1) := by decide +kernel
theorem dX2_in_7 : decode cX2_in 7 = .ok (.if_icmp .gt 7, 3) := by decide +kernel
theorem dX2_in_10 : decode cX2_in 10 = .ok (.iconst 1, 1) := by decide +kernel
theorem dX2_in_11 : decode cX2_in 11 = .ok (.goto 4, 3) := by decide +kernel
theorem dX2_in_14 : decode cX2_in 14 = .ok (.iconst 0, 1) := by decide +kernel
theorem dX2_in_15 : decode cX2_in 15 = .ok (.ireturn, 1) := by decide +kernel
theorem dX2_ten_0 : decode cX2_ten 0 = .ok (.iload_n 0, 1) := by decide +kernel
theorem dX2_ten_1 : decode cX2_ten 1 = .ok (.bipush 10, 2) := by decide +kernel
theorem dX2_ten_3 : decode cX2_ten 3 = .ok (.irem, 1) := by decide +kernel
theorem dX2_ten_4 : decode cX2_ten 4 = .ok (.istore_n 1, 1) := by decide +kernel
theorem dX2_ten_5 : decode cX2_ten 5 = .ok (.iload_n 1, 1) := by decide +kernel
theorem dX2_ten_6 : decode cX2_ten 6 = .ok (.ifCond .ge 10, 3) := by decide +kernel
theorem dX2_ten_9 : decode cX2_ten 9 = .ok (.iload_n 1, 1) := by decide +kernel
theorem dX2_ten_10 : decode cX2_ten 10 = .ok (.bipush 10, 2) := by decide +kernel
theorem dX2_ten_12 : decode cX2_ten 12 = .ok (.iadd, 1) := by decide +kernel
theorem dX2_ten_13 : decode cX2_ten 13 = .ok (.goto 4, 3) := by decide +kernel
theorem dX2_ten_16 : decode cX2_ten 16 = .ok (.iload_n 1, 1) := by decide +kernel
theorem dX2_ten_17 : decode cX2_ten 17 = .ok (.ireturn, 1) := by decide +kernel
set_option maxRecDepth 20000 in
theorem ggX2_hall_X2_in : GoodIn wsX2_hall wsX2_in := goodIn_r _ [8] (by decide +kernel) (by decide +kernel)
set_option maxRecDepth 20000 in
theorem gX2_hall_X2_in : GoodIn wsX2_hall (va_wsS RX2 49 yX2_in wsX2_in) := goodIn_app (goodIn_of _ (by decide +kernel)) ggX2_hall_X2_in
theorem dX2_hall_0 : decode cX2_hall 0 = .ok (.iload_n 1, 1) := by decide +kernel
theorem dX2_hall_1 : decode cX2_hall 1 = .ok (.iconst 0, 1) := by decide +kernel
theorem dX2_hall_2 : decode cX2_hall 2 = .ok (.bipush 9, 2) := by decide +kernel
theorem dX2_hall_4 : decode cX2_hall 4 = .ok (.invokestatic 49, 3) := by decide +kernel
theorem dX2_hall_7 : decode cX2_hall 7 = .ok (.ifCond .eq 23, 3) := by decide +kernel
theorem dX2_hall_10 : decode cX2_hall 10 = .ok (.iload_n 2, 1) := by decide +kernel
theorem dX2_hall_11 : decode cX2_hall 11 = .ok (.iconst 0, 1) := by decide +kernel
theorem dX2_hall_12 : decode cX2_hall 12 = .ok (.iconst 2, 1) := by decide +kernel
theorem dX2_hall_13 : decode cX2_hall 13 = .ok (.invokestatic 49, 3) := by decide +kernel
theorem dX2_hall_16 : decode cX2_hall 16 = .ok (.ifCond .eq 14, 3) := by decide +kernel
theorem dX2_hall_19 : decode cX2_hall 19 = .ok (.iload_n 3, 1) := by decide +kernel
theorem dX2_hall_20 : decode cX2_hall 20 = .ok (.iconst 0, 1) := by decide +kernel
theorem dX2_hall_21 : decode cX2_hall 21 = .ok (.sipush 1000, 3) := by decide +kernel
theorem dX2_hall_24 : decode cX2_hall 24 = .ok (.invokestatic 49, 3) := by decide +kernel
theorem dX2_hall_27 : decode cX2_hall 27 = .ok (.ifCond .ne 5, 3) := by decide +kernel
theorem dX2_hall_30 : decode cX2_hall 30 = .ok (.iconst (-1), 1) := by decide +kernel
theorem dX2_hall_31 : decode cX2_hall 31 = .ok (.ireturn, 1) := by decide +kernel
theorem dX2_hall_32 : decode cX2_hall 32 = .ok (.aload_n 0, 1) := by decide +kernel
theorem dX2_hall_33 : decode cX2_hall 33 = .ok (.getfield 7, 3) := by decide +kernel
theorem dX2_hall_36 : decode cX2_hall 36 = .ok (.aload_n 0, 1) := by decide +kernel
theorem dX2_hall_37 : decode cX2_hall 37 = .ok (.getfield 53, 3) := by decide +kernel
theorem dX2_hall_40 : decode cX2_hall 40 = .ok (.iload_n 2, 1) := by decide +kernel
theorem dX2_hall_41 : decode cX2_hall 41 = .ok (.iastore, 1) := by decide +kernel
theorem dX2_hall_42 : decode cX2_hall 42 = .ok (.aload_n 0, 1) := by decide +kernel
theorem dX2_hall_43 : decode cX2_hall 43 = .ok (.getfield 13, 3) := by decide +kernel
theorem dX2_hall_46 : decode cX2_hall 46 = .ok (.aload_n 0, 1) := by decide +kernel
theorem dX2_hall_47 : decode cX2_hall 47 = .ok (.getfield 53, 3) := by decide +kernel
theorem dX2_hall_50 : decode cX2_hall 50 = .ok (.iload_n 3, 1) := by decide +kernel
theorem dX2_hall_51 : decode cX2_hall 51 = .ok (.iastore, 1) := by decide +kernel
theorem dX2_hall_52 : decode cX2_hall 52 = .ok (.aload_n 0, 1) := by decide +kernel
theorem dX2_hall_53 : decode cX2_hall 53 = .ok (.getfield 34, 3) := by decide +kernel
theorem dX2_hall_56 : decode cX2_hall 56 = .ok (.iload_n 1, 1) := by decide +kernel
theorem dX2_hall_57 : decode cX2_hall 57 = .ok (.aload_n 0, 1) := by decide +kernel
theorem dX2_hall_58 : decode cX2_hall 58 = .ok (.getfield 53, 3) := by decide +kernel
theorem dX2_hall_61 : decode cX2_hall 61 = .ok (.iastore, 1) := by decide +kernel
theorem dX2_hall_62 : decode cX2_hall 62 = .ok (.aload_n 0, 1) := by decide +kernel
theorem dX2_hall_63 : decode cX2_hall 63 = .ok (.dup, 1) := by decide +kernel
theorem dX2_hall_64 : decode cX2_hall 64 = .ok (.getfield 53, 3) := by decide +kernel
theorem dX2_hall_67 : decode cX2_hall 67 = .ok (.iconst 1, 1) := by decide +kernel
theorem dX2_hall_68 : decode cX2_hall 68 = .ok (.iadd, 1) := by decide +kernel
theorem dX2_hall_69 : decode cX2_hall 69 = .ok (.putfield 53, 3) := by decide +kernel
theorem dX2_hall_72 : decode cX2_hall 72 = .ok (.aload_n 0, 1) := by decide +kernel
theorem dX2_hall_73 : decode cX2_hall 73 = .ok (.getfield 53, 3) := by decide +kernel
theorem dX2_hall_76 : decode cX2_hall 76 = .ok (.iconst 1, 1) := by decide +kernel
theorem dX2_hall_77 : decode cX2_hall 77 = .ok (.isub, 1) := by decide +kernel
theorem dX2_hall_78 : decode cX2_hall 78 = .ok (.ireturn, 1) := by decide +kernel
set_option maxRecDepth 20000 in
theorem ggX2_share_X2_in : GoodIn wsX2_share wsX2_in := goodIn_r _ [5] (by decide +kernel) (by decide +kernel)
set_option maxRecDepth 20000 in
theorem gX2_share_X2_in : GoodIn wsX2_share (va_wsS RX2 49 yX2_in wsX2_in) := goodIn_app (goodIn_of _ (by decide +kernel)) ggX2_share_X2_in
theorem dX2_share_0 : decode cX2_share 0 = .ok (.iload_n 1, 1) := by decide +kernel
theorem dX2_share_1 : decode cX2_share 1 = .ok (.iconst 0, 1) := by decide +kernel
theorem dX2_share_2 : decode cX2_share 2 = .ok (.bipush 9, 2) := by decide +kernel
theorem dX2_share_4 : decode cX2_share 4 = .ok (.invokestatic 49, 3) := by decide +kernel
theorem dX2_share_7 : decode cX2_share 7 = .ok (.ifCond .eq 13, 3) := by decide +kernel
theorem dX2_share_10 : decode cX2_share 10 = .ok (.iload_n 2, 1) := by decide +kernel
theorem dX2_share_11 : decode cX2_share 11 = .ok (.iconst 0, 1) := by decide +kernel
theorem dX2_share_12 : decode cX2_share 12 = .ok (.bipush 9, 2) := by decide +kernel
theorem dX2_share_14 : decode cX2_share 14 = .ok (.invokestatic 49, 3) := by decide +kernel
theorem dX2_share_17 : decode cX2_share 17 = .ok (.ifCond .ne 5, 3) := by decide +kernel
theorem dX2_share_20 : decode cX2_share 20 = .ok (.iconst (-1), 1) := by decide +kernel
theorem dX2_share_21 : decode cX2_share 21 = .ok (.ireturn, 1) := by decide +kernel
theorem dX2_share_22 : decode cX2_share 22 = .ok (.aload_n 0, 1) := by decide +kernel
theorem dX2_share_23 : decode cX2_share 23 = .ok (.getfield 34, 3) := by decide +kernel
theorem dX2_share_26 : decode cX2_share 26 = .ok (.iload_n 2, 1) := by decide +kernel
theorem dX2_share_27 : decode cX2_share 27 = .ok (.aload_n 0, 1) := by decide +kernel
theorem dX2_share_28 : decode cX2_share 28 = .ok (.getfield 34, 3) := by decide +kernel
theorem dX2_share_31 : decode cX2_share 31 = .ok (.iload_n 1, 1) := by decide +kernel
theorem dX2_share_32 : decode cX2_share 32 = .ok (.iaload, 1) := by decide +kernel
theorem dX2_share_33 : decode cX2_share 33 = .ok (.iastore, 1) := by decide +kernel
theorem dX2_share_34 : decode cX2_share 34 = .ok (.aload_n 0, 1) := by decide +kernel
theorem dX2_share_35 : decode cX2_share 35 = .ok (.getfield 34, 3) := by decide +kernel
theorem dX2_share_38 : decode cX2_share 38 = .ok (.iload_n 2, 1) := by decide +kernel
theorem dX2_share_39 : decode cX2_share 39 = .ok (.iaload, 1) := by decide +kernel
theorem dX2_share_40 : decode cX2_share 40 = .ok (.iconst (-1), 1) := by decide +kernel
theorem dX2_share_41 : decode cX2_share 41 = .ok (.if_icmp .ne 7, 3) := by decide +kernel
theorem dX2_share_44 : decode cX2_share 44 = .ok (.iconst 0, 1) := by decide +kernel
theorem dX2_share_45 : decode cX2_share 45 = .ok (.goto 4, 3) := by decide +kernel
theorem dX2_share_48 : decode cX2_share 48 = .ok (.iconst 1, 1) := by decide +kernel
theorem dX2_share_49 : decode cX2_share 49 = .ok (.ireturn, 1) := by decide +kernel
set_option maxRecDepth 20000 in
theorem ggX2_parent_X2_in : GoodIn wsX2_parent wsX2_in := goodIn_r _ [5] (by decide +kernel) (by decide +kernel)
set_option maxRecDepth 20000 in
theorem gX2_parent_X2_in : GoodIn wsX2_parent (va_wsS RX2 49 yX2_in wsX2_in) := goodIn_app (goodIn_of _ (by decide +kernel)) ggX2_parent_X2_in
theorem dX2_parent_0 : decode cX2_parent 0 = .ok (.iload_n 1, 1) := by decide +kernel
theorem dX2_parent_1 : decode cX2_parent 1 = .ok (.iconst 0, 1) := by decide +kernel
theorem dX2_parent_2 : decode cX2_parent 2 = .ok (.bipush 9, 2) := by decide +kernel
theorem dX2_parent_4 : decode cX2_parent 4 = .ok (.invokestatic 49, 3) := by decide +kernel
theorem dX2_parent_7 : decode cX2_parent 7 = .ok (.ifCond .eq 13, 3) := by decide +kernel
theorem dX2_parent_10 : decode cX2_parent 10 = .ok (.iload_n 2, 1) := by decide +kernel
theorem dX2_parent_11 : decode cX2_parent 11 = .ok (.iconst (-1), 1) := by decide +kernel
theorem dX2_parent_12 : decode cX2_parent 12 = .ok (.bipush 9, 2) := by decide +kernel
theorem dX2_parent_14 : decode cX2_parent 14 = .ok (.invokestatic 49, 3) := by decide +kernel
theorem dX2_parent_17 : decode cX2_parent 17 = .ok (.ifCond .ne 6, 3) := by decide +kernel
theorem dX2_parent_20 : decode cX2_parent 20 = .ok (.bipush (-2), 2) := by decide +kernel
theorem dX2_parent_22 : decode cX2_parent 22 = .ok (.ireturn, 1) := by decide +kernel
theorem dX2_parent_23 : decode cX2_parent 23 = .ok (.aload_n 0, 1) := by decide +kernel
theorem dX2_parent_24 : decode cX2_parent 24 = .ok (.getfield 37, 3) := by decide +kernel
theorem dX2_parent_27 : decode cX2_parent 27 = .ok (.iload_n 1, 1) := by decide +kernel
theorem dX2_parent_28 : decode cX2_parent 28 = .ok (.iaload, 1) := by decide +kernel
theorem dX2_parent_29 : decode cX2_parent 29 = .ok (.istore_n 3, 1) := by decide +kernel
theorem dX2_parent_30 : decode cX2_parent 30 = .ok (.aload_n 0, 1) := by decide +kernel
theorem dX2_parent_31 : decode cX2_parent 31 = .ok (.getfield 37, 3) := by decide +kernel
theorem dX2_parent_34 : decode cX2_parent 34 = .ok (.iload_n 1, 1) := by decide +kernel
theorem dX2_parent_35 : decode cX2_parent 35 = .ok (.iload_n 2, 1) := by decide +kernel
theorem dX2_parent_36 : decode cX2_parent 36 = .ok (.iastore, 1) := by decide +kernel
theorem dX2_parent_37 : decode cX2_parent 37 = .ok (.iload_n 3, 1) := by decide +kernel
theorem dX2_parent_38 : decode cX2_parent 38 = .ok (.ireturn, 1) := by decide +kernel
set_option maxRecDepth 20000 in
theorem ggX2_fill_X2_in : GoodIn wsX2_fill wsX2_in := goodIn_r _ [6] (by decide +kernel) (by decide +kernel)
set_option maxRecDepth 20000 in
theorem gX2_fill_X2_in : GoodIn wsX2_fill (va_wsS RX2 49 yX2_in wsX2_in) := goodIn_app (goodIn_of _ (by decide +kernel)) ggX2_fill_X2_in
theorem dX2_fill_0 : decode cX2_fill 0 = .ok (.iload_n 1, 1) := by decide +kernel
theorem dX2_fill_1 : decode cX2_fill 1 = .ok (.iconst 0, 1) := by decide +kernel
theorem dX2_fill_2 : decode cX2_fill 2 = .ok (.sipush 1000, 3) := by decide +kernel
theorem dX2_fill_5 : decode cX2_fill 5 = .ok (.invokestatic 49, 3) := by decide +kernel
theorem dX2_fill_8 : decode cX2_fill 8 = .ok (.ifCond .ne 5, 3) := by decide +kernel
theorem dX2_fill_11 : decode cX2_fill 11 = .ok (.iconst (-1), 1) := by decide +kernel
theorem dX2_fill_12 : decode cX2_fill 12 = .ok (.ireturn, 1) := by decide +kernel
theorem dX2_fill_13 : decode cX2_fill 13 = .ok (.aload_n 0, 1) := by decide +kernel
theorem dX2_fill_14 : decode cX2_fill 14 = .ok (.aload_n 0, 1) := by decide +kernel
theorem dX2_fill_15 : decode cX2_fill 15 = .ok (.getfield 57, 3) := by decide +kernel
theorem dX2_fill_18 : decode cX2_fill 18 = .ok (.iload_n 1, 1) := by decide +kernel
theorem dX2_fill_19 : decode cX2_fill 19 = .ok (.iadd, 1) := by decide +kernel
theorem dX2_fill_20 : decode cX2_fill 20 = .ok (.ldc 60, 2) := by decide +kernel
theorem dX2_fill_22 : decode cX2_fill 22 = .ok (.if_icmp .le 8, 3) := by decide +kernel
theorem dX2_fill_25 : decode cX2_fill 25 = .ok (.ldc 60, 2) := by decide +kernel
theorem dX2_fill_27 : decode cX2_fill 27 = .ok (.goto 9, 3) := by decide +kernel
theorem dX2_fill_30 : decode cX2_fill 30 = .ok (.aload_n 0, 1) := by decide +kernel
theorem dX2_fill_31 : decode cX2_fill 31 = .ok (.getfield 57, 3) := by decide +kernel
theorem dX2_fill_34 : decode cX2_fill 34 = .ok (.iload_n 1, 1) := by decide +kernel
theorem dX2_fill_35 : decode cX2_fill 35 = .ok (.iadd, 1) := by decide +kernel
theorem dX2_fill_36 : decode cX2_fill 36 = .ok (.putfield 57, 3) := by decide +kernel
theorem dX2_fill_39 : decode cX2_fill 39 = .ok (.aload_n 0, 1) := by decide +kernel
theorem dX2_fill_40 : decode cX2_fill 40 = .ok (.getfield 57, 3) := by decide +kernel
theorem dX2_fill_43 : decode cX2_fill 43 = .ok (.ireturn, 1) := by decide +kernel
theorem dX2_leave_0 : decode cX2_leave 0 = .ok (.aload_n 0, 1) := by decide +kernel
theorem dX2_leave_1 : decode cX2_leave 1 = .ok (.getfield 61, 3) := by decide +kernel
theorem dX2_leave_4 : decode cX2_leave 4 = .ok (.bipush 100, 2) := by decide +kernel
theorem dX2_leave_6 : decode cX2_leave 6 = .ok (.if_icmp .ge 23, 3) := by decide +kernel
theorem dX2_leave_9 : decode cX2_leave 9 = .ok (.aload_n 0, 1) := by decide +kernel
theorem dX2_leave_10 : decode cX2_leave 10 = .ok (.getfield 40, 3) := by decide +kernel
theorem dX2_leave_13 : decode cX2_leave 13 = .ok (.aload_n 0, 1) := by decide +kernel
theorem dX2_leave_14 : decode cX2_leave 14 = .ok (.getfield 61, 3) := by decide +kernel
theorem dX2_leave_17 : decode cX2_leave 17 = .ok (.iload_n 1, 1) := by decide +kernel
theorem dX2_leave_18 : decode cX2_leave 18 = .ok (.iastore, 1) := by decide +kernel
theorem dX2_leave_19 : decode cX2_leave 19 = .ok (.aload_n 0, 1) := by decide +kernel
theorem dX2_leave_20 : decode cX2_leave 20 = .ok (.dup, 1) := by decide +kernel
theorem dX2_leave_21 : decode cX2_leave 21 = .ok (.getfield 61, 3) := by decide +kernel
theorem dX2_leave_24 : decode cX2_leave 24 = .ok (.iconst 1, 1) := by decide +kernel
theorem dX2_leave_25 : decode cX2_leave 25 = .ok (.iadd, 1) := by decide +kernel
theorem dX2_leave_26 : decode cX2_leave 26 = .ok (.putfield 61, 3) := by decide +kernel
theorem dX2_leave_29 : decode cX2_leave 29 = .ok (.return_, 1) := by decide +kernel
theorem dX2_charge_0 : decode cX2_charge 0 = .ok (.aload_n 0, 1) := by decide +kernel
theorem dX2_charge_1 : decode cX2_charge 1 = .ok (.getfield 7, 3) := by decide +kernel
theorem dX2_charge_4 : decode cX2_charge 4 = .ok (.iload_n 1, 1) := by decide +kernel
theorem dX2_charge_5 : decode cX2_charge 5 = .ok (.iaload, 1) := by decide +kernel
theorem dX2_charge_6 : decode cX2_charge 6 = .ok (.ifCond .ne 12, 3) := by decide +kernel
theorem dX2_charge_9 : decode cX2_charge 9 = .ok (.aload_n 0, 1) := by decide +kernel
theorem dX2_charge_10 : decode cX2_charge 10 = .ok (.getfield 13, 3) := by decide +kernel
theorem dX2_charge_13 : decode cX2_charge 13 = .ok (.iload_n 1, 1) := by decide +kernel
theorem dX2_charge_14 : decode cX2_charge 14 = .ok (.iaload, 1) := by decide +kernel
theorem dX2_charge_15 : decode cX2_charge 15 = .ok (.goto 44, 3) := by decide +kernel
theorem dX2_charge_18 : decode cX2_charge 18 = .ok (.aload_n 0, 1) := by decide +kernel
theorem dX2_charge_19 : decode cX2_charge 19 = .ok (.getfield 7, 3) := by decide +kernel
theorem dX2_charge_22 : decode cX2_charge 22 = .ok (.iload_n 1, 1) := by decide +kernel
theorem dX2_charge_23 : decode cX2_charge 23 = .ok (.iaload, 1) := by decide +kernel
theorem dX2_charge_24 : decode cX2_charge 24 = .ok (.iconst 1, 1) := by decide +kernel
theorem dX2_charge_25 : decode cX2_charge 25 = .ok (.if_icmp .ne 19, 3) := by decide +kernel
theorem dX2_charge_28 : decode cX2_charge 28 = .ok (.aload_n 0, 1) := by decide +kernel
theorem dX2_charge_29 : decode cX2_charge 29 = .ok (.getfield 13, 3) := by decide +kernel
theorem dX2_charge_32 : decode cX2_charge 32 = .ok (.iload_n 1, 1) := by decide +kernel
theorem dX2_charge_33 : decode cX2_charge 33 = .ok (.iaload, 1) := by decide +kernel
theorem dX2_charge_34 : decode cX2_charge 34 = .ok (.aload_n 0, 1) := by decide +kernel
theorem dX2_charge_35 : decode cX2_charge 35 = .ok (.getfield 19, 3) := by decide +kernel
theorem dX2_charge_38 : decode cX2_charge 38 = .ok (.iload_n 1, 1) := by decide +kernel
theorem dX2_charge_39 : decode cX2_charge 39 = .ok (.iaload, 1) := by decide +kernel
theorem dX2_charge_40 : decode cX2_charge 40 = .ok (.iadd, 1) := by decide +kernel
theorem dX2_charge_41 : decode cX2_charge 41 = .ok (.goto 18, 3) := by decide +kernel
theorem dX2_charge_44 : decode cX2_charge 44 = .ok (.iconst 2, 1) := by decide +kernel
theorem dX2_charge_45 : decode cX2_charge 45 = .ok (.aload_n 0, 1) := by decide +kernel
theorem dX2_charge_46 : decode cX2_charge 46 = .ok (.getfield 13, 3) := by decide +kernel
theorem dX2_charge_49 : decode cX2_charge 49 = .ok (.iload_n 1, 1) := by decide +kernel
theorem dX2_charge_50 : decode cX2_charge 50 = .ok (.iaload, 1) := by decide +kernel
theorem dX2_charge_51 : decode cX2_charge 51 = .ok (.aload_n 0, 1) := by decide +kernel
theorem dX2_charge_52 : decode cX2_charge 52 = .ok (.getfield 19, 3) := by decide +kernel
theorem dX2_charge_55 : decode cX2_charge 55 = .ok (.iload_n 1, 1) := by decide +kernel
theorem dX2_charge_56 : decode cX2_charge 56 = .ok (.iaload, 1) := by decide +kernel
theorem dX2_charge_57 : decode cX2_charge 57 = .ok (.iadd, 1) := by decide +kernel
theorem dX2_charge_58 : decode cX2_charge 58 = .ok (.imul, 1) := by decide +kernel
theorem dX2_charge_59 : decode cX2_charge 59 = .ok (.ireturn, 1) := by decide +kernel
set_option maxRecDepth 20000 in
theorem ggX2_pass_X2_leave : GoodIn wsX2_pass wsX2_leave := goodIn_r _ [14, 15, 16, 22, 23, 24, 25, 26, 27, 28, 29, 30, 31, 32, 33, 34, 35, 36, 37, 38, 39, 40, 41] (by decide +kernel) (by decide +kernel)
set_option maxRecDepth 20000 in
theorem gX2_pass_X2_leave : GoodIn wsX2_pass (wsV RX2 64 RX2 yX2_leave wsX2_leave) := goodIn_app (goodIn_of _ (by decide +kernel)) ggX2_pass_X2_leave
set_option maxRecDepth 20000 in
theorem ggX2_pass_X2_charge : GoodIn wsX2_pass wsX2_charge := goodIn_r _ [20, 7, 21, 1, 22, 23, 24, 25, 26, 27, 28, 29, 30, 31, 32, 33, 34, 35, 36, 37, 38, 39, 40, 41] (by decide +kernel) (by decide +kernel)
set_option maxRecDepth 20000 in
theorem gX2_pass_X2_charge : GoodIn wsX2_pass (wsV RX2 74 RX2 yX2_charge wsX2_charge) := goodIn_app (goodIn_of _ (by decide +kernel)) ggX2_pass_X2_charge
theorem dX2_pass_0 : decode cX2_pass 0 = .ok (.aload_n 0, 1) := by decide +kernel
theorem dX2_pass_1 : decode cX2_pass 1 = .ok (.getfield 19, 3) := by decide +kernel
theorem dX2_pass_4 : decode cX2_pass 4 = .ok (.iload_n 1, 1) := by decide +kernel
theorem dX2_pass_5 : decode cX2_pass 5 = .ok (.dup2, 1) := by decide +kernel
theorem dX2_pass_6 : decode cX2_pass 6 = .ok (.iaload, 1) := by decide +kernel
theorem dX2_pass_7 : decode cX2_pass 7 = .ok (.iconst 1, 1) := by decide +kernel
theorem dX2_pass_8 : decode cX2_pass 8 = .ok (.iadd, 1) := by decide +kernel
theorem dX2_pass_9 : decode cX2_pass 9 = .ok (.iastore, 1) := by decide +kernel
theorem dX2_pass_10 : decode cX2_pass 10 = .ok (.aload_n 0, 1) := by decide +kernel
theorem dX2_pass_11 : decode cX2_pass 11 = .ok (.getfield 28, 3) := by decide +kernel
theorem dX2_pass_14 : decode cX2_pass 14 = .ok (.iload_n 1, 1) := by decide +kernel
theorem dX2_pass_15 : decode cX2_pass 15 = .ok (.dup2, 1) := by decide +kernel
theorem dX2_pass_16 : decode cX2_pass 16 = .ok (.iaload, 1) := by decide +kernel
theorem dX2_pass_17 : decode cX2_pass 17 = .ok (.iconst 1, 1) := by decide +kernel
theorem dX2_pass_18 : decode cX2_pass 18 = .ok (.iadd, 1) := by decide +kernel
theorem dX2_pass_19 : decode cX2_pass 19 = .ok (.iastore, 1) := by decide +kernel
theorem dX2_pass_20 : decode cX2_pass 20 = .ok (.aload_n 0, 1) := by decide +kernel
theorem dX2_pass_21 : decode cX2_pass 21 = .ok (.getfield 31, 3) := by decide +kernel
theorem dX2_pass_24 : decode cX2_pass 24 = .ok (.iload_n 1, 1) := by decide +kernel
theorem dX2_pass_25 : decode cX2_pass 25 = .ok (.aload_n 0, 1) := by decide +kernel
theorem dX2_pass_26 : decode cX2_pass 26 = .ok (.getfield 28, 3) := by decide +kernel
theorem dX2_pass_29 : decode cX2_pass 29 = .ok (.iload_n 1, 1) := by decide +kernel
theorem dX2_pass_30 : decode cX2_pass 30 = .ok (.iaload, 1) := by decide +kernel
theorem dX2_pass_31 : decode cX2_pass 31 = .ok (.aload_n 0, 1) := by decide +kernel
theorem dX2_pass_32 : decode cX2_pass 32 = .ok (.getfield 31, 3) := by decide +kernel
theorem dX2_pass_35 : decode cX2_pass 35 = .ok (.iload_n 1, 1) := by decide +kernel
theorem dX2_pass_36 : decode cX2_pass 36 = .ok (.iaload, 1) := by decide +kernel
theorem dX2_pass_37 : decode cX2_pass 37 = .ok (.if_icmp .le 12, 3) := by decide +kernel
theorem dX2_pass_40 : decode cX2_pass 40 = .ok (.aload_n 0, 1) := by decide +kernel
theorem dX2_pass_41 : decode cX2_pass 41 = .ok (.getfield 28, 3) := by decide +kernel
theorem dX2_pass_44 : decode cX2_pass 44 = .ok (.iload_n 1, 1) := by decide +kernel
theorem dX2_pass_45 : decode cX2_pass 45 = .ok (.iaload, 1) := by decide +kernel
theorem dX2_pass_46 : decode cX2_pass 46 = .ok (.goto 9, 3) := by decide +kernel
theorem dX2_pass_49 : decode cX2_pass 49 = .ok (.aload_n 0, 1) := by decide +kernel
theorem dX2_pass_50 : decode cX2_pass 50 = .ok (.getfield 31, 3) := by decide +kernel
theorem dX2_pass_53 : decode cX2_pass 53 = .ok (.iload_n 1, 1) := by decide +kernel
theorem dX2_pass_54 : decode cX2_pass 54 = .ok (.iaload, 1) := by decide +kernel
theorem dX2_pass_55 : decode cX2_pass 55 = .ok (.iastore, 1) := by decide +kernel
theorem dX2_pass_56 : decode cX2_pass 56 = .ok (.aload_n 0, 1) := by decide +kernel
theorem dX2_pass_57 : decode cX2_pass 57 = .ok (.iload_n 1, 1) := by decide +kernel
theorem dX2_pass_58 : decode cX2_pass 58 = .ok (.bipush 100, 2) := by decide +kernel
theorem dX2_pass_60 : decode cX2_pass 60 = .ok (.irem, 1) := by decide +kernel
theorem dX2_pass_61 : decode cX2_pass 61 = .ok (.invokevirtual 64, 3) := by decide +kernel
theorem dX2_pass_64 : decode cX2_pass 64 = .ok (.aload_n 0, 1) := by decide +kernel
theorem dX2_pass_65 : decode cX2_pass 65 = .ok (.getfield 43, 3) := by decide +kernel
theorem dX2_pass_68 : decode cX2_pass 68 = .ok (.aload_n 0, 1) := by decide +kernel
theorem dX2_pass_69 : decode cX2_pass 69 = .ok (.getfield 68, 3) := by decide +kernel
theorem dX2_pass_72 : decode cX2_pass 72 = .ok (.iload_n 1, 1) := by decide +kernel
theorem dX2_pass_73 : decode cX2_pass 73 = .ok (.iastore, 1) := by decide +kernel
theorem dX2_pass_74 : decode cX2_pass 74 = .ok (.aload_n 0, 1) := by decide +kernel
theorem dX2_pass_75 : decode cX2_pass 75 = .ok (.dup, 1) := by decide +kernel
theorem dX2_pass_76 : decode cX2_pass 76 = .ok (.getfield 68, 3) := by decide +kernel
theorem dX2_pass_79 : decode cX2_pass 79 = .ok (.iconst 1, 1) := by decide +kernel
theorem dX2_pass_80 : decode cX2_pass 80 = .ok (.iadd, 1) := by decide +kernel
theorem dX2_pass_81 : decode cX2_pass 81 = .ok (.putfield 68, 3) := by decide +kernel
theorem dX2_pass_84 : decode cX2_pass 84 = .ok (.aload_n 0, 1) := by decide +kernel
theorem dX2_pass_85 : decode cX2_pass 85 = .ok (.aload_n 0, 1) := by decide +kernel
theorem dX2_pass_86 : decode cX2_pass 86 = .ok (.getfield 68, 3) := by decide +kernel
theorem dX2_pass_89 : decode cX2_pass 89 = .ok (.aload_n 0, 1) := by decide +kernel
theorem dX2_pass_90 : decode cX2_pass 90 = .ok (.getfield 71, 3) := by decide +kernel
theorem dX2_pass_93 : decode cX2_pass 93 = .ok (.if_icmp .le 10, 3) := by decide +kernel
theorem dX2_pass_96 : decode cX2_pass 96 = .ok (.aload_n 0, 1) := by decide +kernel
theorem dX2_pass_97 : decode cX2_pass 97 = .ok (.getfield 68, 3) := by decide +kernel
theorem dX2_pass_100 : decode cX2_pass 100 = .ok (.goto 7, 3) := by decide +kernel
theorem dX2_pass_103 : decode cX2_pass 103 = .ok (.aload_n 0, 1) := by decide +kernel
theorem dX2_pass_104 : decode cX2_pass 104 = .ok (.getfield 71, 3) := by decide +kernel
theorem dX2_pass_107 : decode cX2_pass 107 = .ok (.putfield 71, 3) := by decide +kernel
theorem dX2_pass_110 : decode cX2_pass 110 = .ok (.aload_n 0, 1) := by decide +kernel
theorem dX2_pass_111 : decode cX2_pass 111 = .ok (.getfield 7, 3) := by decide +kernel
theorem dX2_pass_114 : decode cX2_pass 114 = .ok (.iload_n 1, 1) := by decide +kernel
theorem dX2_pass_115 : decode cX2_pass 115 = .ok (.iaload, 1) := by decide +kernel
theorem dX2_pass_116 : decode cX2_pass 116 = .ok (.iconst 2, 1) := by decide +kernel
theorem dX2_pass_117 : decode cX2_pass 117 = .ok (.if_icmp .ne 17, 3) := by decide +kernel
theorem dX2_pass_120 : decode cX2_pass 120 = .ok (.aload_n 0, 1) := by decide +kernel
theorem dX2_pass_121 : decode cX2_pass 121 = .ok (.getfield 19, 3) := by decide +kernel
theorem dX2_pass_124 : decode cX2_pass 124 = .ok (.iload_n 1, 1) := by decide +kernel
theorem dX2_pass_125 : decode cX2_pass 125 = .ok (.iaload, 1) := by decide +kernel
theorem dX2_pass_126 : decode cX2_pass 126 = .ok (.iconst 3, 1) := by decide +kernel
theorem dX2_pass_127 : decode cX2_pass 127 = .ok (.irem, 1) := by decide +kernel
theorem dX2_pass_128 : decode cX2_pass 128 = .ok (.ifCond .ne 6, 3) := by decide +kernel
theorem dX2_pass_131 : decode cX2_pass 131 = .ok (.bipush 21, 2) := by decide +kernel
theorem dX2_pass_133 : decode cX2_pass 133 = .ok (.ireturn, 1) := by decide +kernel
theorem dX2_pass_134 : decode cX2_pass 134 = .ok (.aload_n 0, 1) := by decide +kernel
theorem dX2_pass_135 : decode cX2_pass 135 = .ok (.getfield 57, 3) := by decide +kernel
theorem dX2_pass_138 : decode cX2_pass 138 = .ok (.aload_n 0, 1) := by decide +kernel
theorem dX2_pass_139 : decode cX2_pass 139 = .ok (.iload_n 1, 1) := by decide +kernel
theorem dX2_pass_140 : decode cX2_pass 140 = .ok (.invokevirtual 74, 3) := by decide +kernel
theorem dX2_pass_143 : decode cX2_pass 143 = .ok (.if_icmp .ge 6, 3) := by decide +kernel
theorem dX2_pass_146 : decode cX2_pass 146 = .ok (.bipush 20, 2) := by decide +kernel
theorem dX2_pass_148 : decode cX2_pass 148 = .ok (.ireturn, 1) := by decide +kernel
theorem dX2_pass_149 : decode cX2_pass 149 = .ok (.aload_n 0, 1) := by decide +kernel
theorem dX2_pass_150 : decode cX2_pass 150 = .ok (.aload_n 0, 1) := by decide +kernel
theorem dX2_pass_151 : decode cX2_pass 151 = .ok (.getfield 57, 3) := by decide +kernel
theorem dX2_pass_154 : decode cX2_pass 154 = .ok (.aload_n 0, 1) := by decide +kernel
theorem dX2_pass_155 : decode cX2_pass 155 = .ok (.iload_n 1, 1) := by decide +kernel
theorem dX2_pass_156 : decode cX2_pass 156 = .ok (.invokevirtual 74, 3) := by decide +kernel
theorem dX2_pass_159 : decode cX2_pass 159 = .ok (.isub, 1) := by decide +kernel
theorem dX2_pass_160 : decode cX2_pass 160 = .ok (.putfield 57, 3) := by decide +kernel
theorem dX2_pass_163 : decode cX2_pass 163 = .ok (.aload_n 0, 1) := by decide +kernel
theorem dX2_pass_164 : decode cX2_pass 164 = .ok (.getfield 25, 3) := by decide +kernel
theorem dX2_pass_167 : decode cX2_pass 167 = .ok (.iload_n 1, 1) := by decide +kernel
theorem dX2_pass_168 : decode cX2_pass 168 = .ok (.aload_n 0, 1) := by decide +kernel
theorem dX2_pass_169 : decode cX2_pass 169 = .ok (.getfield 25, 3) := by decide +kernel
theorem dX2_pass_172 : decode cX2_pass 172 = .ok (.iload_n 1, 1) := by decide +kernel
theorem dX2_pass_173 : decode cX2_pass 173 = .ok (.iaload, 1) := by decide +kernel
theorem dX2_pass_174 : decode cX2_pass 174 = .ok (.aload_n 0, 1) := by decide +kernel
theorem dX2_pass_175 : decode cX2_pass 175 = .ok (.iload_n 1, 1) := by decide +kernel
theorem dX2_pass_176 : decode cX2_pass 176 = .ok (.invokevirtual 74, 3) := by decide +kernel
theorem dX2_pass_179 : decode cX2_pass 179 = .ok (.iadd, 1) := by decide +kernel
theorem dX2_pass_180 : decode cX2_pass 180 = .ok (.iastore, 1) := by decide +kernel
theorem dX2_pass_181 : decode cX2_pass 181 = .ok (.iconst 0, 1) := by decide +kernel
theorem dX2_pass_182 : decode cX2_pass 182 = .ok (.ireturn, 1) := by decide +kernel
set_option maxRecDepth 20000 in
theorem ggX2_leaveTo_X2_leave : GoodIn wsX2_leaveTo wsX2_leave := goodIn_r _ [8, 9, 10, 11, 12, 13, 14, 15, 16, 17, 18, 19, 20, 21, 22, 23, 24, 25, 26, 27, 28, 29, 30] (by decide +kernel) (by decide +kernel)
set_option maxRecDepth 20000 in
theorem gX2_leaveTo_X2_leave : GoodIn wsX2_leaveTo (wsV RX2 64 RX2 yX2_leave wsX2_leave) := goodIn_app (goodIn_of _ (by decide +kernel)) ggX2_leaveTo_X2_leave
theorem dX2_leaveTo_0 : decode cX2_leaveTo 0 = .ok (.aload_n 0, 1) := by decide +kernel
theorem dX2_leaveTo_1 : decode cX2_leaveTo 1 = .ok (.getfield 68, 3) := by decide +kernel
theorem dX2_leaveTo_4 : decode cX2_leaveTo 4 = .ok (.iload_n 1, 1) := by decide +kernel
theorem dX2_leaveTo_5 : decode cX2_leaveTo 5 = .ok (.if_icmp .le 53, 3) := by decide +kernel
theorem dX2_leaveTo_8 : decode cX2_leaveTo 8 = .ok (.aload_n 0, 1) := by decide +kernel
theorem dX2_leaveTo_9 : decode cX2_leaveTo 9 = .ok (.dup, 1) := by decide +kernel
theorem dX2_leaveTo_10 : decode cX2_leaveTo 10 = .ok (.getfield 68, 3) := by decide +kernel
theorem dX2_leaveTo_13 : decode cX2_leaveTo 13 = .ok (.iconst 1, 1) := by decide +kernel
theorem dX2_leaveTo_14 : decode cX2_leaveTo 14 = .ok (.isub, 1) := by decide +kernel
theorem dX2_leaveTo_15 : decode cX2_leaveTo 15 = .ok (.putfield 68, 3) := by decide +kernel
theorem dX2_leaveTo_18 : decode cX2_leaveTo 18 = .ok (.aload_n 0, 1) := by decide +kernel
theorem dX2_leaveTo_19 : decode cX2_leaveTo 19 = .ok (.getfield 28, 3) := by decide +kernel
theorem dX2_leaveTo_22 : decode cX2_leaveTo 22 = .ok (.aload_n 0, 1) := by decide +kernel
theorem dX2_leaveTo_23 : decode cX2_leaveTo 23 = .ok (.getfield 43, 3) := by decide +kernel
theorem dX2_leaveTo_26 : decode cX2_leaveTo 26 = .ok (.aload_n 0, 1) := by decide +kernel
theorem dX2_leaveTo_27 : decode cX2_leaveTo 27 = .ok (.getfield 68, 3) := by decide +kernel
theorem dX2_leaveTo_30 : decode cX2_leaveTo 30 = .ok (.iaload, 1) := by decide +kernel
theorem dX2_leaveTo_31 : decode cX2_leaveTo 31 = .ok (.dup2, 1) := by decide +kernel
theorem dX2_leaveTo_32 : decode cX2_leaveTo 32 = .ok (.iaload, 1) := by decide +kernel
theorem dX2_leaveTo_33 : decode cX2_leaveTo 33 = .ok (.iconst 1, 1) := by decide +kernel
theorem dX2_leaveTo_34 : decode cX2_leaveTo 34 = .ok (.isub, 1) := by decide +kernel
theorem dX2_leaveTo_35 : decode cX2_leaveTo 35 = .ok (.iastore, 1) := by decide +kernel
theorem dX2_leaveTo_36 : decode cX2_leaveTo 36 = .ok (.aload_n 0, 1) := by decide +kernel
theorem dX2_leaveTo_37 : decode cX2_leaveTo 37 = .ok (.bipush 100, 2) := by decide +kernel
theorem dX2_leaveTo_39 : decode cX2_leaveTo 39 = .ok (.aload_n 0, 1) := by decide +kernel
theorem dX2_leaveTo_40 : decode cX2_leaveTo 40 = .ok (.getfield 43, 3) := by decide +kernel
theorem dX2_leaveTo_43 : decode cX2_leaveTo 43 = .ok (.aload_n 0, 1) := by decide +kernel
theorem dX2_leaveTo_44 : decode cX2_leaveTo 44 = .ok (.getfield 68, 3) := by decide +kernel
theorem dX2_leaveTo_47 : decode cX2_leaveTo 47 = .ok (.iaload, 1) := by decide +kernel
theorem dX2_leaveTo_48 : decode cX2_leaveTo 48 = .ok (.bipush 100, 2) := by decide +kernel
theorem dX2_leaveTo_50 : decode cX2_leaveTo 50 = .ok (.irem, 1) := by decide +kernel
theorem dX2_leaveTo_51 : decode cX2_leaveTo 51 = .ok (.iadd, 1) := by decide +kernel
theorem dX2_leaveTo_52 : decode cX2_leaveTo 52 = .ok (.invokevirtual 64, 3) := by decide +kernel
theorem dX2_leaveTo_55 : decode cX2_leaveTo 55 = .ok (.goto (-55), 3) := by decide +kernel
theorem dX2_leaveTo_58 : decode cX2_leaveTo 58 = .ok (.return_, 1) := by decide +kernel
set_option maxRecDepth 20000 in
theorem ggX2_goTo_X2_pass : GoodIn wsX2_goTo wsX2_pass := goodIn_r _ [9, 10, 11, 12, 13, 14, 15, 16, 17, 18, 19, 20, 21, 8, 22, 23, 24, 25, 26, 27, 28, 29, 30, 31, 32, 33, 34, 35, 36, 37, 38, 39, 40, 41, 42, 43, 44, 45, 46, 47, 48, 49] (by decide +kernel) (by decide +kernel)
set_option maxRecDepth 20000 in
theorem gX2_goTo_X2_pass : GoodIn wsX2_goTo (wsV RX2 81 RX2 yX2_pass wsX2_pass) := goodIn_app (goodIn_of _ (by decide +kernel)) ggX2_goTo_X2_pass
theorem dX2_goTo_0 : decode cX2_goTo 0 = .ok (.aload_n 0, 1) := by decide +kernel
theorem dX2_goTo_1 : decode cX2_goTo 1 = .ok (.dup, 1) := by decide +kernel
theorem dX2_goTo_2 : decode cX2_goTo 2 = .ok (.getfield 78, 3) := by decide +kernel
theorem dX2_goTo_5 : decode cX2_goTo 5 = .ok (.iconst 1, 1) := by decide +kernel
theorem dX2_goTo_6 : decode cX2_goTo 6 = .ok (.iadd, 1) := by decide +kernel
theorem dX2_goTo_7 : decode cX2_goTo 7 = .ok (.putfield 78, 3) := by decide +kernel
theorem dX2_goTo_10 : decode cX2_goTo 10 = .ok (.iconst 0, 1) := by decide +kernel
theorem dX2_goTo_11 : decode cX2_goTo 11 = .ok (.istore_n 2, 1) := by decide +kernel
theorem dX2_goTo_12 : decode cX2_goTo 12 = .ok (.iload_n 1, 1) := by decide +kernel
theorem dX2_goTo_13 : decode cX2_goTo 13 = .ok (.istore_n 3, 1) := by decide +kernel
theorem dX2_goTo_14 : decode cX2_goTo 14 = .ok (.iload_n 3, 1) := by decide +kernel
theorem dX2_goTo_15 : decode cX2_goTo 15 = .ok (.iconst (-1), 1) := by decide +kernel
theorem dX2_goTo_16 : decode cX2_goTo 16 = .ok (.if_icmp .eq 52, 3) := by decide +kernel
theorem dX2_goTo_19 : decode cX2_goTo 19 = .ok (.iconst 0, 1) := by decide +kernel
theorem dX2_goTo_20 : decode cX2_goTo 20 = .ok (.istore 4, 2) := by decide +kernel
theorem dX2_goTo_22 : decode cX2_goTo 22 = .ok (.iload 4, 2) := by decide +kernel
theorem dX2_goTo_24 : decode cX2_goTo 24 = .ok (.iload_n 2, 1) := by decide +kernel
theorem dX2_goTo_25 : decode cX2_goTo 25 = .ok (.if_icmp .ge 23, 3) := by decide +kernel
theorem dX2_goTo_28 : decode cX2_goTo 28 = .ok (.aload_n 0, 1) := by decide +kernel
theorem dX2_goTo_29 : decode cX2_goTo 29 = .ok (.getfield 46, 3) := by decide +kernel
theorem dX2_goTo_32 : decode cX2_goTo 32 = .ok (.iload 4, 2) := by decide +kernel
theorem dX2_goTo_34 : decode cX2_goTo 34 = .ok (.iaload, 1) := by decide +kernel
theorem dX2_goTo_35 : decode cX2_goTo 35 = .ok (.iload_n 3, 1) := by decide +kernel
theorem dX2_goTo_36 : decode cX2_goTo 36 = .ok (.if_icmp .ne 6, 3) := by decide +kernel
theorem dX2_goTo_39 : decode cX2_goTo 39 = .ok (.bipush 8, 2) := by decide +kernel
theorem dX2_goTo_41 : decode cX2_goTo 41 = .ok (.ireturn, 1) := by decide +kernel
theorem dX2_goTo_42 : decode cX2_goTo 42 = .ok (.iinc 4 1, 3) := by decide +kernel
theorem dX2_goTo_45 : decode cX2_goTo 45 = .ok (.goto (-23), 3) := by decide +kernel
theorem dX2_goTo_48 : decode cX2_goTo 48 = .ok (.aload_n 0, 1) := by decide +kernel
theorem dX2_goTo_49 : decode cX2_goTo 49 = .ok (.getfield 46, 3) := by decide +kernel
theorem dX2_goTo_52 : decode cX2_goTo 52 = .ok (.iload_n 2, 1) := by decide +kernel
theorem dX2_goTo_53 : decode cX2_goTo 53 = .ok (.iload_n 3, 1) := by decide +kernel
theorem dX2_goTo_54 : decode cX2_goTo 54 = .ok (.iastore, 1) := by decide +kernel
theorem dX2_goTo_55 : decode cX2_goTo 55 = .ok (.iinc 2 1, 3) := by decide +kernel
theorem dX2_goTo_58 : decode cX2_goTo 58 = .ok (.aload_n 0, 1) := by decide +kernel
theorem dX2_goTo_59 : decode cX2_goTo 59 = .ok (.getfield 37, 3) := by decide +kernel
theorem dX2_goTo_62 : decode cX2_goTo 62 = .ok (.iload_n 3, 1) := by decide +kernel
theorem dX2_goTo_63 : decode cX2_goTo 63 = .ok (.iaload, 1) := by decide +kernel
theorem dX2_goTo_64 : decode cX2_goTo 64 = .ok (.istore_n 3, 1) := by decide +kernel
theorem dX2_goTo_65 : decode cX2_goTo 65 = .ok (.goto (-51), 3) := by decide +kernel
theorem dX2_goTo_68 : decode cX2_goTo 68 = .ok (.iload_n 2, 1) := by decide +kernel
theorem dX2_goTo_69 : decode cX2_goTo 69 = .ok (.iconst 1, 1) := by decide +kernel
theorem dX2_goTo_70 : decode cX2_goTo 70 = .ok (.isub, 1) := by decide +kernel
theorem dX2_goTo_71 : decode cX2_goTo 71 = .ok (.istore 4, 2) := by decide +kernel
theorem dX2_goTo_73 : decode cX2_goTo 73 = .ok (.iload 4, 2) := by decide +kernel
theorem dX2_goTo_75 : decode cX2_goTo 75 = .ok (.ifCond .lt 49, 3) := by decide +kernel
theorem dX2_goTo_78 : decode cX2_goTo 78 = .ok (.aload_n 0, 1) := by decide +kernel
theorem dX2_goTo_79 : decode cX2_goTo 79 = .ok (.getfield 34, 3) := by decide +kernel
theorem dX2_goTo_82 : decode cX2_goTo 82 = .ok (.aload_n 0, 1) := by decide +kernel
theorem dX2_goTo_83 : decode cX2_goTo 83 = .ok (.getfield 46, 3) := by decide +kernel
theorem dX2_goTo_86 : decode cX2_goTo 86 = .ok (.iload 4, 2) := by decide +kernel
theorem dX2_goTo_88 : decode cX2_goTo 88 = .ok (.iaload, 1) := by decide +kernel
theorem dX2_goTo_89 : decode cX2_goTo 89 = .ok (.iaload, 1) := by decide +kernel
theorem dX2_goTo_90 : decode cX2_goTo 90 = .ok (.istore 5, 2) := by decide +kernel
theorem dX2_goTo_92 : decode cX2_goTo 92 = .ok (.iload 5, 2) := by decide +kernel
theorem dX2_goTo_94 : decode cX2_goTo 94 = .ok (.iconst (-1), 1) := by decide +kernel
theorem dX2_goTo_95 : decode cX2_goTo 95 = .ok (.if_icmp .ne 7, 3) := by decide +kernel
theorem dX2_goTo_98 : decode cX2_goTo 98 = .ok (.iconst 1, 1) := by decide +kernel
theorem dX2_goTo_99 : decode cX2_goTo 99 = .ok (.goto 9, 3) := by decide +kernel
theorem dX2_goTo_102 : decode cX2_goTo 102 = .ok (.aload_n 0, 1) := by decide +kernel
theorem dX2_goTo_103 : decode cX2_goTo 103 = .ok (.iload 5, 2) := by decide +kernel
theorem dX2_goTo_105 : decode cX2_goTo 105 = .ok (.invokevirtual 81, 3) := by decide +kernel
theorem dX2_goTo_108 : decode cX2_goTo 108 = .ok (.istore 6, 2) := by decide +kernel
theorem dX2_goTo_110 : decode cX2_goTo 110 = .ok (.iload 6, 2) := by decide +kernel
theorem dX2_goTo_112 : decode cX2_goTo 112 = .ok (.ifCond .eq 6, 3) := by decide +kernel
theorem dX2_goTo_115 : decode cX2_goTo 115 = .ok (.iload 6, 2) := by decide +kernel
theorem dX2_goTo_117 : decode cX2_goTo 117 = .ok (.ireturn, 1) := by decide +kernel
theorem dX2_goTo_118 : decode cX2_goTo 118 = .ok (.iinc 4 (-1), 3) := by decide +kernel
theorem dX2_goTo_121 : decode cX2_goTo 121 = .ok (.goto (-48), 3) := by decide +kernel
theorem dX2_goTo_124 : decode cX2_goTo 124 = .ok (.iconst 0, 1) := by decide +kernel
theorem dX2_goTo_125 : decode cX2_goTo 125 = .ok (.ireturn, 1) := by decide +kernel
theorem dX2_rich_0 : decode cX2_rich 0 = .ok (.aload_n 0, 1) := by decide +kernel
theorem dX2_rich_1 : decode cX2_rich 1 = .ok (.getfield 57, 3) := by decide +kernel
theorem dX2_rich_4 : decode cX2_rich 4 = .ok (.i2l, 1) := by decide +kernel
theorem dX2_rich_5 : decode cX2_rich 5 = .ok (.lload_n 1, 1) := by decide +kernel
theorem dX2_rich_6 : decode cX2_rich 6 = .ok (.ladd, 1) := by decide +kernel
theorem dX2_rich_7 : decode cX2_rich 7 = .ok (.lstore_n 3, 1) := by decide +kernel
theorem dX2_rich_8 : decode cX2_rich 8 = .ok (.lload_n 3, 1) := by decide +kernel
theorem dX2_rich_9 : decode cX2_rich 9 = .ok (.lconst 0, 1) := by decide +kernel
theorem dX2_rich_10 : decode cX2_rich 10 = .ok (.lcmp, 1) := by decide +kernel
theorem dX2_rich_11 : decode cX2_rich 11 = .ok (.ifCond .lt 11, 3) := by decide +kernel
theorem dX2_rich_14 : decode cX2_rich 14 = .ok (.lload_n 3, 1) := by decide +kernel
theorem dX2_rich_15 : decode cX2_rich 15 = .ok (.ldc2_w 84, 3) := by decide +kernel
theorem dX2_rich_18 : decode cX2_rich 18 = .ok (.lcmp, 1) := by decide +kernel
theorem dX2_rich_19 : decode cX2_rich 19 = .ok (.ifCond .le 6, 3) := by decide +kernel
theorem dX2_rich_22 : decode cX2_rich 22 = .ok (.bipush 22, 2) := by decide +kernel
theorem dX2_rich_24 : decode cX2_rich 24 = .ok (.ireturn, 1) := by decide +kernel
theorem dX2_rich_25 : decode cX2_rich 25 = .ok (.aload_n 0, 1) := by decide +kernel
theorem dX2_rich_26 : decode cX2_rich 26 = .ok (.lload_n 3, 1) := by decide +kernel
theorem dX2_rich_27 : decode cX2_rich 27 = .ok (.l2i, 1) := by decide +kernel
theorem dX2_rich_28 : decode cX2_rich 28 = .ok (.putfield 57, 3) := by decide +kernel
theorem dX2_rich_31 : decode cX2_rich 31 = .ok (.iconst 0, 1) := by decide +kernel
theorem dX2_rich_32 : decode cX2_rich 32 = .ok (.ireturn, 1) := by decide +kernel
set_option maxRecDepth 20000 in
theorem ggX2_goesOn_X2_ten : GoodIn wsX2_goesOn wsX2_ten := goodIn_r _ [5] (by decide +kernel) (by decide +kernel)
set_option maxRecDepth 20000 in
theorem gX2_goesOn_X2_ten : GoodIn wsX2_goesOn (va_wsS RX2 86 yX2_ten wsX2_ten) := goodIn_app (goodIn_of _ (by decide +kernel)) ggX2_goesOn_X2_ten
set_option maxRecDepth 20000 in
theorem ggX2_goesOn_X2_goTo : GoodIn wsX2_goesOn wsX2_goTo := goodIn_r _ [9, 10, 11, 12, 13, 14, 15, 16, 4, 17, 18, 19, 20, 21, 1, 22, 23, 24, 25, 26, 27, 28, 29, 30, 31, 32, 33, 34, 35, 36, 41, 42, 43, 44, 45, 46, 47, 48, 49, 50, 51, 52, 53, 54, 55, 56, 57, 58, 59, 60] (by decide +kernel) (by decide +kernel)
set_option maxRecDepth 20000 in
theorem gX2_goesOn_X2_goTo : GoodIn wsX2_goesOn (wsV RX2 89 RX2 yX2_goTo wsX2_goTo) := goodIn_app (goodIn_of _ (by decide +kernel)) ggX2_goesOn_X2_goTo
set_option maxRecDepth 20000 in
theorem ggX2_goesOn_X2_leaveTo : GoodIn wsX2_goesOn wsX2_leaveTo := goodIn_r _ [40, 1, 19, 21, 26, 27, 28, 4, 29, 30, 31, 41, 42, 43, 44, 45, 46, 47, 48, 49, 50, 51, 52, 53, 54, 55, 56, 57, 58, 59, 60] (by decide +kernel) (by decide +kernel)
set_option maxRecDepth 20000 in
theorem gX2_goesOn_X2_leaveTo : GoodIn wsX2_goesOn (wsV RX2 92 RX2 yX2_leaveTo wsX2_leaveTo) := goodIn_app (goodIn_of _ (by decide +kernel)) ggX2_goesOn_X2_leaveTo
theorem dX2_goesOn_0 : decode cX2_goesOn 0 = .ok (.aload_n 0, 1) := by decide +kernel
theorem dX2_goesOn_1 : decode cX2_goesOn 1 = .ok (.getfield 68, 3) := by decide +kernel
theorem dX2_goesOn_4 : decode cX2_goesOn 4 = .ok (.istore_n 2, 1) := by decide +kernel
theorem dX2_goesOn_5 : decode cX2_goesOn 5 = .ok (.iconst 1, 1) := by decide +kernel
theorem dX2_goesOn_6 : decode cX2_goesOn 6 = .ok (.istore_n 3, 1) := by decide +kernel
theorem dX2_goesOn_7 : decode cX2_goesOn 7 = .ok (.iload_n 1, 1) := by decide +kernel
theorem dX2_goesOn_8 : decode cX2_goesOn 8 = .ok (.istore 4, 2) := by decide +kernel
theorem dX2_goesOn_10 : decode cX2_goesOn 10 = .ok (.iconst 1, 1) := by decide +kernel
theorem dX2_goesOn_11 : decode cX2_goesOn 11 = .ok (.istore 5, 2) := by decide +kernel
theorem dX2_goesOn_13 : decode cX2_goesOn 13 = .ok (.iload 5, 2) := by decide +kernel
theorem dX2_goesOn_15 : decode cX2_goesOn 15 = .ok (.ifCond .eq 54, 3) := by decide +kernel
theorem dX2_goesOn_18 : decode cX2_goesOn 18 = .ok (.iload_n 3, 1) := by decide +kernel
theorem dX2_goesOn_19 : decode cX2_goesOn 19 = .ok (.iconst 3, 1) := by decide +kernel
theorem dX2_goesOn_20 : decode cX2_goesOn 20 = .ok (.if_icmp .ne 5, 3) := by decide +kernel
theorem dX2_goesOn_23 : decode cX2_goesOn 23 = .ok (.iconst 2, 1) := by decide +kernel
theorem dX2_goesOn_24 : decode cX2_goesOn 24 = .ok (.ireturn, 1) := by decide +kernel
theorem dX2_goesOn_25 : decode cX2_goesOn 25 = .ok (.aload_n 0, 1) := by decide +kernel
theorem dX2_goesOn_26 : decode cX2_goesOn 26 = .ok (.iload 4, 2) := by decide +kernel
theorem dX2_goesOn_28 : decode cX2_goesOn 28 = .ok (.invokestatic 86, 3) := by decide +kernel
theorem dX2_goesOn_31 : decode cX2_goesOn 31 = .ok (.invokevirtual 89, 3) := by decide +kernel
theorem dX2_goesOn_34 : decode cX2_goesOn 34 = .ok (.istore 6, 2) := by decide +kernel
theorem dX2_goesOn_36 : decode cX2_goesOn 36 = .ok (.iload 6, 2) := by decide +kernel
theorem dX2_goesOn_38 : decode cX2_goesOn 38 = .ok (.ifCond .eq 6, 3) := by decide +kernel
theorem dX2_goesOn_41 : decode cX2_goesOn 41 = .ok (.iload 6, 2) := by decide +kernel
theorem dX2_goesOn_43 : decode cX2_goesOn 43 = .ok (.ireturn, 1) := by decide +kernel
theorem dX2_goesOn_44 : decode cX2_goesOn 44 = .ok (.iinc 3 1, 3) := by decide +kernel
theorem dX2_goesOn_47 : decode cX2_goesOn 47 = .ok (.iload 4, 2) := by decide +kernel
theorem dX2_goesOn_49 : decode cX2_goesOn 49 = .ok (.bipush 10, 2) := by decide +kernel
theorem dX2_goesOn_51 : decode cX2_goesOn 51 = .ok (.idiv, 1) := by decide +kernel
theorem dX2_goesOn_52 : decode cX2_goesOn 52 = .ok (.istore 4, 2) := by decide +kernel
theorem dX2_goesOn_54 : decode cX2_goesOn 54 = .ok (.iload 4, 2) := by decide +kernel
theorem dX2_goesOn_56 : decode cX2_goesOn 56 = .ok (.ifCond .eq 7, 3) := by decide +kernel
theorem dX2_goesOn_59 : decode cX2_goesOn 59 = .ok (.iconst 1, 1) := by decide +kernel
theorem dX2_goesOn_60 : decode cX2_goesOn 60 = .ok (.goto 4, 3) := by decide +kernel
theorem dX2_goesOn_63 : decode cX2_goesOn 63 = .ok (.iconst 0, 1) := by decide +kernel
theorem dX2_goesOn_64 : decode cX2_goesOn 64 = .ok (.istore 5, 2) := by decide +kernel
theorem dX2_goesOn_66 : decode cX2_goesOn 66 = .ok (.goto (-53), 3) := by decide +kernel
theorem dX2_goesOn_69 : decode cX2_goesOn 69 = .ok (.aload_n 0, 1) := by decide +kernel
theorem dX2_goesOn_70 : decode cX2_goesOn 70 = .ok (.iload_n 2, 1) := by decide +kernel
theorem dX2_goesOn_71 : decode cX2_goesOn 71 = .ok (.invokevirtual 92, 3) := by decide +kernel
theorem dX2_goesOn_74 : decode cX2_goesOn 74 = .ok (.iconst 0, 1) := by decide +kernel
theorem dX2_goesOn_75 : decode cX2_goesOn 75 = .ok (.ireturn, 1) := by decide +kernel
set_option maxRecDepth 20000 in
theorem ggX2_does_X2_rich : GoodIn wsX2_does wsX2_rich := goodIn_r _ [9, 10, 11, 51, 52, 53, 54, 55, 56, 57, 58, 59, 60, 61, 62, 63, 64, 65, 66, 67, 68, 69, 70] (by decide +kernel) (by decide +kernel)
set_option maxRecDepth 20000 in
theorem gX2_does_X2_rich : GoodIn wsX2_does (wsV RX2 95 RX2 yX2_rich wsX2_rich) := goodIn_app (goodIn_of _ (by decide +kernel)) ggX2_does_X2_rich
set_option maxRecDepth 20000 in
theorem ggX2_does_X2_ten : GoodIn wsX2_does wsX2_ten := goodIn_r _ [14] (by decide +kernel) (by decide +kernel)
set_option maxRecDepth 20000 in
theorem gX2_does_X2_ten : GoodIn wsX2_does (va_wsS RX2 86 yX2_ten wsX2_ten) := goodIn_app (goodIn_of _ (by decide +kernel)) ggX2_does_X2_ten
set_option maxRecDepth 20000 in
theorem ggX2_does_X2_goesOn : GoodIn wsX2_does wsX2_goesOn := goodIn_r _ [18, 2, 12, 13, 8, 14, 19, 20, 21, 22, 23, 24, 25, 4, 26, 27, 28, 29, 30, 31, 32, 1, 33, 34, 10, 35, 36, 37, 38, 39, 40, 41, 42, 43, 44, 45, 46, 47, 48, 49, 50, 51, 52, 53, 54, 55, 56, 57, 58, 59, 60, 61, 62, 63, 64, 65, 66, 67, 68, 69, 70] (by decide +kernel) (by decide +kernel)
set_option maxRecDepth 20000 in
theorem gX2_does_X2_goesOn : GoodIn wsX2_does (wsV RX2 99 RX2 yX2_goesOn wsX2_goesOn) := goodIn_app (goodIn_of _ (by decide +kernel)) ggX2_does_X2_goesOn
theorem dX2_does_0 : decode cX2_does 0 = .ok (.aload_n 0, 1) := by decide +kernel
theorem dX2_does_1 : decode cX2_does 1 = .ok (.getfield 43, 3) := by decide +kernel
theorem dX2_does_4 : decode cX2_does 4 = .ok (.aload_n 0, 1) := by decide +kernel
theorem dX2_does_5 : decode cX2_does 5 = .ok (.getfield 68, 3) := by decide +kernel
theorem dX2_does_8 : decode cX2_does 8 = .ok (.iconst 1, 1) := by decide +kernel
theorem dX2_does_9 : decode cX2_does 9 = .ok (.isub, 1) := by decide +kernel
theorem dX2_does_10 : decode cX2_does 10 = .ok (.iaload, 1) := by decide +kernel
theorem dX2_does_11 : decode cX2_does 11 = .ok (.istore_n 3, 1) := by decide +kernel
theorem dX2_does_12 : decode cX2_does 12 = .ok (.iload_n 1, 1) := by decide +kernel
theorem dX2_does_13 : decode cX2_does 13 = .ok (.tableswitch 143 1 7 #[43, 59, 85, 108, 120, 126, 133], 43) := by decide +kernel
theorem dX2_does_56 : decode cX2_does 56 = .ok (.aload_n 0, 1) := by decide +kernel
theorem dX2_does_57 : decode cX2_does 57 = .ok (.getfield 16, 3) := by decide +kernel
theorem dX2_does_60 : decode cX2_does 60 = .ok (.iload_n 3, 1) := by decide +kernel
theorem dX2_does_61 : decode cX2_does 61 = .ok (.aload_n 0, 1) := by decide +kernel
theorem dX2_does_62 : decode cX2_does 62 = .ok (.getfield 16, 3) := by decide +kernel
theorem dX2_does_65 : decode cX2_does 65 = .ok (.iload_n 3, 1) := by decide +kernel
theorem dX2_does_66 : decode cX2_does 66 = .ok (.iaload, 1) := by decide +kernel
theorem dX2_does_67 : decode cX2_does 67 = .ok (.iload_n 2, 1) := by decide +kernel
theorem dX2_does_68 : decode cX2_does 68 = .ok (.iadd, 1) := by decide +kernel
theorem dX2_does_69 : decode cX2_does 69 = .ok (.iastore, 1) := by decide +kernel
theorem dX2_does_70 : decode cX2_does 70 = .ok (.iconst 0, 1) := by decide +kernel
theorem dX2_does_71 : decode cX2_does 71 = .ok (.ireturn, 1) := by decide +kernel
theorem dX2_does_72 : decode cX2_does 72 = .ok (.aload_n 0, 1) := by decide +kernel
theorem dX2_does_73 : decode cX2_does 73 = .ok (.aload_n 0, 1) := by decide +kernel
theorem dX2_does_74 : decode cX2_does 74 = .ok (.getfield 16, 3) := by decide +kernel
theorem dX2_does_77 : decode cX2_does 77 = .ok (.iload_n 3, 1) := by decide +kernel
theorem dX2_does_78 : decode cX2_does 78 = .ok (.iaload, 1) := by decide +kernel
theorem dX2_does_79 : decode cX2_does 79 = .ok (.i2l, 1) := by decide +kernel
theorem dX2_does_80 : decode cX2_does 80 = .ok (.invokevirtual 95, 3) := by decide +kernel
theorem dX2_does_83 : decode cX2_does 83 = .ok (.ifCond .eq 6, 3) := by decide +kernel
theorem dX2_does_86 : decode cX2_does 86 = .ok (.bipush 22, 2) := by decide +kernel
theorem dX2_does_88 : decode cX2_does 88 = .ok (.ireturn, 1) := by decide +kernel
theorem dX2_does_89 : decode cX2_does 89 = .ok (.aload_n 0, 1) := by decide +kernel
theorem dX2_does_90 : decode cX2_does 90 = .ok (.getfield 16, 3) := by decide +kernel
theorem dX2_does_93 : decode cX2_does 93 = .ok (.iload_n 3, 1) := by decide +kernel
theorem dX2_does_94 : decode cX2_does 94 = .ok (.iconst 0, 1) := by decide +kernel
theorem dX2_does_95 : decode cX2_does 95 = .ok (.iastore, 1) := by decide +kernel
theorem dX2_does_96 : decode cX2_does 96 = .ok (.iconst 0, 1) := by decide +kernel
theorem dX2_does_97 : decode cX2_does 97 = .ok (.ireturn, 1) := by decide +kernel
theorem dX2_does_98 : decode cX2_does 98 = .ok (.iload_n 2, 1) := by decide +kernel
theorem dX2_does_99 : decode cX2_does 99 = .ok (.ifCond .ne 6, 3) := by decide +kernel
theorem dX2_does_102 : decode cX2_does 102 = .ok (.bipush 6, 2) := by decide +kernel
theorem dX2_does_104 : decode cX2_does 104 = .ok (.ireturn, 1) := by decide +kernel
theorem dX2_does_105 : decode cX2_does 105 = .ok (.aload_n 0, 1) := by decide +kernel
theorem dX2_does_106 : decode cX2_does 106 = .ok (.getfield 16, 3) := by decide +kernel
theorem dX2_does_109 : decode cX2_does 109 = .ok (.iload_n 3, 1) := by decide +kernel
theorem dX2_does_110 : decode cX2_does 110 = .ok (.aload_n 0, 1) := by decide +kernel
theorem dX2_does_111 : decode cX2_does 111 = .ok (.getfield 16, 3) := by decide +kernel
theorem dX2_does_114 : decode cX2_does 114 = .ok (.iload_n 3, 1) := by decide +kernel
theorem dX2_does_115 : decode cX2_does 115 = .ok (.iaload, 1) := by decide +kernel
theorem dX2_does_116 : decode cX2_does 116 = .ok (.iload_n 2, 1) := by decide +kernel
theorem dX2_does_117 : decode cX2_does 117 = .ok (.idiv, 1) := by decide +kernel
theorem dX2_does_118 : decode cX2_does 118 = .ok (.iastore, 1) := by decide +kernel
theorem dX2_does_119 : decode cX2_does 119 = .ok (.iconst 0, 1) := by decide +kernel
theorem dX2_does_120 : decode cX2_does 120 = .ok (.ireturn, 1) := by decide +kernel
theorem dX2_does_121 : decode cX2_does 121 = .ok (.aload_n 0, 1) := by decide +kernel
theorem dX2_does_122 : decode cX2_does 122 = .ok (.getfield 34, 3) := by decide +kernel
theorem dX2_does_125 : decode cX2_does 125 = .ok (.iload_n 2, 1) := by decide +kernel
theorem dX2_does_126 : decode cX2_does 126 = .ok (.invokestatic 86, 3) := by decide +kernel
theorem dX2_does_129 : decode cX2_does 129 = .ok (.iconst (-1), 1) := by decide +kernel
theorem dX2_does_130 : decode cX2_does 130 = .ok (.iastore, 1) := by decide +kernel
theorem dX2_does_131 : decode cX2_does 131 = .ok (.iconst 0, 1) := by decide +kernel
theorem dX2_does_132 : decode cX2_does 132 = .ok (.ireturn, 1) := by decide +kernel
theorem dX2_does_133 : decode cX2_does 133 = .ok (.aload_n 0, 1) := by decide +kernel
theorem dX2_does_134 : decode cX2_does 134 = .ok (.iload_n 2, 1) := by decide +kernel
theorem dX2_does_135 : decode cX2_does 135 = .ok (.invokevirtual 99, 3) := by decide +kernel
theorem dX2_does_138 : decode cX2_does 138 = .ok (.ireturn, 1) := by decide +kernel
theorem dX2_does_139 : decode cX2_does 139 = .ok (.bipush 20, 2) := by decide +kernel
theorem dX2_does_141 : decode cX2_does 141 = .ok (.iload_n 2, 1) := by decide +kernel
theorem dX2_does_142 : decode cX2_does 142 = .ok (.iconst 3, 1) := by decide +kernel
theorem dX2_does_143 : decode cX2_does 143 = .ok (.iand, 1) := by decide +kernel
theorem dX2_does_144 : decode cX2_does 144 = .ok (.iadd, 1) := by decide +kernel
theorem dX2_does_145 : decode cX2_does 145 = .ok (.ireturn, 1) := by decide +kernel
theorem dX2_does_146 : decode cX2_does 146 = .ok (.aload_n 0, 1) := by decide +kernel
theorem dX2_does_147 : decode cX2_does 147 = .ok (.aload_n 0, 1) := by decide +kernel
theorem dX2_does_148 : decode cX2_does 148 = .ok (.getfield 68, 3) := by decide +kernel
theorem dX2_does_151 : decode cX2_does 151 = .ok (.i2l, 1) := by decide +kernel
theorem dX2_does_152 : decode cX2_does 152 = .ok (.invokevirtual 95, 3) := by decide +kernel
theorem dX2_does_155 : decode cX2_does 155 = .ok (.ireturn, 1) := by decide +kernel
theorem dX2_does_156 : decode cX2_does 156 = .ok (.iconst 0, 1) := by decide +kernel
theorem dX2_does_157 : decode cX2_does 157 = .ok (.ireturn, 1) := by decide +kernel
set_option maxRecDepth 20000 in
theorem ggX2_walk_X2_in : GoodIn wsX2_walk wsX2_in := goodIn_r _ [8] (by decide +kernel) (by decide +kernel)
set_option maxRecDepth 20000 in
theorem gX2_walk_X2_in : GoodIn wsX2_walk (va_wsS RX2 49 yX2_in wsX2_in) := goodIn_app (goodIn_of _ (by decide +kernel)) ggX2_walk_X2_in
set_option maxRecDepth 20000 in
theorem ggX2_walk_X2_goTo : GoodIn wsX2_walk wsX2_goTo := goodIn_r _ [12, 13, 14, 15, 16, 17, 18, 19, 7, 20, 21, 22, 23, 24, 3, 2, 25, 26, 27, 28, 29, 30, 31, 1, 32, 33, 34, 35, 36, 37, 59, 60, 61, 62, 63, 64, 65, 66, 67, 68, 69, 70, 71, 72, 73, 74, 75, 76, 77, 78] (by decide +kernel) (by decide +kernel)
set_option maxRecDepth 20000 in
theorem gX2_walk_X2_goTo : GoodIn wsX2_walk (wsV RX2 89 RX2 yX2_goTo wsX2_goTo) := goodIn_app (goodIn_of _ (by decide +kernel)) ggX2_walk_X2_goTo
set_option maxRecDepth 20000 in
theorem ggX2_walk_X2_does : GoodIn wsX2_walk wsX2_does := goodIn_r _ [41, 24, 3, 42, 16, 43, 44, 45, 7, 46, 26, 47, 48, 49, 50, 51, 52, 53, 54, 9, 10, 11, 12, 13, 14, 15, 17, 18, 19, 20, 21, 22, 23, 2, 25, 27, 28, 29, 30, 31, 1, 32, 33, 34, 35, 36, 37, 55, 56, 57, 58, 59, 60, 61, 62, 63, 64, 65, 66, 67, 68, 69, 70, 71, 72, 73, 74, 75, 76, 77, 78] (by decide +kernel) (by decide +kernel)
set_option maxRecDepth 20000 in
theorem gX2_walk_X2_does : GoodIn wsX2_walk (wsV RX2 105 RX2 yX2_does wsX2_does) := goodIn_app (goodIn_of _ (by decide +kernel)) ggX2_walk_X2_does
set_option maxRecDepth 20000 in
theorem ggX2_walk_X2_leaveTo : GoodIn wsX2_walk wsX2_leaveTo := goodIn_r _ [58, 3, 22, 24, 28, 29, 30, 7, 31, 1, 32, 59, 60, 61, 62, 63, 64, 65, 66, 67, 68, 69, 70, 71, 72, 73, 74, 75, 76, 77, 78] (by decide +kernel) (by decide +kernel)
set_option maxRecDepth 20000 in
theorem gX2_walk_X2_leaveTo : GoodIn wsX2_walk (wsV RX2 92 RX2 yX2_leaveTo wsX2_leaveTo) := goodIn_app (goodIn_of _ (by decide +kernel)) ggX2_walk_X2_leaveTo
theorem dX2_walk_0 : decode cX2_walk 0 = .ok (.iload_n 1, 1) := by decide +kernel
theorem dX2_walk_1 : decode cX2_walk 1 = .ok (.iconst 0, 1) := by decide +kernel
theorem dX2_walk_2 : decode cX2_walk 2 = .ok (.bipush 9, 2) := by decide +kernel
theorem dX2_walk_4 : decode cX2_walk 4 = .ok (.invokestatic 49, 3) := by decide +kernel
theorem dX2_walk_7 : decode cX2_walk 7 = .ok (.ifCond .eq 13, 3) := by decide +kernel
theorem dX2_walk_10 : decode cX2_walk 10 = .ok (.iload_n 2, 1) := by decide +kernel
theorem dX2_walk_11 : decode cX2_walk 11 = .ok (.iconst 0, 1) := by decide +kernel
theorem dX2_walk_12 : decode cX2_walk 12 = .ok (.bipush 7, 2) := by decide +kernel
theorem dX2_walk_14 : decode cX2_walk 14 = .ok (.invokestatic 49, 3) := by decide +kernel
theorem dX2_walk_17 : decode cX2_walk 17 = .ok (.ifCond .ne 5, 3) := by decide +kernel
theorem dX2_walk_20 : decode cX2_walk 20 = .ok (.iconst (-1), 1) := by decide +kernel
theorem dX2_walk_21 : decode cX2_walk 21 = .ok (.ireturn, 1) := by decide +kernel
theorem dX2_walk_22 : decode cX2_walk 22 = .ok (.aload_n 0, 1) := by decide +kernel
theorem dX2_walk_23 : decode cX2_walk 23 = .ok (.iconst 0, 1) := by decide +kernel
theorem dX2_walk_24 : decode cX2_walk 24 = .ok (.putfield 61, 3) := by decide +kernel
theorem dX2_walk_27 : decode cX2_walk 27 = .ok (.aload_n 0, 1) := by decide +kernel
theorem dX2_walk_28 : decode cX2_walk 28 = .ok (.iconst 0, 1) := by decide +kernel
theorem dX2_walk_29 : decode cX2_walk 29 = .ok (.putfield 71, 3) := by decide +kernel
theorem dX2_walk_32 : decode cX2_walk 32 = .ok (.aload_n 0, 1) := by decide +kernel
theorem dX2_walk_33 : decode cX2_walk 33 = .ok (.iconst 0, 1) := by decide +kernel
theorem dX2_walk_34 : decode cX2_walk 34 = .ok (.putfield 68, 3) := by decide +kernel
theorem dX2_walk_37 : decode cX2_walk 37 = .ok (.aload_n 0, 1) := by decide +kernel
theorem dX2_walk_38 : decode cX2_walk 38 = .ok (.aload_n 0, 1) := by decide +kernel
theorem dX2_walk_39 : decode cX2_walk 39 = .ok (.iload_n 1, 1) := by decide +kernel
theorem dX2_walk_40 : decode cX2_walk 40 = .ok (.invokevirtual 89, 3) := by decide +kernel
theorem dX2_walk_43 : decode cX2_walk 43 = .ok (.putfield 102, 3) := by decide +kernel
theorem dX2_walk_46 : decode cX2_walk 46 = .ok (.aload_n 0, 1) := by decide +kernel
theorem dX2_walk_47 : decode cX2_walk 47 = .ok (.getfield 102, 3) := by decide +kernel
theorem dX2_walk_50 : decode cX2_walk 50 = .ok (.ifCond .ne 13, 3) := by decide +kernel
theorem dX2_walk_53 : decode cX2_walk 53 = .ok (.aload_n 0, 1) := by decide +kernel
theorem dX2_walk_54 : decode cX2_walk 54 = .ok (.aload_n 0, 1) := by decide +kernel
theorem dX2_walk_55 : decode cX2_walk 55 = .ok (.iload_n 2, 1) := by decide +kernel
theorem dX2_walk_56 : decode cX2_walk 56 = .ok (.iload_n 3, 1) := by decide +kernel
theorem dX2_walk_57 : decode cX2_walk 57 = .ok (.invokevirtual 105, 3) := by decide +kernel
theorem dX2_walk_60 : decode cX2_walk 60 = .ok (.putfield 102, 3) := by decide +kernel
theorem dX2_walk_63 : decode cX2_walk 63 = .ok (.aload_n 0, 1) := by decide +kernel
theorem dX2_walk_64 : decode cX2_walk 64 = .ok (.iconst 0, 1) := by decide +kernel
theorem dX2_walk_65 : decode cX2_walk 65 = .ok (.invokevirtual 92, 3) := by decide +kernel
theorem dX2_walk_68 : decode cX2_walk 68 = .ok (.aload_n 0, 1) := by decide +kernel
theorem dX2_walk_69 : decode cX2_walk 69 = .ok (.getfield 102, 3) := by decide +kernel
theorem dX2_walk_72 : decode cX2_walk 72 = .ok (.ifCond .ne 7, 3) := by decide +kernel
theorem dX2_walk_75 : decode cX2_walk 75 = .ok (.iconst 1, 1) := by decide +kernel
theorem dX2_walk_76 : decode cX2_walk 76 = .ok (.goto 10, 3) := by decide +kernel
theorem dX2_walk_79 : decode cX2_walk 79 = .ok (.bipush (-10), 2) := by decide +kernel
theorem dX2_walk_81 : decode cX2_walk 81 = .ok (.aload_n 0, 1) := by decide +kernel
theorem dX2_walk_82 : decode cX2_walk 82 = .ok (.getfield 102, 3) := by decide +kernel
theorem dX2_walk_85 : decode cX2_walk 85 = .ok (.isub, 1) := by decide +kernel
theorem dX2_walk_86 : decode cX2_walk 86 = .ok (.ireturn, 1) := by decide +kernel
theorem dX2_seek_0 : decode cX2_seek 0 = .ok (.iconst 0, 1) := by decide +kernel
theorem dX2_seek_1 : decode cX2_seek 1 = .ok (.istore_n 3, 1) := by decide +kernel
theorem dX2_seek_2 : decode cX2_seek 2 = .ok (.iload_n 3, 1) := by decide +kernel
theorem dX2_seek_3 : decode cX2_seek 3 = .ok (.bipush 10, 2) := by decide +kernel
theorem dX2_seek_5 : decode cX2_seek 5 = .ok (.if_icmp .ge 139, 3) := by decide +kernel
theorem dX2_seek_8 : decode cX2_seek 8 = .ok (.aload_n 0, 1) := by decide +kernel
theorem dX2_seek_9 : decode cX2_seek 9 = .ok (.getfield 34, 3) := by decide +kernel
theorem dX2_seek_12 : decode cX2_seek 12 = .ok (.iload_n 3, 1) := by decide +kernel
theorem dX2_seek_13 : decode cX2_seek 13 = .ok (.iaload, 1) := by decide +kernel
theorem dX2_seek_14 : decode cX2_seek 14 = .ok (.istore 4, 2) := by decide +kernel
theorem dX2_seek_16 : decode cX2_seek 16 = .ok (.iload 4, 2) := by decide +kernel
theorem dX2_seek_18 : decode cX2_seek 18 = .ok (.iconst (-1), 1) := by decide +kernel
theorem dX2_seek_19 : decode cX2_seek 19 = .ok (.if_icmp .ne 6, 3) := by decide +kernel
theorem dX2_seek_22 : decode cX2_seek 22 = .ok (.goto 116, 3) := by decide +kernel
theorem dX2_seek_25 : decode cX2_seek 25 = .ok (.aload_n 0, 1) := by decide +kernel
theorem dX2_seek_26 : decode cX2_seek 26 = .ok (.getfield 22, 3) := by decide +kernel
theorem dX2_seek_29 : decode cX2_seek 29 = .ok (.iload 4, 2) := by decide +kernel
theorem dX2_seek_31 : decode cX2_seek 31 = .ok (.dup2, 1) := by decide +kernel
theorem dX2_seek_32 : decode cX2_seek 32 = .ok (.iaload, 1) := by decide +kernel
theorem dX2_seek_33 : decode cX2_seek 33 = .ok (.iconst 1, 1) := by decide +kernel
theorem dX2_seek_34 : decode cX2_seek 34 = .ok (.iadd, 1) := by decide +kernel
theorem dX2_seek_35 : decode cX2_seek 35 = .ok (.iastore, 1) := by decide +kernel
theorem dX2_seek_36 : decode cX2_seek 36 = .ok (.iconst 1, 1) := by decide +kernel
theorem dX2_seek_37 : decode cX2_seek 37 = .ok (.istore 5, 2) := by decide +kernel
theorem dX2_seek_39 : decode cX2_seek 39 = .ok (.iload_n 3, 1) := by decide +kernel
theorem dX2_seek_40 : decode cX2_seek 40 = .ok (.iconst 1, 1) := by decide +kernel
theorem dX2_seek_41 : decode cX2_seek 41 = .ok (.iadd, 1) := by decide +kernel
theorem dX2_seek_42 : decode cX2_seek 42 = .ok (.istore 6, 2) := by decide +kernel
theorem dX2_seek_44 : decode cX2_seek 44 = .ok (.iload 6, 2) := by decide +kernel
theorem dX2_seek_46 : decode cX2_seek 46 = .ok (.bipush 10, 2) := by decide +kernel
theorem dX2_seek_48 : decode cX2_seek 48 = .ok (.if_icmp .ge 90, 3) := by decide +kernel
theorem dX2_seek_51 : decode cX2_seek 51 = .ok (.iload 5, 2) := by decide +kernel
theorem dX2_seek_53 : decode cX2_seek 53 = .ok (.ifCond .eq 85, 3) := by decide +kernel
theorem dX2_seek_56 : decode cX2_seek 56 = .ok (.aload_n 0, 1) := by decide +kernel
theorem dX2_seek_57 : decode cX2_seek 57 = .ok (.getfield 34, 3) := by decide +kernel
theorem dX2_seek_60 : decode cX2_seek 60 = .ok (.iload 6, 2) := by decide +kernel
theorem dX2_seek_62 : decode cX2_seek 62 = .ok (.iaload, 1) := by decide +kernel
theorem dX2_seek_63 : decode cX2_seek 63 = .ok (.istore 7, 2) := by decide +kernel
theorem dX2_seek_65 : decode cX2_seek 65 = .ok (.iload 7, 2) := by decide +kernel
theorem dX2_seek_67 : decode cX2_seek 67 = .ok (.iconst (-1), 1) := by decide +kernel
theorem dX2_seek_68 : decode cX2_seek 68 = .ok (.if_icmp .ne 6, 3) := by decide +kernel
theorem dX2_seek_71 : decode cX2_seek 71 = .ok (.goto 61, 3) := by decide +kernel
theorem dX2_seek_74 : decode cX2_seek 74 = .ok (.aload_n 0, 1) := by decide +kernel
theorem dX2_seek_75 : decode cX2_seek 75 = .ok (.getfield 22, 3) := by decide +kernel
theorem dX2_seek_78 : decode cX2_seek 78 = .ok (.iload 7, 2) := by decide +kernel
theorem dX2_seek_80 : decode cX2_seek 80 = .ok (.dup2, 1) := by decide +kernel
theorem dX2_seek_81 : decode cX2_seek 81 = .ok (.iaload, 1) := by decide +kernel
theorem dX2_seek_82 : decode cX2_seek 82 = .ok (.iconst 1, 1) := by decide +kernel
theorem dX2_seek_83 : decode cX2_seek 83 = .ok (.iadd, 1) := by decide +kernel
theorem dX2_seek_84 : decode cX2_seek 84 = .ok (.iastore, 1) := by decide +kernel
theorem dX2_seek_85 : decode cX2_seek 85 = .ok (.aload_n 0, 1) := by decide +kernel
theorem dX2_seek_86 : decode cX2_seek 86 = .ok (.getfield 16, 3) := by decide +kernel
theorem dX2_seek_89 : decode cX2_seek 89 = .ok (.iload 4, 2) := by decide +kernel
theorem dX2_seek_91 : decode cX2_seek 91 = .ok (.iaload, 1) := by decide +kernel
theorem dX2_seek_92 : decode cX2_seek 92 = .ok (.i2l, 1) := by decide +kernel
theorem dX2_seek_93 : decode cX2_seek 93 = .ok (.aload_n 0, 1) := by decide +kernel
theorem dX2_seek_94 : decode cX2_seek 94 = .ok (.getfield 16, 3) := by decide +kernel
theorem dX2_seek_97 : decode cX2_seek 97 = .ok (.iload 7, 2) := by decide +kernel
theorem dX2_seek_99 : decode cX2_seek 99 = .ok (.iaload, 1) := by decide +kernel
theorem dX2_seek_100 : decode cX2_seek 100 = .ok (.i2l, 1) := by decide +kernel
theorem dX2_seek_101 : decode cX2_seek 101 = .ok (.ladd, 1) := by decide +kernel
theorem dX2_seek_102 : decode cX2_seek 102 = .ok (.lload_n 1, 1) := by decide +kernel
theorem dX2_seek_103 : decode cX2_seek 103 = .ok (.lcmp, 1) := by decide +kernel
theorem dX2_seek_104 : decode cX2_seek 104 = .ok (.ifCond .ne 11, 3) := by decide +kernel
theorem dX2_seek_107 : decode cX2_seek 107 = .ok (.bipush 10, 2) := by decide +kernel
theorem dX2_seek_109 : decode cX2_seek 109 = .ok (.iload_n 3, 1) := by decide +kernel
theorem dX2_seek_110 : decode cX2_seek 110 = .ok (.imul, 1) := by decide +kernel
theorem dX2_seek_111 : decode cX2_seek 111 = .ok (.iload 6, 2) := by decide +kernel
theorem dX2_seek_113 : decode cX2_seek 113 = .ok (.iadd, 1) := by decide +kernel
theorem dX2_seek_114 : decode cX2_seek 114 = .ok (.ireturn, 1) := by decide +kernel
theorem dX2_seek_115 : decode cX2_seek 115 = .ok (.aload_n 0, 1) := by decide +kernel
theorem dX2_seek_116 : decode cX2_seek 116 = .ok (.getfield 16, 3) := by decide +kernel
theorem dX2_seek_119 : decode cX2_seek 119 = .ok (.iload 7, 2) := by decide +kernel
theorem dX2_seek_121 : decode cX2_seek 121 = .ok (.iaload, 1) := by decide +kernel
theorem dX2_seek_122 : decode cX2_seek 122 = .ok (.ifCond .lt 7, 3) := by decide +kernel
theorem dX2_seek_125 : decode cX2_seek 125 = .ok (.iconst 1, 1) := by decide +kernel
theorem dX2_seek_126 : decode cX2_seek 126 = .ok (.goto 4, 3) := by decide +kernel
theorem dX2_seek_129 : decode cX2_seek 129 = .ok (.iconst 0, 1) := by decide +kernel
theorem dX2_seek_130 : decode cX2_seek 130 = .ok (.istore 5, 2) := by decide +kernel
theorem dX2_seek_132 : decode cX2_seek 132 = .ok (.iinc 6 1, 3) := by decide +kernel
theorem dX2_seek_135 : decode cX2_seek 135 = .ok (.goto (-91), 3) := by decide +kernel
theorem dX2_seek_138 : decode cX2_seek 138 = .ok (.iinc 3 1, 3) := by decide +kernel
theorem dX2_seek_141 : decode cX2_seek 141 = .ok (.goto (-139), 3) := by decide +kernel
theorem dX2_seek_144 : decode cX2_seek 144 = .ok (.iconst (-1), 1) := by decide +kernel
theorem dX2_seek_145 : decode cX2_seek 145 = .ok (.ireturn, 1) := by decide +kernel
set_option maxRecDepth 20000 in
theorem ggX2_told_X2_in : GoodIn wsX2_told wsX2_in := goodIn_r _ [12] (by decide +kernel) (by decide +kernel)
set_option maxRecDepth 20000 in
theorem gX2_told_X2_in : GoodIn wsX2_told (va_wsS RX2 49 yX2_in wsX2_in) := goodIn_app (goodIn_of _ (by decide +kernel)) ggX2_told_X2_in
theorem dX2_told_0 : decode cX2_told 0 = .ok (.iload_n 1, 1) := by decide +kernel
theorem dX2_told_1 : decode cX2_told 1 = .ok (.iconst 0, 1) := by decide +kernel
theorem dX2_told_2 : decode cX2_told 2 = .ok (.bipush 9, 2) := by decide +kernel
theorem dX2_told_4 : decode cX2_told 4 = .ok (.invokestatic 49, 3) := by decide +kernel
theorem dX2_told_7 : decode cX2_told 7 = .ok (.ifCond .eq 23, 3) := by decide +kernel
theorem dX2_told_10 : decode cX2_told 10 = .ok (.aload_n 0, 1) := by decide +kernel
theorem dX2_told_11 : decode cX2_told 11 = .ok (.getfield 34, 3) := by decide +kernel
theorem dX2_told_14 : decode cX2_told 14 = .ok (.iload_n 1, 1) := by decide +kernel
theorem dX2_told_15 : decode cX2_told 15 = .ok (.iaload, 1) := by decide +kernel
theorem dX2_told_16 : decode cX2_told 16 = .ok (.iconst (-1), 1) := by decide +kernel
theorem dX2_told_17 : decode cX2_told 17 = .ok (.if_icmp .eq 13, 3) := by decide +kernel
theorem dX2_told_20 : decode cX2_told 20 = .ok (.iload_n 2, 1) := by decide +kernel
theorem dX2_told_21 : decode cX2_told 21 = .ok (.iconst 0, 1) := by decide +kernel
theorem dX2_told_22 : decode cX2_told 22 = .ok (.bipush 7, 2) := by decide +kernel
theorem dX2_told_24 : decode cX2_told 24 = .ok (.invokestatic 49, 3) := by decide +kernel
theorem dX2_told_27 : decode cX2_told 27 = .ok (.ifCond .ne 5, 3) := by decide +kernel
theorem dX2_told_30 : decode cX2_told 30 = .ok (.iconst (-1), 1) := by decide +kernel
theorem dX2_told_31 : decode cX2_told 31 = .ok (.ireturn, 1) := by decide +kernel
theorem dX2_told_32 : decode cX2_told 32 = .ok (.aload_n 0, 1) := by decide +kernel
theorem dX2_told_33 : decode cX2_told 33 = .ok (.getfield 34, 3) := by decide +kernel
theorem dX2_told_36 : decode cX2_told 36 = .ok (.iload_n 1, 1) := by decide +kernel
theorem dX2_told_37 : decode cX2_told 37 = .ok (.iaload, 1) := by decide +kernel
theorem dX2_told_38 : decode cX2_told 38 = .ok (.istore_n 3, 1) := by decide +kernel
theorem dX2_told_39 : decode cX2_told 39 = .ok (.iload_n 2, 1) := by decide +kernel
theorem dX2_told_40 : decode cX2_told 40 = .ok (.tableswitch 88 0 6 #[44, 46, 53, 60, 67, 74, 81], 44) := by decide +kernel
theorem dX2_told_84 : decode cX2_told 84 = .ok (.iload_n 3, 1) := by decide +kernel
theorem dX2_told_85 : decode cX2_told 85 = .ok (.ireturn, 1) := by decide +kernel
theorem dX2_told_86 : decode cX2_told 86 = .ok (.aload_n 0, 1) := by decide +kernel
theorem dX2_told_87 : decode cX2_told 87 = .ok (.getfield 7, 3) := by decide +kernel
theorem dX2_told_90 : decode cX2_told 90 = .ok (.iload_n 3, 1) := by decide +kernel
theorem dX2_told_91 : decode cX2_told 91 = .ok (.iaload, 1) := by decide +kernel
theorem dX2_told_92 : decode cX2_told 92 = .ok (.ireturn, 1) := by decide +kernel
theorem dX2_told_93 : decode cX2_told 93 = .ok (.aload_n 0, 1) := by decide +kernel
theorem dX2_told_94 : decode cX2_told 94 = .ok (.getfield 13, 3) := by decide +kernel
theorem dX2_told_97 : decode cX2_told 97 = .ok (.iload_n 3, 1) := by decide +kernel
theorem dX2_told_98 : decode cX2_told 98 = .ok (.iaload, 1) := by decide +kernel
theorem dX2_told_99 : decode cX2_told 99 = .ok (.ireturn, 1) := by decide +kernel
theorem dX2_told_100 : decode cX2_told 100 = .ok (.aload_n 0, 1) := by decide +kernel
theorem dX2_told_101 : decode cX2_told 101 = .ok (.getfield 19, 3) := by decide +kernel
theorem dX2_told_104 : decode cX2_told 104 = .ok (.iload_n 3, 1) := by decide +kernel
theorem dX2_told_105 : decode cX2_told 105 = .ok (.iaload, 1) := by decide +kernel
theorem dX2_told_106 : decode cX2_told 106 = .ok (.ireturn, 1) := by decide +kernel
theorem dX2_told_107 : decode cX2_told 107 = .ok (.aload_n 0, 1) := by decide +kernel
theorem dX2_told_108 : decode cX2_told 108 = .ok (.getfield 22, 3) := by decide +kernel
theorem dX2_told_111 : decode cX2_told 111 = .ok (.iload_n 3, 1) := by decide +kernel
theorem dX2_told_112 : decode cX2_told 112 = .ok (.iaload, 1) := by decide +kernel
theorem dX2_told_113 : decode cX2_told 113 = .ok (.ireturn, 1) := by decide +kernel
theorem dX2_told_114 : decode cX2_told 114 = .ok (.aload_n 0, 1) := by decide +kernel
theorem dX2_told_115 : decode cX2_told 115 = .ok (.getfield 25, 3) := by decide +kernel
theorem dX2_told_118 : decode cX2_told 118 = .ok (.iload_n 3, 1) := by decide +kernel
theorem dX2_told_119 : decode cX2_told 119 = .ok (.iaload, 1) := by decide +kernel
theorem dX2_told_120 : decode cX2_told 120 = .ok (.ireturn, 1) := by decide +kernel
theorem dX2_told_121 : decode cX2_told 121 = .ok (.aload_n 0, 1) := by decide +kernel
theorem dX2_told_122 : decode cX2_told 122 = .ok (.getfield 28, 3) := by decide +kernel
theorem dX2_told_125 : decode cX2_told 125 = .ok (.iload_n 3, 1) := by decide +kernel
theorem dX2_told_126 : decode cX2_told 126 = .ok (.iaload, 1) := by decide +kernel
theorem dX2_told_127 : decode cX2_told 127 = .ok (.ireturn, 1) := by decide +kernel
theorem dX2_told_128 : decode cX2_told 128 = .ok (.aload_n 0, 1) := by decide +kernel
theorem dX2_told_129 : decode cX2_told 129 = .ok (.getfield 31, 3) := by decide +kernel
theorem dX2_told_132 : decode cX2_told 132 = .ok (.iload_n 3, 1) := by decide +kernel
theorem dX2_told_133 : decode cX2_told 133 = .ok (.iaload, 1) := by decide +kernel
theorem dX2_told_134 : decode cX2_told 134 = .ok (.ireturn, 1) := by decide +kernel
set_option maxRecDepth 20000 in
theorem ggX2_gifts_X2_in : GoodIn wsX2_gifts wsX2_in := goodIn_r _ [6] (by decide +kernel) (by decide +kernel)
set_option maxRecDepth 20000 in
theorem gX2_gifts_X2_in : GoodIn wsX2_gifts (va_wsS RX2 49 yX2_in wsX2_in) := goodIn_app (goodIn_of _ (by decide +kernel)) ggX2_gifts_X2_in
theorem dX2_gifts_0 : decode cX2_gifts 0 = .ok (.iload_n 1, 1) := by decide +kernel
theorem dX2_gifts_1 : decode cX2_gifts 1 = .ok (.iconst 0, 1) := by decide +kernel
theorem dX2_gifts_2 : decode cX2_gifts 2 = .ok (.bipush 9, 2) := by decide +kernel
theorem dX2_gifts_4 : decode cX2_gifts 4 = .ok (.invokestatic 49, 3) := by decide +kernel
theorem dX2_gifts_7 : decode cX2_gifts 7 = .ok (.ifCond .eq 27, 3) := by decide +kernel
theorem dX2_gifts_10 : decode cX2_gifts 10 = .ok (.aload_n 0, 1) := by decide +kernel
theorem dX2_gifts_11 : decode cX2_gifts 11 = .ok (.getfield 34, 3) := by decide +kernel
theorem dX2_gifts_14 : decode cX2_gifts 14 = .ok (.iload_n 1, 1) := by decide +kernel
theorem dX2_gifts_15 : decode cX2_gifts 15 = .ok (.iaload, 1) := by decide +kernel
theorem dX2_gifts_16 : decode cX2_gifts 16 = .ok (.iconst (-1), 1) := by decide +kernel
theorem dX2_gifts_17 : decode cX2_gifts 17 = .ok (.if_icmp .eq 17, 3) := by decide +kernel
theorem dX2_gifts_20 : decode cX2_gifts 20 = .ok (.aload_n 0, 1) := by decide +kernel
theorem dX2_gifts_21 : decode cX2_gifts 21 = .ok (.getfield 16, 3) := by decide +kernel
theorem dX2_gifts_24 : decode cX2_gifts 24 = .ok (.aload_n 0, 1) := by decide +kernel
theorem dX2_gifts_25 : decode cX2_gifts 25 = .ok (.getfield 34, 3) := by decide +kernel
theorem dX2_gifts_28 : decode cX2_gifts 28 = .ok (.iload_n 1, 1) := by decide +kernel
theorem dX2_gifts_29 : decode cX2_gifts 29 = .ok (.iaload, 1) := by decide +kernel
theorem dX2_gifts_30 : decode cX2_gifts 30 = .ok (.iaload, 1) := by decide +kernel
theorem dX2_gifts_31 : decode cX2_gifts 31 = .ok (.goto 4, 3) := by decide +kernel
theorem dX2_gifts_34 : decode cX2_gifts 34 = .ok (.iconst 0, 1) := by decide +kernel
theorem dX2_gifts_35 : decode cX2_gifts 35 = .ok (.ireturn, 1) := by decide +kernel
set_option maxRecDepth 20000 in
theorem ggX2_trace_X2_in : GoodIn wsX2_trace wsX2_in := goodIn_r _ [6] (by decide +kernel) (by decide +kernel)
set_option maxRecDepth 20000 in
theorem gX2_trace_X2_in : GoodIn wsX2_trace (va_wsS RX2 49 yX2_in wsX2_in) := goodIn_app (goodIn_of _ (by decide +kernel)) ggX2_trace_X2_in
theorem dX2_trace_0 : decode cX2_trace 0 = .ok (.iload_n 1, 1) := by decide +kernel
theorem dX2_trace_1 : decode cX2_trace 1 = .ok (.iconst (-1), 1) := by decide +kernel
theorem dX2_trace_2 : decode cX2_trace 2 = .ok (.if_icmp .ne 10, 3) := by decide +kernel
theorem dX2_trace_5 : decode cX2_trace 5 = .ok (.aload_n 0, 1) := by decide +kernel
theorem dX2_trace_6 : decode cX2_trace 6 = .ok (.getfield 61, 3) := by decide +kernel
theorem dX2_trace_9 : decode cX2_trace 9 = .ok (.goto 27, 3) := by decide +kernel
theorem dX2_trace_12 : decode cX2_trace 12 = .ok (.iload_n 1, 1) := by decide +kernel
theorem dX2_trace_13 : decode cX2_trace 13 = .ok (.iconst 0, 1) := by decide +kernel
theorem dX2_trace_14 : decode cX2_trace 14 = .ok (.aload_n 0, 1) := by decide +kernel
theorem dX2_trace_15 : decode cX2_trace 15 = .ok (.getfield 61, 3) := by decide +kernel
theorem dX2_trace_18 : decode cX2_trace 18 = .ok (.iconst 1, 1) := by decide +kernel
theorem dX2_trace_19 : decode cX2_trace 19 = .ok (.isub, 1) := by decide +kernel
theorem dX2_trace_20 : decode cX2_trace 20 = .ok (.invokestatic 49, 3) := by decide +kernel
theorem dX2_trace_23 : decode cX2_trace 23 = .ok (.ifCond .eq 12, 3) := by decide +kernel
theorem dX2_trace_26 : decode cX2_trace 26 = .ok (.aload_n 0, 1) := by decide +kernel
theorem dX2_trace_27 : decode cX2_trace 27 = .ok (.getfield 40, 3) := by decide +kernel
theorem dX2_trace_30 : decode cX2_trace 30 = .ok (.iload_n 1, 1) := by decide +kernel
theorem dX2_trace_31 : decode cX2_trace 31 = .ok (.iaload, 1) := by decide +kernel
theorem dX2_trace_32 : decode cX2_trace 32 = .ok (.goto 4, 3) := by decide +kernel
theorem dX2_trace_35 : decode cX2_trace 35 = .ok (.iconst (-1), 1) := by decide +kernel
theorem dX2_trace_36 : decode cX2_trace 36 = .ok (.ireturn, 1) := by decide +kernel
theorem dX2_count_0 : decode cX2_count 0 = .ok (.iload_n 1, 1) := by decide +kernel
theorem dX2_count_1 : decode cX2_count 1 = .ok (.tableswitch 100 0 5 #[39, 44, 49, 85, 90, 95], 39) := by decide +kernel
theorem dX2_count_40 : decode cX2_count 40 = .ok (.aload_n 0, 1) := by decide +kernel
theorem dX2_count_41 : decode cX2_count 41 = .ok (.getfield 57, 3) := by decide +kernel
theorem dX2_count_44 : decode cX2_count 44 = .ok (.ireturn, 1) := by decide +kernel
theorem dX2_count_45 : decode cX2_count 45 = .ok (.aload_n 0, 1) := by decide +kernel
theorem dX2_count_46 : decode cX2_count 46 = .ok (.getfield 53, 3) := by decide +kernel
theorem dX2_count_49 : decode cX2_count 49 = .ok (.ireturn, 1) := by decide +kernel
theorem dX2_count_50 : decode cX2_count 50 = .ok (.iconst 0, 1) := by decide +kernel
theorem dX2_count_51 : decode cX2_count 51 = .ok (.istore_n 2, 1) := by decide +kernel
theorem dX2_count_52 : decode cX2_count 52 = .ok (.iconst 0, 1) := by decide +kernel
theorem dX2_count_53 : decode cX2_count 53 = .ok (.istore_n 3, 1) := by decide +kernel
theorem dX2_count_54 : decode cX2_count 54 = .ok (.iload_n 3, 1) := by decide +kernel
theorem dX2_count_55 : decode cX2_count 55 = .ok (.bipush 10, 2) := by decide +kernel
theorem dX2_count_57 : decode cX2_count 57 = .ok (.if_icmp .ge 27, 3) := by decide +kernel
theorem dX2_count_60 : decode cX2_count 60 = .ok (.aload_n 0, 1) := by decide +kernel
theorem dX2_count_61 : decode cX2_count 61 = .ok (.getfield 34, 3) := by decide +kernel
theorem dX2_count_64 : decode cX2_count 64 = .ok (.iload_n 3, 1) := by decide +kernel
theorem dX2_count_65 : decode cX2_count 65 = .ok (.iaload, 1) := by decide +kernel
theorem dX2_count_66 : decode cX2_count 66 = .ok (.iconst (-1), 1) := by decide +kernel
theorem dX2_count_67 : decode cX2_count 67 = .ok (.if_icmp .ne 7, 3) := by decide +kernel
theorem dX2_count_70 : decode cX2_count 70 = .ok (.iload_n 2, 1) := by decide +kernel
theorem dX2_count_71 : decode cX2_count 71 = .ok (.goto 6, 3) := by decide +kernel
theorem dX2_count_74 : decode cX2_count 74 = .ok (.iload_n 2, 1) := by decide +kernel
theorem dX2_count_75 : decode cX2_count 75 = .ok (.iconst 1, 1) := by decide +kernel
theorem dX2_count_76 : decode cX2_count 76 = .ok (.iadd, 1) := by decide +kernel
theorem dX2_count_77 : decode cX2_count 77 = .ok (.istore_n 2, 1) := by decide +kernel
theorem dX2_count_78 : decode cX2_count 78 = .ok (.iinc 3 1, 3) := by decide +kernel
theorem dX2_count_81 : decode cX2_count 81 = .ok (.goto (-27), 3) := by decide +kernel
theorem dX2_count_84 : decode cX2_count 84 = .ok (.iload_n 2, 1) := by decide +kernel
theorem dX2_count_85 : decode cX2_count 85 = .ok (.ireturn, 1) := by decide +kernel
theorem dX2_count_86 : decode cX2_count 86 = .ok (.aload_n 0, 1) := by decide +kernel
theorem dX2_count_87 : decode cX2_count 87 = .ok (.getfield 102, 3) := by decide +kernel
theorem dX2_count_90 : decode cX2_count 90 = .ok (.ireturn, 1) := by decide +kernel
theorem dX2_count_91 : decode cX2_count 91 = .ok (.aload_n 0, 1) := by decide +kernel
theorem dX2_count_92 : decode cX2_count 92 = .ok (.getfield 78, 3) := by decide +kernel
theorem dX2_count_95 : decode cX2_count 95 = .ok (.ireturn, 1) := by decide +kernel
theorem dX2_count_96 : decode cX2_count 96 = .ok (.aload_n 0, 1) := by decide +kernel
theorem dX2_count_97 : decode cX2_count 97 = .ok (.getfield 71, 3) := by decide +kernel
theorem dX2_count_100 : decode cX2_count 100 = .ok (.ireturn, 1) := by decide +kernel
theorem dX2_count_101 : decode cX2_count 101 = .ok (.iconst (-1), 1) := by decide +kernel
theorem dX2_count_102 : decode cX2_count 102 = .ok (.ireturn, 1) := by decide +kernel
theorem dJ9_floorMod_7cf53_0 : decode cJ9_floorMod_7cf53 0 = .ok (.iload_n 0, 1) := by decide +kernel
theorem dJ9_floorMod_7cf53_1 : decode cJ9_floorMod_7cf53 1 = .ok (.iload_n 1, 1) := by decide +kernel
theorem dJ9_floorMod_7cf53_2 : decode cJ9_floorMod_7cf53 2 = .ok (.irem, 1) := by decide +kernel
theorem dJ9_floorMod_7cf53_3 : decode cJ9_floorMod_7cf53 3 = .ok (.istore_n 2, 1) := by decide +kernel
theorem dJ9_floorMod_7cf53_4 : decode cJ9_floorMod_7cf53 4 = .ok (.iload_n 0, 1) := by decide +kernel
theorem dJ9_floorMod_7cf53_5 : decode cJ9_floorMod_7cf53 5 = .ok (.iload_n 1, 1) := by decide +kernel
theorem dJ9_floorMod_7cf53_6 : decode cJ9_floorMod_7cf53 6 = .ok (.ixor, 1) := by decide +kernel
theorem dJ9_floorMod_7cf53_7 : decode cJ9_floorMod_7cf53 7 = .ok (.ifCond .ge 11, 3) := by decide +kernel
theorem dJ9_floorMod_7cf53_10 : decode cJ9_floorMod_7cf53 10 = .ok (.iload_n 2, 1) := by decide +kernel
theorem dJ9_floorMod_7cf53_11 : decode cJ9_floorMod_7cf53 11 = .ok (.ifCond .eq 7, 3) := by decide +kernel
theorem dJ9_floorMod_7cf53_14 : decode cJ9_floorMod_7cf53 14 = .ok (.iload_n 2, 1) := by decide +kernel
theorem dJ9_floorMod_7cf53_15 : decode cJ9_floorMod_7cf53 15 = .ok (.iload_n 1, 1) := by decide +kernel
theorem dJ9_floorMod_7cf53_16 : decode cJ9_floorMod_7cf53 16 = .ok (.iadd, 1) := by decide +kernel
theorem dJ9_floorMod_7cf53_17 : decode cJ9_floorMod_7cf53 17 = .ok (.ireturn, 1) := by decide +kernel
theorem dJ9_floorMod_7cf53_18 : decode cJ9_floorMod_7cf53 18 = .ok (.iload_n 2, 1) := by decide +kernel
theorem dJ9_floorMod_7cf53_19 : decode cJ9_floorMod_7cf53 19 = .ok (.ireturn, 1) := by decide +kernel
theorem dJ9_max_7cf53_0 : decode cJ9_max_7cf53 0 = .ok (.iload_n 0, 1) := by decide +kernel
theorem dJ9_max_7cf53_1 : decode cJ9_max_7cf53 1 = .ok (.iload_n 1, 1) := by decide +kernel
theorem dJ9_max_7cf53_2 : decode cJ9_max_7cf53 2 = .ok (.if_icmp .lt 7, 3) := by decide +kernel
theorem dJ9_max_7cf53_5 : decode cJ9_max_7cf53 5 = .ok (.iload_n 0, 1) := by decide +kernel
theorem dJ9_max_7cf53_6 : decode cJ9_max_7cf53 6 = .ok (.goto 4, 3) := by decide +kernel
theorem dJ9_max_7cf53_9 : decode cJ9_max_7cf53 9 = .ok (.iload_n 1, 1) := by decide +kernel
theorem dJ9_max_7cf53_10 : decode cJ9_max_7cf53 10 = .ok (.ireturn, 1) := by decide +kernel
theorem dJ9_min_7cf53_0 : decode cJ9_min_7cf53 0 = .ok (.iload_n 0, 1) := by decide +kernel
theorem dJ9_min_7cf53_1 : decode cJ9_min_7cf53 1 = .ok (.iload_n 1, 1) := by decide +kernel
theorem dJ9_min_7cf53_2 : decode cJ9_min_7cf53 2 = .ok (.if_icmp .gt 7, 3) := by decide +kernel
theorem dJ9_min_7cf53_5 : decode cJ9_min_7cf53 5 = .ok (.iload_n 0, 1) := by decide +kernel
theorem dJ9_min_7cf53_6 : decode cJ9_min_7cf53 6 = .ok (.goto 4, 3) := by decide +kernel
theorem dJ9_min_7cf53_9 : decode cJ9_min_7cf53 9 = .ok (.iload_n 1, 1) := by decide +kernel
theorem dJ9_min_7cf53_10 : decode cJ9_min_7cf53 10 = .ok (.ireturn, 1) := by decide +kernel
theorem dJ7_fill_53178_0 : decode cJ7_fill_53178 0 = .ok (.iconst 0, 1) := by decide +kernel
theorem dJ7_fill_53178_1 : decode cJ7_fill_53178 1 = .ok (.istore_n 2, 1) := by decide +kernel
theorem dJ7_fill_53178_2 : decode cJ7_fill_53178 2 = .ok (.aload_n 0, 1) := by decide +kernel
theorem dJ7_fill_53178_3 : decode cJ7_fill_53178 3 = .ok (.arraylength, 1) := by decide +kernel
theorem dJ7_fill_53178_4 : decode cJ7_fill_53178 4 = .ok (.istore_n 3, 1) := by decide +kernel
theorem dJ7_fill_53178_5 : decode cJ7_fill_53178 5 = .ok (.iload_n 2, 1) := by decide +kernel
theorem dJ7_fill_53178_6 : decode cJ7_fill_53178 6 = .ok (.iload_n 3, 1) := by decide +kernel
theorem dJ7_fill_53178_7 : decode cJ7_fill_53178 7 = .ok (.if_icmp .ge 13, 3) := by decide +kernel
theorem dJ7_fill_53178_10 : decode cJ7_fill_53178 10 = .ok (.aload_n 0, 1) := by decide +kernel
theorem dJ7_fill_53178_11 : decode cJ7_fill_53178 11 = .ok (.iload_n 2, 1) := by decide +kernel
theorem dJ7_fill_53178_12 : decode cJ7_fill_53178 12 = .ok (.iload_n 1, 1) := by decide +kernel
theorem dJ7_fill_53178_13 : decode cJ7_fill_53178 13 = .ok (.iastore, 1) := by decide +kernel
theorem dJ7_fill_53178_14 : decode cJ7_fill_53178 14 = .ok (.iinc 2 1, 3) := by decide +kernel
theorem dJ7_fill_53178_17 : decode cJ7_fill_53178 17 = .ok (.goto (-12), 3) := by decide +kernel
theorem dJ7_fill_53178_20 : decode cJ7_fill_53178 20 = .ok (.return_, 1) := by decide +kernel
set_option maxRecDepth 20000 in
theorem ggL_law_X1_init : GoodIn wsL_law wsX1_init := goodIn_r _ [9, 10, 11, 12, 13, 14, 15, 16, 17, 18, 19, 20, 21, 22, 23, 279, 280, 281, 282, 283, 284, 285, 286, 287, 288, 289, 290] (by decide +kernel) (by decide +kernel)
set_option maxRecDepth 20000 in
theorem gL_law_X1_init : GoodIn wsL_law (wsX1_init) := ggL_law_X1_init
set_option maxRecDepth 20000 in
theorem ggL_law_X2_init : GoodIn wsL_law wsX2_init := goodIn_r _ [26, 27, 11, 12, 15, 28, 29, 30, 31, 32, 33, 34, 35, 36, 37, 38, 39, 40, 291, 292, 293, 294, 295, 296, 297, 298, 299, 300, 301, 302, 303, 304, 305, 306, 307, 308, 309, 310] (by decide +kernel) (by decide +kernel)
set_option maxRecDepth 20000 in
theorem gL_law_X2_init : GoodIn wsL_law (wsX2_init) := ggL_law_X2_init
set_option maxRecDepth 20000 in
theorem ggL_law_X1_hall : GoodIn wsL_law wsX1_hall := goodIn_r _ [44, 45, 14, 13, 46, 47, 48, 49, 2, 50, 51, 52, 53, 11, 12, 54, 55, 56, 279, 280, 281, 282, 283, 284, 285, 286, 287, 288, 289, 290, 311, 312, 313, 314, 315, 316, 317, 318, 319] (by decide +kernel) (by decide +kernel)
set_option maxRecDepth 20000 in
theorem gL_law_X1_hall : GoodIn wsL_law (wsV RL 13 RX1 yX1_hall wsX1_hall) := goodIn_app (goodIn_of _ (by decide +kernel)) ggL_law_X1_hall
set_option maxRecDepth 20000 in
theorem ggL_law_X2_hall : GoodIn wsL_law wsX2_hall := goodIn_r _ [60, 28, 61, 29, 36, 62, 63, 5, 64, 291, 292, 293, 294, 295, 296, 297, 298, 299, 300, 301, 302, 303, 304, 305, 306, 307, 308, 309, 310] (by decide +kernel) (by decide +kernel)
set_option maxRecDepth 20000 in
theorem gL_law_X2_hall : GoodIn wsL_law (wsV RL 17 RX2 yX2_hall wsX2_hall) := goodIn_app (goodIn_of _ (by decide +kernel)) ggL_law_X2_hall
set_option maxRecDepth 20000 in
theorem ggL_law_X1_share : GoodIn wsL_law wsX1_share := goodIn_r _ [68, 14, 48, 49, 2, 50, 279, 280, 281, 282, 283, 284, 285, 286, 287, 288, 289, 290] (by decide +kernel) (by decide +kernel)
set_option maxRecDepth 20000 in
theorem gL_law_X1_share : GoodIn wsL_law (wsV RL 18 RX1 yX1_share wsX1_share) := goodIn_app (goodIn_of _ (by decide +kernel)) ggL_law_X1_share
set_option maxRecDepth 20000 in
theorem ggL_law_X2_share : GoodIn wsL_law wsX2_share := goodIn_r _ [72, 36, 62, 63, 5, 64, 291, 292, 293, 294, 295, 296, 297, 298, 299, 300, 301, 302, 303, 304, 305, 306, 307, 308, 309, 310] (by decide +kernel) (by decide +kernel)
set_option maxRecDepth 20000 in
theorem gL_law_X2_share : GoodIn wsL_law (wsV RL 22 RX2 yX2_share wsX2_share) := goodIn_app (goodIn_of _ (by decide +kernel)) ggL_law_X2_share
set_option maxRecDepth 20000 in
theorem ggL_law_X1_parent : GoodIn wsL_law wsX1_parent := goodIn_r _ [76, 16, 48, 49, 2, 50, 279, 280, 281, 282, 283, 284, 285, 286, 287, 288, 289, 290] (by decide +kernel) (by decide +kernel)
set_option maxRecDepth 20000 in
theorem gL_law_X1_parent : GoodIn wsL_law (wsV RL 23 RX1 yX1_parent wsX1_parent) := goodIn_app (goodIn_of _ (by decide +kernel)) ggL_law_X1_parent
set_option maxRecDepth 20000 in
theorem ggL_law_X2_parent : GoodIn wsL_law wsX2_parent := goodIn_r _ [80, 37, 62, 63, 5, 64, 291, 292, 293, 294, 295, 296, 297, 298, 299, 300, 301, 302, 303, 304, 305, 306, 307, 308, 309, 310] (by decide +kernel) (by decide +kernel)
set_option maxRecDepth 20000 in
theorem gL_law_X2_parent : GoodIn wsL_law (wsV RL 26 RX2 yX2_parent wsX2_parent) := goodIn_app (goodIn_of _ (by decide +kernel)) ggL_law_X2_parent
set_option maxRecDepth 20000 in
theorem ggL_law_X1_fill : GoodIn wsL_law wsX1_fill := goodIn_r _ [84, 85, 86, 87, 88, 89, 90, 279, 280, 281, 282, 283, 284, 285, 286, 287, 288, 289, 290] (by decide +kernel) (by decide +kernel)
set_option maxRecDepth 20000 in
theorem gL_law_X1_fill : GoodIn wsL_law (wsV RL 27 RX1 yX1_fill wsX1_fill) := goodIn_app (goodIn_of _ (by decide +kernel)) ggL_law_X1_fill
set_option maxRecDepth 20000 in
theorem ggL_law_X2_fill : GoodIn wsL_law wsX2_fill := goodIn_r _ [94, 95, 96, 62, 63, 5, 64, 291, 292, 293, 294, 295, 296, 297, 298, 299, 300, 301, 302, 303, 304, 305, 306, 307, 308, 309, 310] (by decide +kernel) (by decide +kernel)
set_option maxRecDepth 20000 in
theorem gL_law_X2_fill : GoodIn wsL_law (wsV RL 31 RX2 yX2_fill wsX2_fill) := goodIn_app (goodIn_of _ (by decide +kernel)) ggL_law_X2_fill
set_option maxRecDepth 20000 in
theorem ggL_law_X1_walk : GoodIn wsL_law wsX1_walk := goodIn_r _ [100, 101, 102, 103, 48, 49, 2, 50, 104, 105, 106, 107, 108, 109, 110, 111, 112, 113, 17, 16, 114, 115, 116, 117, 87, 88, 89, 90, 118, 119, 120, 121, 14, 122, 123, 124, 125, 18, 126, 127, 128, 85, 129, 47, 130, 131, 132, 133, 134, 135, 136, 137, 138, 54, 139, 140, 141, 142, 19, 143, 144, 145, 55, 146, 147, 148, 56, 149, 150, 151, 152, 153, 154, 155, 156, 157, 158, 159, 160, 161, 162, 163, 164, 165, 166, 167, 168, 169, 170, 171, 172, 173, 174, 175, 176, 177, 178, 179, 180, 279, 280, 281, 282, 283, 284, 285, 286, 287, 288, 289, 290, 311, 312, 313, 314, 315, 316, 317, 318, 319] (by decide +kernel) (by decide +kernel)
set_option maxRecDepth 20000 in
theorem gL_law_X1_walk : GoodIn wsL_law (wsV RL 32 RX1 yX1_walk wsX1_walk) := goodIn_app (goodIn_of _ (by decide +kernel)) ggL_law_X1_walk
set_option maxRecDepth 20000 in
theorem ggL_law_X2_walk : GoodIn wsL_law wsX2_walk := goodIn_r _ [184, 185, 186, 187, 188, 62, 63, 5, 64, 189, 190, 191, 192, 193, 40, 37, 36, 194, 195, 196, 197, 31, 34, 35, 39, 28, 95, 33, 198, 199, 200, 201, 38, 202, 203, 204, 205, 29, 206, 207, 208, 209, 30, 210, 211, 212, 213, 214, 215, 216, 217, 218, 219, 220, 221, 222, 223, 224, 225, 291, 292, 293, 294, 295, 296, 297, 298, 299, 300, 301, 302, 303, 304, 305, 306, 307, 308, 309, 310] (by decide +kernel) (by decide +kernel)
set_option maxRecDepth 20000 in
theorem gL_law_X2_walk : GoodIn wsL_law (wsV RL 35 RX2 yX2_walk wsX2_walk) := goodIn_app (goodIn_of _ (by decide +kernel)) ggL_law_X2_walk
set_option maxRecDepth 20000 in
theorem ggL_law_X1_seek : GoodIn wsL_law wsX1_seek := goodIn_r _ [229, 14, 230, 231, 232, 2, 233, 118, 119, 120, 121, 48, 49, 50, 279, 280, 281, 282, 283, 284, 285, 286, 287, 288, 289, 290, 311, 312, 313, 314, 315, 316, 317, 318, 319] (by decide +kernel) (by decide +kernel)
set_option maxRecDepth 20000 in
theorem gL_law_X1_seek : GoodIn wsL_law (wsV RL 38 RX1 yX1_seek wsX1_seek) := goodIn_app (goodIn_of _ (by decide +kernel)) ggL_law_X1_seek
set_option maxRecDepth 20000 in
theorem ggL_law_X2_seek : GoodIn wsL_law wsX2_seek := goodIn_r _ [237, 36, 32, 30, 291, 292, 293, 294, 295, 296, 297, 298, 299, 300, 301, 302, 303, 304, 305, 306, 307, 308, 309, 310] (by decide +kernel) (by decide +kernel)
set_option maxRecDepth 20000 in
theorem gL_law_X2_seek : GoodIn wsL_law (wsV RL 42 RX2 yX2_seek wsX2_seek) := goodIn_app (goodIn_of _ (by decide +kernel)) ggL_law_X2_seek
set_option maxRecDepth 20000 in
theorem ggL_law_X1_told : GoodIn wsL_law wsX1_told := goodIn_r _ [241, 118, 119, 120, 2, 121, 14, 48, 49, 50, 242, 47, 243, 244, 54, 55, 56, 132, 245, 246, 133, 134, 279, 280, 281, 282, 283, 284, 285, 286, 287, 288, 289, 290, 311, 312, 313, 314, 315, 316, 317, 318, 319] (by decide +kernel) (by decide +kernel)
set_option maxRecDepth 20000 in
theorem gL_law_X1_told : GoodIn wsL_law (wsV RL 43 RX1 yX1_told wsX1_told) := goodIn_app (goodIn_of _ (by decide +kernel)) ggL_law_X1_told
set_option maxRecDepth 20000 in
theorem ggL_law_X2_told : GoodIn wsL_law wsX2_told := goodIn_r _ [250, 36, 28, 29, 31, 32, 33, 34, 35, 62, 63, 5, 64, 291, 292, 293, 294, 295, 296, 297, 298, 299, 300, 301, 302, 303, 304, 305, 306, 307, 308, 309, 310] (by decide +kernel) (by decide +kernel)
set_option maxRecDepth 20000 in
theorem gL_law_X2_told : GoodIn wsL_law (wsV RL 46 RX2 yX2_told wsX2_told) := goodIn_app (goodIn_of _ (by decide +kernel)) ggL_law_X2_told
set_option maxRecDepth 20000 in
theorem ggL_law_X1_gifts : GoodIn wsL_law wsX1_gifts := goodIn_r _ [254, 118, 119, 120, 2, 121, 14, 48, 49, 50, 311, 312, 313, 314, 315, 316, 317, 318, 319, 279, 280, 281, 282, 283, 284, 285, 286, 287, 288, 289, 290] (by decide +kernel) (by decide +kernel)
set_option maxRecDepth 20000 in
theorem gL_law_X1_gifts : GoodIn wsL_law (wsV RL 47 RX1 yX1_gifts wsX1_gifts) := goodIn_app (goodIn_of _ (by decide +kernel)) ggL_law_X1_gifts
set_option maxRecDepth 20000 in
theorem ggL_law_X2_gifts : GoodIn wsL_law wsX2_gifts := goodIn_r _ [258, 36, 30, 62, 63, 5, 64, 291, 292, 293, 294, 295, 296, 297, 298, 299, 300, 301, 302, 303, 304, 305, 306, 307, 308, 309, 310] (by decide +kernel) (by decide +kernel)
set_option maxRecDepth 20000 in
theorem gL_law_X2_gifts : GoodIn wsL_law (wsV RL 50 RX2 yX2_gifts wsX2_gifts) := goodIn_app (goodIn_of _ (by decide +kernel)) ggL_law_X2_gifts
set_option maxRecDepth 20000 in
theorem ggL_law_X1_trace : GoodIn wsL_law wsX1_trace := goodIn_r _ [262, 101, 19, 279, 280, 281, 282, 283, 284, 285, 286, 287, 288, 289, 290] (by decide +kernel) (by decide +kernel)
set_option maxRecDepth 20000 in
theorem gL_law_X1_trace : GoodIn wsL_law (wsV RL 51 RX1 yX1_trace wsX1_trace) := goodIn_app (goodIn_of _ (by decide +kernel)) ggL_law_X1_trace
set_option maxRecDepth 20000 in
theorem ggL_law_X2_trace : GoodIn wsL_law wsX2_trace := goodIn_r _ [266, 185, 38, 62, 63, 5, 64, 291, 292, 293, 294, 295, 296, 297, 298, 299, 300, 301, 302, 303, 304, 305, 306, 307, 308, 309, 310] (by decide +kernel) (by decide +kernel)
set_option maxRecDepth 20000 in
theorem gL_law_X2_trace : GoodIn wsL_law (wsV RL 54 RX2 yX2_trace wsX2_trace) := goodIn_app (goodIn_of _ (by decide +kernel)) ggL_law_X2_trace
set_option maxRecDepth 20000 in
theorem ggL_law_X1_count : GoodIn wsL_law wsX1_count := goodIn_r _ [270, 85, 45, 103, 108, 102, 271, 272, 273, 2, 274, 14, 279, 280, 281, 282, 283, 284, 285, 286, 287, 288, 289, 290] (by decide +kernel) (by decide +kernel)
set_option maxRecDepth 20000 in
theorem gL_law_X1_count : GoodIn wsL_law (wsV RL 55 RX1 yX1_count wsX1_count) := goodIn_app (goodIn_of _ (by decide +kernel)) ggL_law_X1_count
set_option maxRecDepth 20000 in
theorem ggL_law_X2_count : GoodIn wsL_law wsX2_count := goodIn_r _ [278, 95, 61, 36, 188, 193, 186, 291, 292, 293, 294, 295, 296, 297, 298, 299, 300, 301, 302, 303, 304, 305, 306, 307, 308, 309, 310] (by decide +kernel) (by decide +kernel)
set_option maxRecDepth 20000 in
theorem gL_law_X2_count : GoodIn wsL_law (wsV RL 58 RX2 yX2_count wsX2_count) := goodIn_app (goodIn_of _ (by decide +kernel)) ggL_law_X2_count
theorem dL_law_0 : decode cL_law 0 = .ok (.new 7, 3) := by decide +kernel
theorem dL_law_3 : decode cL_law 3 = .ok (.dup, 1) := by decide +kernel
theorem dL_law_4 : decode cL_law 4 = .ok (.invokespecial 9, 3) := by decide +kernel
theorem dL_law_7 : decode cL_law 7 = .ok (.astore_n 1, 1) := by decide +kernel
theorem dL_law_8 : decode cL_law 8 = .ok (.new 10, 3) := by decide +kernel
theorem dL_law_11 : decode cL_law 11 = .ok (.dup, 1) := by decide +kernel
theorem dL_law_12 : decode cL_law 12 = .ok (.invokespecial 12, 3) := by decide +kernel
theorem dL_law_15 : decode cL_law 15 = .ok (.astore_n 2, 1) := by decide +kernel
theorem dL_law_16 : decode cL_law 16 = .ok (.iconst 0, 1) := by decide +kernel
theorem dL_law_17 : decode cL_law 17 = .ok (.istore_n 3, 1) := by decide +kernel
theorem dL_law_18 : decode cL_law 18 = .ok (.iload_n 3, 1) := by decide +kernel
theorem dL_law_19 : decode cL_law 19 = .ok (.aload_n 0, 1) := by decide +kernel
theorem dL_law_20 : decode cL_law 20 = .ok (.arraylength, 1) := by decide +kernel
theorem dL_law_21 : decode cL_law 21 = .ok (.iconst 4, 1) := by decide +kernel
theorem dL_law_22 : decode cL_law 22 = .ok (.isub, 1) := by decide +kernel
theorem dL_law_23 : decode cL_law 23 = .ok (.if_icmp .gt 401, 3) := by decide +kernel
theorem dL_law_26 : decode cL_law 26 = .ok (.aload_n 0, 1) := by decide +kernel
theorem dL_law_27 : decode cL_law 27 = .ok (.iload_n 3, 1) := by decide +kernel
theorem dL_law_28 : decode cL_law 28 = .ok (.iaload, 1) := by decide +kernel
theorem dL_law_29 : decode cL_law 29 = .ok (.bipush 15, 2) := by decide +kernel
theorem dL_law_31 : decode cL_law 31 = .ok (.iand, 1) := by decide +kernel
theorem dL_law_32 : decode cL_law 32 = .ok (.tableswitch 386 0 9 #[56, 99, 132, 165, 188, 231, 284, 317, 340, 363], 56) := by decide +kernel
theorem dL_law_88 : decode cL_law 88 = .ok (.aload_n 1, 1) := by decide +kernel
theorem dL_law_89 : decode cL_law 89 = .ok (.aload_n 0, 1) := by decide +kernel
theorem dL_law_90 : decode cL_law 90 = .ok (.iload_n 3, 1) := by decide +kernel
theorem dL_law_91 : decode cL_law 91 = .ok (.iconst 1, 1) := by decide +kernel
theorem dL_law_92 : decode cL_law 92 = .ok (.iadd, 1) := by decide +kernel
theorem dL_law_93 : decode cL_law 93 = .ok (.iaload, 1) := by decide +kernel
theorem dL_law_94 : decode cL_law 94 = .ok (.aload_n 0, 1) := by decide +kernel
theorem dL_law_95 : decode cL_law 95 = .ok (.iload_n 3, 1) := by decide +kernel
theorem dL_law_96 : decode cL_law 96 = .ok (.iconst 2, 1) := by decide +kernel
theorem dL_law_97 : decode cL_law 97 = .ok (.iadd, 1) := by decide +kernel
theorem dL_law_98 : decode cL_law 98 = .ok (.iaload, 1) := by decide +kernel
theorem dL_law_99 : decode cL_law 99 = .ok (.aload_n 0, 1) := by decide +kernel
theorem dL_law_100 : decode cL_law 100 = .ok (.iload_n 3, 1) := by decide +kernel
theorem dL_law_101 : decode cL_law 101 = .ok (.iconst 3, 1) := by decide +kernel
theorem dL_law_102 : decode cL_law 102 = .ok (.iadd, 1) := by decide +kernel
theorem dL_law_103 : decode cL_law 103 = .ok (.iaload, 1) := by decide +kernel
theorem dL_law_104 : decode cL_law 104 = .ok (.invokevirtual 13, 3) := by decide +kernel
theorem dL_law_107 : decode cL_law 107 = .ok (.aload_n 2, 1) := by decide +kernel
theorem dL_law_108 : decode cL_law 108 = .ok (.aload_n 0, 1) := by decide +kernel
theorem dL_law_109 : decode cL_law 109 = .ok (.iload_n 3, 1) := by decide +kernel
theorem dL_law_110 : decode cL_law 110 = .ok (.iconst 1, 1) := by decide +kernel
theorem dL_law_111 : decode cL_law 111 = .ok (.iadd, 1) := by decide +kernel
theorem dL_law_112 : decode cL_law 112 = .ok (.iaload, 1) := by decide +kernel
theorem dL_law_113 : decode cL_law 113 = .ok (.aload_n 0, 1) := by decide +kernel
theorem dL_law_114 : decode cL_law 114 = .ok (.iload_n 3, 1) := by decide +kernel
theorem dL_law_115 : decode cL_law 115 = .ok (.iconst 2, 1) := by decide +kernel
theorem dL_law_116 : decode cL_law 116 = .ok (.iadd, 1) := by decide +kernel
theorem dL_law_117 : decode cL_law 117 = .ok (.iaload, 1) := by decide +kernel
theorem dL_law_118 : decode cL_law 118 = .ok (.aload_n 0, 1) := by decide +kernel
theorem dL_law_119 : decode cL_law 119 = .ok (.iload_n 3, 1) := by decide +kernel
theorem dL_law_120 : decode cL_law 120 = .ok (.iconst 3, 1) := by decide +kernel
theorem dL_law_121 : decode cL_law 121 = .ok (.iadd, 1) := by decide +kernel
theorem dL_law_122 : decode cL_law 122 = .ok (.iaload, 1) := by decide +kernel
theorem dL_law_123 : decode cL_law 123 = .ok (.invokevirtual 17, 3) := by decide +kernel
theorem dL_law_126 : decode cL_law 126 = .ok (.if_icmp .eq 292, 3) := by decide +kernel
theorem dL_law_129 : decode cL_law 129 = .ok (.iconst 0, 1) := by decide +kernel
theorem dL_law_130 : decode cL_law 130 = .ok (.ireturn, 1) := by decide +kernel
theorem dL_law_131 : decode cL_law 131 = .ok (.aload_n 1, 1) := by decide +kernel
theorem dL_law_132 : decode cL_law 132 = .ok (.aload_n 0, 1) := by decide +kernel
theorem dL_law_133 : decode cL_law 133 = .ok (.iload_n 3, 1) := by decide +kernel
theorem dL_law_134 : decode cL_law 134 = .ok (.iconst 1, 1) := by decide +kernel
theorem dL_law_135 : decode cL_law 135 = .ok (.iadd, 1) := by decide +kernel
theorem dL_law_136 : decode cL_law 136 = .ok (.iaload, 1) := by decide +kernel
theorem dL_law_137 : decode cL_law 137 = .ok (.aload_n 0, 1) := by decide +kernel
theorem dL_law_138 : decode cL_law 138 = .ok (.iload_n 3, 1) := by decide +kernel
theorem dL_law_139 : decode cL_law 139 = .ok (.iconst 2, 1) := by decide +kernel
theorem dL_law_140 : decode cL_law 140 = .ok (.iadd, 1) := by decide +kernel
theorem dL_law_141 : decode cL_law 141 = .ok (.iaload, 1) := by decide +kernel
theorem dL_law_142 : decode cL_law 142 = .ok (.invokevirtual 18, 3) := by decide +kernel
theorem dL_law_145 : decode cL_law 145 = .ok (.aload_n 2, 1) := by decide +kernel
theorem dL_law_146 : decode cL_law 146 = .ok (.aload_n 0, 1) := by decide +kernel
theorem dL_law_147 : decode cL_law 147 = .ok (.iload_n 3, 1) := by decide +kernel
theorem dL_law_148 : decode cL_law 148 = .ok (.iconst 1, 1) := by decide +kernel
theorem dL_law_149 : decode cL_law 149 = .ok (.iadd, 1) := by decide +kernel
theorem dL_law_150 : decode cL_law 150 = .ok (.iaload, 1) := by decide +kernel
theorem dL_law_151 : decode cL_law 151 = .ok (.aload_n 0, 1) := by decide +kernel
theorem dL_law_152 : decode cL_law 152 = .ok (.iload_n 3, 1) := by decide +kernel
theorem dL_law_153 : decode cL_law 153 = .ok (.iconst 2, 1) := by decide +kernel
theorem dL_law_154 : decode cL_law 154 = .ok (.iadd, 1) := by decide +kernel
theorem dL_law_155 : decode cL_law 155 = .ok (.iaload, 1) := by decide +kernel
theorem dL_law_156 : decode cL_law 156 = .ok (.invokevirtual 22, 3) := by decide +kernel
theorem dL_law_159 : decode cL_law 159 = .ok (.if_icmp .eq 259, 3) := by decide +kernel
theorem dL_law_162 : decode cL_law 162 = .ok (.iconst 0, 1) := by decide +kernel
theorem dL_law_163 : decode cL_law 163 = .ok (.ireturn, 1) := by decide +kernel
theorem dL_law_164 : decode cL_law 164 = .ok (.aload_n 1, 1) := by decide +kernel
theorem dL_law_165 : decode cL_law 165 = .ok (.aload_n 0, 1) := by decide +kernel
theorem dL_law_166 : decode cL_law 166 = .ok (.iload_n 3, 1) := by decide +kernel
theorem dL_law_167 : decode cL_law 167 = .ok (.iconst 1, 1) := by decide +kernel
theorem dL_law_168 : decode cL_law 168 = .ok (.iadd, 1) := by decide +kernel
theorem dL_law_169 : decode cL_law 169 = .ok (.iaload, 1) := by decide +kernel
theorem dL_law_170 : decode cL_law 170 = .ok (.aload_n 0, 1) := by decide +kernel
theorem dL_law_171 : decode cL_law 171 = .ok (.iload_n 3, 1) := by decide +kernel
theorem dL_law_172 : decode cL_law 172 = .ok (.iconst 2, 1) := by decide +kernel
theorem dL_law_173 : decode cL_law 173 = .ok (.iadd, 1) := by decide +kernel
theorem dL_law_174 : decode cL_law 174 = .ok (.iaload, 1) := by decide +kernel
theorem dL_law_175 : decode cL_law 175 = .ok (.invokevirtual 23, 3) := by decide +kernel
theorem dL_law_178 : decode cL_law 178 = .ok (.aload_n 2, 1) := by decide +kernel
theorem dL_law_179 : decode cL_law 179 = .ok (.aload_n 0, 1) := by decide +kernel
theorem dL_law_180 : decode cL_law 180 = .ok (.iload_n 3, 1) := by decide +kernel
theorem dL_law_181 : decode cL_law 181 = .ok (.iconst 1, 1) := by decide +kernel
theorem dL_law_182 : decode cL_law 182 = .ok (.iadd, 1) := by decide +kernel
theorem dL_law_183 : decode cL_law 183 = .ok (.iaload, 1) := by decide +kernel
theorem dL_law_184 : decode cL_law 184 = .ok (.aload_n 0, 1) := by decide +kernel
theorem dL_law_185 : decode cL_law 185 = .ok (.iload_n 3, 1) := by decide +kernel
theorem dL_law_186 : decode cL_law 186 = .ok (.iconst 2, 1) := by decide +kernel
theorem dL_law_187 : decode cL_law 187 = .ok (.iadd, 1) := by decide +kernel
theorem dL_law_188 : decode cL_law 188 = .ok (.iaload, 1) := by decide +kernel
theorem dL_law_189 : decode cL_law 189 = .ok (.invokevirtual 26, 3) := by decide +kernel
theorem dL_law_192 : decode cL_law 192 = .ok (.if_icmp .eq 226, 3) := by decide +kernel
theorem dL_law_195 : decode cL_law 195 = .ok (.iconst 0, 1) := by decide +kernel
theorem dL_law_196 : decode cL_law 196 = .ok (.ireturn, 1) := by decide +kernel
theorem dL_law_197 : decode cL_law 197 = .ok (.aload_n 1, 1) := by decide +kernel
theorem dL_law_198 : decode cL_law 198 = .ok (.aload_n 0, 1) := by decide +kernel
theorem dL_law_199 : decode cL_law 199 = .ok (.iload_n 3, 1) := by decide +kernel
theorem dL_law_200 : decode cL_law 200 = .ok (.iconst 1, 1) := by decide +kernel
theorem dL_law_201 : decode cL_law 201 = .ok (.iadd, 1) := by decide +kernel
theorem dL_law_202 : decode cL_law 202 = .ok (.iaload, 1) := by decide +kernel
theorem dL_law_203 : decode cL_law 203 = .ok (.invokevirtual 27, 3) := by decide +kernel
theorem dL_law_206 : decode cL_law 206 = .ok (.aload_n 2, 1) := by decide +kernel
theorem dL_law_207 : decode cL_law 207 = .ok (.aload_n 0, 1) := by decide +kernel
theorem dL_law_208 : decode cL_law 208 = .ok (.iload_n 3, 1) := by decide +kernel
theorem dL_law_209 : decode cL_law 209 = .ok (.iconst 1, 1) := by decide +kernel
theorem dL_law_210 : decode cL_law 210 = .ok (.iadd, 1) := by decide +kernel
theorem dL_law_211 : decode cL_law 211 = .ok (.iaload, 1) := by decide +kernel
theorem dL_law_212 : decode cL_law 212 = .ok (.invokevirtual 31, 3) := by decide +kernel
theorem dL_law_215 : decode cL_law 215 = .ok (.if_icmp .eq 203, 3) := by decide +kernel
theorem dL_law_218 : decode cL_law 218 = .ok (.iconst 0, 1) := by decide +kernel
theorem dL_law_219 : decode cL_law 219 = .ok (.ireturn, 1) := by decide +kernel
theorem dL_law_220 : decode cL_law 220 = .ok (.aload_n 1, 1) := by decide +kernel
theorem dL_law_221 : decode cL_law 221 = .ok (.aload_n 0, 1) := by decide +kernel
theorem dL_law_222 : decode cL_law 222 = .ok (.iload_n 3, 1) := by decide +kernel
theorem dL_law_223 : decode cL_law 223 = .ok (.iconst 1, 1) := by decide +kernel
theorem dL_law_224 : decode cL_law 224 = .ok (.iadd, 1) := by decide +kernel
theorem dL_law_225 : decode cL_law 225 = .ok (.iaload, 1) := by decide +kernel
theorem dL_law_226 : decode cL_law 226 = .ok (.aload_n 0, 1) := by decide +kernel
theorem dL_law_227 : decode cL_law 227 = .ok (.iload_n 3, 1) := by decide +kernel
theorem dL_law_228 : decode cL_law 228 = .ok (.iconst 2, 1) := by decide +kernel
theorem dL_law_229 : decode cL_law 229 = .ok (.iadd, 1) := by decide +kernel
theorem dL_law_230 : decode cL_law 230 = .ok (.iaload, 1) := by decide +kernel
theorem dL_law_231 : decode cL_law 231 = .ok (.aload_n 0, 1) := by decide +kernel
theorem dL_law_232 : decode cL_law 232 = .ok (.iload_n 3, 1) := by decide +kernel
theorem dL_law_233 : decode cL_law 233 = .ok (.iconst 3, 1) := by decide +kernel
theorem dL_law_234 : decode cL_law 234 = .ok (.iadd, 1) := by decide +kernel
theorem dL_law_235 : decode cL_law 235 = .ok (.iaload, 1) := by decide +kernel
theorem dL_law_236 : decode cL_law 236 = .ok (.invokevirtual 32, 3) := by decide +kernel
theorem dL_law_239 : decode cL_law 239 = .ok (.aload_n 2, 1) := by decide +kernel
theorem dL_law_240 : decode cL_law 240 = .ok (.aload_n 0, 1) := by decide +kernel
theorem dL_law_241 : decode cL_law 241 = .ok (.iload_n 3, 1) := by decide +kernel
theorem dL_law_242 : decode cL_law 242 = .ok (.iconst 1, 1) := by decide +kernel
theorem dL_law_243 : decode cL_law 243 = .ok (.iadd, 1) := by decide +kernel
theorem dL_law_244 : decode cL_law 244 = .ok (.iaload, 1) := by decide +kernel
theorem dL_law_245 : decode cL_law 245 = .ok (.aload_n 0, 1) := by decide +kernel
theorem dL_law_246 : decode cL_law 246 = .ok (.iload_n 3, 1) := by decide +kernel
theorem dL_law_247 : decode cL_law 247 = .ok (.iconst 2, 1) := by decide +kernel
theorem dL_law_248 : decode cL_law 248 = .ok (.iadd, 1) := by decide +kernel
theorem dL_law_249 : decode cL_law 249 = .ok (.iaload, 1) := by decide +kernel
theorem dL_law_250 : decode cL_law 250 = .ok (.aload_n 0, 1) := by decide +kernel
theorem dL_law_251 : decode cL_law 251 = .ok (.iload_n 3, 1) := by decide +kernel
theorem dL_law_252 : decode cL_law 252 = .ok (.iconst 3, 1) := by decide +kernel
theorem dL_law_253 : decode cL_law 253 = .ok (.iadd, 1) := by decide +kernel
theorem dL_law_254 : decode cL_law 254 = .ok (.iaload, 1) := by decide +kernel
theorem dL_law_255 : decode cL_law 255 = .ok (.invokevirtual 35, 3) := by decide +kernel
theorem dL_law_258 : decode cL_law 258 = .ok (.if_icmp .eq 160, 3) := by decide +kernel
theorem dL_law_261 : decode cL_law 261 = .ok (.iconst 0, 1) := by decide +kernel
theorem dL_law_262 : decode cL_law 262 = .ok (.ireturn, 1) := by decide +kernel
theorem dL_law_263 : decode cL_law 263 = .ok (.aload_n 1, 1) := by decide +kernel
theorem dL_law_264 : decode cL_law 264 = .ok (.aload_n 0, 1) := by decide +kernel
theorem dL_law_265 : decode cL_law 265 = .ok (.iload_n 3, 1) := by decide +kernel
theorem dL_law_266 : decode cL_law 266 = .ok (.iconst 1, 1) := by decide +kernel
theorem dL_law_267 : decode cL_law 267 = .ok (.iadd, 1) := by decide +kernel
theorem dL_law_268 : decode cL_law 268 = .ok (.iaload, 1) := by decide +kernel
theorem dL_law_269 : decode cL_law 269 = .ok (.i2l, 1) := by decide +kernel
theorem dL_law_270 : decode cL_law 270 = .ok (.bipush 32, 2) := by decide +kernel
theorem dL_law_272 : decode cL_law 272 = .ok (.lshl, 1) := by decide +kernel
theorem dL_law_273 : decode cL_law 273 = .ok (.aload_n 0, 1) := by decide +kernel
theorem dL_law_274 : decode cL_law 274 = .ok (.iload_n 3, 1) := by decide +kernel
theorem dL_law_275 : decode cL_law 275 = .ok (.iconst 2, 1) := by decide +kernel
theorem dL_law_276 : decode cL_law 276 = .ok (.iadd, 1) := by decide +kernel
theorem dL_law_277 : decode cL_law 277 = .ok (.iaload, 1) := by decide +kernel
theorem dL_law_278 : decode cL_law 278 = .ok (.i2l, 1) := by decide +kernel
theorem dL_law_279 : decode cL_law 279 = .ok (.ldc2_w 36, 3) := by decide +kernel
theorem dL_law_282 : decode cL_law 282 = .ok (.land, 1) := by decide +kernel
theorem dL_law_283 : decode cL_law 283 = .ok (.lor, 1) := by decide +kernel
theorem dL_law_284 : decode cL_law 284 = .ok (.invokevirtual 38, 3) := by decide +kernel
theorem dL_law_287 : decode cL_law 287 = .ok (.aload_n 2, 1) := by decide +kernel
theorem dL_law_288 : decode cL_law 288 = .ok (.aload_n 0, 1) := by decide +kernel
theorem dL_law_289 : decode cL_law 289 = .ok (.iload_n 3, 1) := by decide +kernel
theorem dL_law_290 : decode cL_law 290 = .ok (.iconst 1, 1) := by decide +kernel
theorem dL_law_291 : decode cL_law 291 = .ok (.iadd, 1) := by decide +kernel
theorem dL_law_292 : decode cL_law 292 = .ok (.iaload, 1) := by decide +kernel
theorem dL_law_293 : decode cL_law 293 = .ok (.i2l, 1) := by decide +kernel
theorem dL_law_294 : decode cL_law 294 = .ok (.bipush 32, 2) := by decide +kernel
theorem dL_law_296 : decode cL_law 296 = .ok (.lshl, 1) := by decide +kernel
theorem dL_law_297 : decode cL_law 297 = .ok (.aload_n 0, 1) := by decide +kernel
theorem dL_law_298 : decode cL_law 298 = .ok (.iload_n 3, 1) := by decide +kernel
theorem dL_law_299 : decode cL_law 299 = .ok (.iconst 2, 1) := by decide +kernel
theorem dL_law_300 : decode cL_law 300 = .ok (.iadd, 1) := by decide +kernel
theorem dL_law_301 : decode cL_law 301 = .ok (.iaload, 1) := by decide +kernel
theorem dL_law_302 : decode cL_law 302 = .ok (.i2l, 1) := by decide +kernel
theorem dL_law_303 : decode cL_law 303 = .ok (.ldc2_w 36, 3) := by decide +kernel
theorem dL_law_306 : decode cL_law 306 = .ok (.land, 1) := by decide +kernel
theorem dL_law_307 : decode cL_law 307 = .ok (.lor, 1) := by decide +kernel
theorem dL_law_308 : decode cL_law 308 = .ok (.invokevirtual 42, 3) := by decide +kernel
theorem dL_law_311 : decode cL_law 311 = .ok (.if_icmp .eq 107, 3) := by decide +kernel
theorem dL_law_314 : decode cL_law 314 = .ok (.iconst 0, 1) := by decide +kernel
theorem dL_law_315 : decode cL_law 315 = .ok (.ireturn, 1) := by decide +kernel
theorem dL_law_316 : decode cL_law 316 = .ok (.aload_n 1, 1) := by decide +kernel
theorem dL_law_317 : decode cL_law 317 = .ok (.aload_n 0, 1) := by decide +kernel
theorem dL_law_318 : decode cL_law 318 = .ok (.iload_n 3, 1) := by decide +kernel
theorem dL_law_319 : decode cL_law 319 = .ok (.iconst 1, 1) := by decide +kernel
theorem dL_law_320 : decode cL_law 320 = .ok (.iadd, 1) := by decide +kernel
theorem dL_law_321 : decode cL_law 321 = .ok (.iaload, 1) := by decide +kernel
theorem dL_law_322 : decode cL_law 322 = .ok (.aload_n 0, 1) := by decide +kernel
theorem dL_law_323 : decode cL_law 323 = .ok (.iload_n 3, 1) := by decide +kernel
theorem dL_law_324 : decode cL_law 324 = .ok (.iconst 2, 1) := by decide +kernel
theorem dL_law_325 : decode cL_law 325 = .ok (.iadd, 1) := by decide +kernel
theorem dL_law_326 : decode cL_law 326 = .ok (.iaload, 1) := by decide +kernel
theorem dL_law_327 : decode cL_law 327 = .ok (.invokevirtual 43, 3) := by decide +kernel
theorem dL_law_330 : decode cL_law 330 = .ok (.aload_n 2, 1) := by decide +kernel
theorem dL_law_331 : decode cL_law 331 = .ok (.aload_n 0, 1) := by decide +kernel
theorem dL_law_332 : decode cL_law 332 = .ok (.iload_n 3, 1) := by decide +kernel
theorem dL_law_333 : decode cL_law 333 = .ok (.iconst 1, 1) := by decide +kernel
theorem dL_law_334 : decode cL_law 334 = .ok (.iadd, 1) := by decide +kernel
theorem dL_law_335 : decode cL_law 335 = .ok (.iaload, 1) := by decide +kernel
theorem dL_law_336 : decode cL_law 336 = .ok (.aload_n 0, 1) := by decide +kernel
theorem dL_law_337 : decode cL_law 337 = .ok (.iload_n 3, 1) := by decide +kernel
theorem dL_law_338 : decode cL_law 338 = .ok (.iconst 2, 1) := by decide +kernel
theorem dL_law_339 : decode cL_law 339 = .ok (.iadd, 1) := by decide +kernel
theorem dL_law_340 : decode cL_law 340 = .ok (.iaload, 1) := by decide +kernel
theorem dL_law_341 : decode cL_law 341 = .ok (.invokevirtual 46, 3) := by decide +kernel
theorem dL_law_344 : decode cL_law 344 = .ok (.if_icmp .eq 74, 3) := by decide +kernel
theorem dL_law_347 : decode cL_law 347 = .ok (.iconst 0, 1) := by decide +kernel
theorem dL_law_348 : decode cL_law 348 = .ok (.ireturn, 1) := by decide +kernel
theorem dL_law_349 : decode cL_law 349 = .ok (.aload_n 1, 1) := by decide +kernel
theorem dL_law_350 : decode cL_law 350 = .ok (.aload_n 0, 1) := by decide +kernel
theorem dL_law_351 : decode cL_law 351 = .ok (.iload_n 3, 1) := by decide +kernel
theorem dL_law_352 : decode cL_law 352 = .ok (.iconst 1, 1) := by decide +kernel
theorem dL_law_353 : decode cL_law 353 = .ok (.iadd, 1) := by decide +kernel
theorem dL_law_354 : decode cL_law 354 = .ok (.iaload, 1) := by decide +kernel
theorem dL_law_355 : decode cL_law 355 = .ok (.invokevirtual 47, 3) := by decide +kernel
theorem dL_law_358 : decode cL_law 358 = .ok (.aload_n 2, 1) := by decide +kernel
theorem dL_law_359 : decode cL_law 359 = .ok (.aload_n 0, 1) := by decide +kernel
theorem dL_law_360 : decode cL_law 360 = .ok (.iload_n 3, 1) := by decide +kernel
theorem dL_law_361 : decode cL_law 361 = .ok (.iconst 1, 1) := by decide +kernel
theorem dL_law_362 : decode cL_law 362 = .ok (.iadd, 1) := by decide +kernel
theorem dL_law_363 : decode cL_law 363 = .ok (.iaload, 1) := by decide +kernel
theorem dL_law_364 : decode cL_law 364 = .ok (.invokevirtual 50, 3) := by decide +kernel
theorem dL_law_367 : decode cL_law 367 = .ok (.if_icmp .eq 51, 3) := by decide +kernel
theorem dL_law_370 : decode cL_law 370 = .ok (.iconst 0, 1) := by decide +kernel
theorem dL_law_371 : decode cL_law 371 = .ok (.ireturn, 1) := by decide +kernel
theorem dL_law_372 : decode cL_law 372 = .ok (.aload_n 1, 1) := by decide +kernel
theorem dL_law_373 : decode cL_law 373 = .ok (.aload_n 0, 1) := by decide +kernel
theorem dL_law_374 : decode cL_law 374 = .ok (.iload_n 3, 1) := by decide +kernel
theorem dL_law_375 : decode cL_law 375 = .ok (.iconst 1, 1) := by decide +kernel
theorem dL_law_376 : decode cL_law 376 = .ok (.iadd, 1) := by decide +kernel
theorem dL_law_377 : decode cL_law 377 = .ok (.iaload, 1) := by decide +kernel
theorem dL_law_378 : decode cL_law 378 = .ok (.invokevirtual 51, 3) := by decide +kernel
theorem dL_law_381 : decode cL_law 381 = .ok (.aload_n 2, 1) := by decide +kernel
theorem dL_law_382 : decode cL_law 382 = .ok (.aload_n 0, 1) := by decide +kernel
theorem dL_law_383 : decode cL_law 383 = .ok (.iload_n 3, 1) := by decide +kernel
theorem dL_law_384 : decode cL_law 384 = .ok (.iconst 1, 1) := by decide +kernel
theorem dL_law_385 : decode cL_law 385 = .ok (.iadd, 1) := by decide +kernel
theorem dL_law_386 : decode cL_law 386 = .ok (.iaload, 1) := by decide +kernel
theorem dL_law_387 : decode cL_law 387 = .ok (.invokevirtual 54, 3) := by decide +kernel
theorem dL_law_390 : decode cL_law 390 = .ok (.if_icmp .eq 28, 3) := by decide +kernel
theorem dL_law_393 : decode cL_law 393 = .ok (.iconst 0, 1) := by decide +kernel
theorem dL_law_394 : decode cL_law 394 = .ok (.ireturn, 1) := by decide +kernel
theorem dL_law_395 : decode cL_law 395 = .ok (.aload_n 1, 1) := by decide +kernel
theorem dL_law_396 : decode cL_law 396 = .ok (.aload_n 0, 1) := by decide +kernel
theorem dL_law_397 : decode cL_law 397 = .ok (.iload_n 3, 1) := by decide +kernel
theorem dL_law_398 : decode cL_law 398 = .ok (.iconst 1, 1) := by decide +kernel
theorem dL_law_399 : decode cL_law 399 = .ok (.iadd, 1) := by decide +kernel
theorem dL_law_400 : decode cL_law 400 = .ok (.iaload, 1) := by decide +kernel
theorem dL_law_401 : decode cL_law 401 = .ok (.invokevirtual 55, 3) := by decide +kernel
theorem dL_law_404 : decode cL_law 404 = .ok (.aload_n 2, 1) := by decide +kernel
theorem dL_law_405 : decode cL_law 405 = .ok (.aload_n 0, 1) := by decide +kernel
theorem dL_law_406 : decode cL_law 406 = .ok (.iload_n 3, 1) := by decide +kernel
theorem dL_law_407 : decode cL_law 407 = .ok (.iconst 1, 1) := by decide +kernel
theorem dL_law_408 : decode cL_law 408 = .ok (.iadd, 1) := by decide +kernel
theorem dL_law_409 : decode cL_law 409 = .ok (.iaload, 1) := by decide +kernel
theorem dL_law_410 : decode cL_law 410 = .ok (.invokevirtual 58, 3) := by decide +kernel
theorem dL_law_413 : decode cL_law 413 = .ok (.if_icmp .eq 5, 3) := by decide +kernel
theorem dL_law_416 : decode cL_law 416 = .ok (.iconst 0, 1) := by decide +kernel
theorem dL_law_417 : decode cL_law 417 = .ok (.ireturn, 1) := by decide +kernel
theorem dL_law_418 : decode cL_law 418 = .ok (.iinc 3 4, 3) := by decide +kernel
theorem dL_law_421 : decode cL_law 421 = .ok (.goto (-403), 3) := by decide +kernel
theorem dL_law_424 : decode cL_law 424 = .ok (.iconst 1, 1) := by decide +kernel
theorem dL_law_425 : decode cL_law 425 = .ok (.ireturn, 1) := by decide +kernel
abbrev vwCl : List vw_C := [(RX0, TX0, 9), (RX1, TX1, 12), (RX2, TX2, 20)]
end
section
/-! GENERIC ROWS OVER ONE WORLD: contracts' starts and ends, calls, fields, rows -/
def gNw (U : State) : Prop := va_Nw (.methodLinkNest RX1 42 yX0_init "GateHalls") U ∧ va_Nw (.fieldLinkNest RX1 83 "GateHalls$Hall" "gifts" "I" "GateHalls") U ∧ va_Nw (.fieldLinkNest RX1 68 "GateHalls$Hall" "asks" "I" "GateHalls") U ∧ va_Nw (.fieldLinkNest RX1 136 "GateHalls$Hall" "inside" "I" "GateHalls") U ∧ va_Nw (.fieldLinkNest RX1 133 "GateHalls$Hall" "paid" "I" "GateHalls") U ∧ va_Nw (.methodLinkNest RX1 114 yX0_enter "GateHalls") U ∧ va_Nw (.methodLinkNest RX1 120 yX0_mark "GateHalls") U ∧ va_Nw (.methodLinkNest RX1 126 yX0_guardIsInTheWay "GateHalls") U ∧ va_Nw (.methodLinkNest RX1 130 yX0_charge "GateHalls") U ∧ va_Nw (.methodLinkNest RX1 79 yX0_fact "GateHalls") U
theorem gNw.warm {s U : State} (hW : s.WarmedH U.vm) (h : gNw s) : gNw U := by
  obtain ⟨h1, h2, h3, h4, h5, h6, h7, h8, h9, h10⟩ := h
  exact ⟨h1.warmM hW, h2.warmF hW, h3.warmF hW, h4.warmF hW, h5.warmF hW, h6.warmM hW, h7.warmM hW, h8.warmM hW, h9.warmM hW, h10.warmM hW⟩
theorem gNw.same {u U : State} (e : u.vm = U.vm) (h : gNw u) : gNw U := by
  obtain ⟨h1, h2, h3, h4, h5, h6, h7, h8, h9, h10⟩ := h
  exact ⟨h1.same rfl e, h2.same rfl e, h3.same rfl e, h4.same rfl e, h5.same rfl e, h6.same rfl e, h7.same rfl e, h8.same rfl e, h9.same rfl e, h10.same rfl e⟩
def gPre (D : va_G) (w : va_W) (tys : List (ClassId × FieldType)) (sz : Nat) (U : State) : Prop := U.heap.size = sz ∧ va_P D vwCl w U.heap ∧ va_K D vwCl tys U ∧ va_D (fun _ => True) w ∧ gNw U
def gPost (D : va_G) (A : Nat → Prop) (w : va_W) (t : State) : Prop := va_P D vwCl w t.heap ∧ va_D A w
def InW (D : va_G) (A : Nat → Prop) (H0 : Heap) (w : va_W) (H : Heap) (locs : List Loc) : Prop := va_P D vwCl w H ∧ va_D A w ∧ va_S A H0 H locs
theorem gPre_blind {av : List Value} {D : va_G} {w : va_W} {tys : List (ClassId × FieldType)} {sz : Nat} : FrameBlind (va_Pc av (gPre D w tys sz)) := fun a U g mk q => by
  obtain ⟨q0, q1, qP, qK, qD, qN⟩ := q
  exact ⟨q0, q1, qP, va_K.moved (u := U) (U := U.calling g mk a) (Vm.Alike.refl U.vm) qK, qD, gNw.same rfl qN⟩
theorem gPre_ok {av : List Value} {D : va_G} {w : va_W} {tys : List (ClassId × FieldType)} {s : State} {A : Nat → Prop} {H0 H : Heap} {locs : List Loc} (hI : InW D A H0 w H locs) (hK : va_K D vwCl tys s) (hN : gNw s) : ∀ U : State, U.heap = H → s.WarmedH U.vm → va_Pc av (gPre D w tys H.size) av.toArray U := fun U hU hW => ⟨rfl, by rw [hU], by rw [hU]; exact hI.1, va_K.moved hW.alike hK, hI.2.1.weaken (fun _ _ _ _ => trivial), hN.warm hW⟩
theorem gFree {D : va_G} {w : va_W} {A : Nat → Prop} {H0 H : Heap} {locs : List Loc} (hI : InW D A H0 w H locs) (hA : ∀ q, H0.size ≤ q → A q) : ∀ q, va_A w H.size q → A q := by
  intro q h
  rcases h with ⟨k, e, h⟩ | h
  · exact hI.2.1.2 k (q, e) h
  · exact hA q (Nat.le_trans hI.2.2.1 h)
theorem gRecv {D : va_G} {w : va_W} {tys : List (ClassId × FieldType)} {s : State} {A : Nat → Prop} {H0 H : Heap} {locs : List Loc} (hI : InW D A H0 w H locs) (hK : va_K D vwCl tys s) {ci a q0 : Nat} {q : vw_C} {fs : List Value} (hc : vwCl[ci]? = some q) (he : w[q0]? = some (a, .inr (ci, fs))) : ∃ cell : Cell, H[a]? = some cell ∧ cell.vm.isStatics = false ∧ s.vm.findClass q.1 = some cell.cls := va_recv hK hI.1 hc he
theorem gEnter {l : Launch} {y : MethodName} {ws ws' : List Cond} {rm : Room} {cc : ByteArray} {maxL mc ms : Nat} {ret : Option FieldType} {D : va_G} {w : va_W} {tys : List (ClassId × FieldType)} {sz : Nat} {av : List Value} {QF : (Nat → Prop) → Array Value → State → Outcome → State → Prop} (hy : plainName y.cls = true) (hw : ws = Cond.code y cc maxL ret :: ws') (hn : (lg_sl av).length ≤ maxL)
    (body : ∀ (p : Program) (e : Env) (s : State) (m : MethodId) (below : List Frame) (meth : Method) (c : Code) (A : Nat → Prop) (ls : Array Slot), CallFix p m c cc maxL s av.toArray ws y.cls → meth.sig.returnType = ret → meth.locks = false → meth.name = y.name → va_K D vwCl tys s → gNw s → (∀ q, s.heap.size ≤ q → A q) → InW D A s.heap w s.heap [] → lv_has ls maxL (lv_args 0 av) → W p l e rm s m av.toArray below meth c s.heap [] 0 0 (MQ below (QF A) av.toArray s mc ms A) (F0 m 0 ls [])) :
    Met l y ws rm (va_Pc av (gPre D w tys sz)) (QF (va_A w sz)) mc ms (va_A w sz) := by
  refine Met.ofW hy hw ?_
  intro p e s m args below meth c s₁ B hml hv
  obtain ⟨rfl, hsz, hP, hK, hD0, hN⟩ := hv
  subst hsz
  have hl := lv_entry av (n := maxL) hn
  rw [lg_entry_eq]
  exact body p e s m below meth c _ _ ⟨B.exec, B.bytes, hml, findClass_of_methodNamed B.named, atoms_spec (ws := ws) B.pre⟩ B.returns B.notSynchronized (name_of_methodNamed B.named B.method).1 hK hN (fun q h => Or.inr h) ⟨hP, hD0.self, va_S.rf⟩ hl
theorem gEnterS {l : Launch} {y : MethodName} {ws ws' : List Cond} {rm : Room} {cc : ByteArray} {maxL : Nat} {ret : Option FieldType} {av : List Value} {Qc : Array Value → State → Outcome → State → Prop} (hy : plainName y.cls = true) (hw : ws = Cond.code y cc maxL ret :: ws') (hn : (lg_sl av).length ≤ maxL)
    (body : ∀ (p : Program) (e : Env) (s : State) (m : MethodId) (below : List Frame) (meth : Method) (c : Code) (ls : Array Slot), CallFix p m c cc maxL s av.toArray ws y.cls → meth.sig.returnType = ret → meth.locks = false → lv_has ls maxL (lv_args 0 av) → W p l e rm s m av.toArray below meth c s.heap [] 0 0 (MQ below Qc av.toArray s 0 0 (fun _ => False)) (F0 m 0 ls [])) :
    Met l y ws rm (fun v _ => v = av.toArray) Qc 0 0 (fun _ => False) := by
  refine Met.ofW hy hw ?_
  intro p e s m args below meth c s₁ B hml hv
  subst hv
  have hl := lv_entry av (n := maxL) hn
  rw [lg_entry_eq]
  exact body p e s m below meth c _ ⟨B.exec, B.bytes, hml, findClass_of_methodNamed B.named, atoms_spec (ws := ws) B.pre⟩ B.returns B.notSynchronized hl
section GR
variable {p : Program} {l : Launch} {e : Env} {R : Room} {s : State} {m : MethodId} {args : Array Value} {below : List Frame} {meth : Method} {c : Code} {H : Heap} {locs : List Loc} {cells slots : Nat} {Q : State → Prop}
variable {cc : ByteArray} {pc nL : Nat} {ls : Array Slot} {rest st0 : List Value} {D : va_G} {A : Nat → Prop} {a : Nat} {tys : List (ClassId × FieldType)} {w : va_W} {H0 : Heap} {Ts : List Cond} {own : String} {av : Array Value}
theorem gIret {post : Int32 → va_W → Prop} {u : va_W} {r : Int32} (hX : CallFix p m c cc nL s args Ts own) (hr : meth.sig.returnType = some .int) (hlocks : meth.locks = false) (hI : InW D A s.heap u H locs) (hp : post r u) (hdg : decode cc pc = .ok (.ireturn, 1)) : W p l e R s m args below meth c H locs cells slots (MQ below (va_Qi post (gPost D A) A) args s cells slots A) (F0 m pc ls [.int r]) :=
  W.iret (v := r) hX.1 hX.2.1 hr (fun t ht hW => ⟨⟨r, u, rfl, hp, by rw [ht]; exact hI.1, hI.2.1⟩, hI.2.2.F ht⟩) hI.2.2.2.2 hdg hlocks
theorem gZret {post : Int32 → va_W → Prop} {u : va_W} {r : Int32} (hX : CallFix p m c cc nL s args Ts own) (hr : meth.sig.returnType = some .boolean) (hz : r = 0 ∨ r = 1) (hlocks : meth.locks = false) (hI : InW D A s.heap u H locs) (hp : post r u) (hdg : decode cc pc = .ok (.ireturn, 1)) : W p l e R s m args below meth c H locs cells slots (MQ below (va_Qi post (gPost D A) A) args s cells slots A) (F0 m pc ls [.int r]) :=
  W.zret (v := r) hX.1 hX.2.1 hr (by rcases hz with h | h <;> subst h <;> decide +kernel) (fun t ht hW => ⟨⟨r, u, rfl, hp, by rw [ht]; exact hI.1, hI.2.1⟩, hI.2.2.F ht⟩) hI.2.2.2.2 hdg hlocks
theorem gVret {post : va_W → Prop} {u : va_W} (hX : CallFix p m c cc nL s args Ts own) (hr : meth.sig.returnType = none) (hlocks : meth.locks = false) (hI : InW D A s.heap u H locs) (hp : post u) (hdg : decode cc pc = .ok (.return_, 1)) : W p l e R s m args below meth c H locs cells slots (MQ below (va_Qv post (gPost D A) A) args s cells slots A) (F0 m pc ls []) :=
  W.vret hX.1 hX.2.1 hr (fun t ht hW => ⟨⟨u, rfl, hp, by rw [ht]; exact hI.1, hI.2.1⟩, hI.2.2.F ht⟩) hI.2.2.2.2 hdg hlocks
theorem gQret {post : Option Nat → va_W → Prop} {u : va_W} {r : Option Nat} {n : String} (hX : CallFix p m c cc nL s args Ts own) (hr : meth.sig.returnType = some (.object n)) (hlocks : meth.locks = false) (hI : InW D A s.heap u H locs) (hp : post r u) (hdg : decode cc pc = .ok (.areturn, 1)) : W p l e R s m args below meth c H locs cells slots (MQ below (va_Qq post (gPost D A) A) args s cells slots A) (F0 m pc ls [va_rf r]) :=
  W.aret (v := va_rf r) hX.1 hX.2.1 hr (Or.inl ⟨n, rfl⟩) (va_rf_or r) (fun t ht hW => ⟨⟨r, u, rfl, hp, by rw [ht]; exact hI.1, hI.2.1⟩, hI.2.2.F ht⟩) hI.2.2.2.2 hdg hlocks
theorem gSiret {post : Int32 → Prop} {r : Int32} (hX : CallFix p m c cc nL s args Ts own) (hr : meth.sig.returnType = some .int) (hlocks : meth.locks = false) (hp : post r) (hdg : decode cc pc = .ok (.ireturn, 1)) : W p l e R s m args below meth c s.heap [] cells slots (MQ below (vp_Si post) args s cells slots (fun _ => False)) (F0 m pc ls [.int r]) :=
  W.iret (v := r) hX.1 hX.2.1 hr (fun t ht hW => ⟨r, rfl, hp, ht⟩) (fun q h => by cases h) hdg hlocks
theorem gSzret {post : Int32 → Prop} {r : Int32} (hX : CallFix p m c cc nL s args Ts own) (hr : meth.sig.returnType = some .boolean) (hz : r = 0 ∨ r = 1) (hlocks : meth.locks = false) (hp : post r) (hdg : decode cc pc = .ok (.ireturn, 1)) : W p l e R s m args below meth c s.heap [] cells slots (MQ below (vp_Si post) args s cells slots (fun _ => False)) (F0 m pc ls [.int r]) :=
  W.zret (v := r) hX.1 hX.2.1 hr (by rcases hz with h | h <;> subst h <;> decide +kernel) (fun t ht hW => ⟨r, rfl, hp, ht⟩) (fun q h => by cases h) hdg hlocks
theorem gCalli {post : Int32 → va_W → Prop} (hr : va_Run p l e R s m args below meth c H locs cells slots 0 0 (F0 m pc ls st0) rest (va_Qi post (gPost D (va_A w H.size)) (va_A w H.size) av) (va_A w H.size)) (hI : InW D A H0 w H locs) (hA : ∀ q, H0.size ≤ q → A q)
    (kk : ∀ (r : Int32) (u : va_W) (H1 : Heap) (locs1 : List Loc), post r u → InW D A H0 u H1 locs1 → W p l e R s m args below meth c H1 locs1 cells slots Q (F0 m (pc + 3) ls (.int r :: rest))) : W p l e R s m args below meth c H locs cells slots Q (F0 m pc ls st0) := by
  have hF := gFree hI hA
  refine va_calli hr hI.2.2 (fun q _ h => hF q h) hF (fun r u t H1 locs1 ht hvm hw hB hz hk hS => ?_)
  obtain ⟨hP1, hD1⟩ := hB
  rw [ht] at hP1
  exact kk r u H1 locs1 hw ⟨hP1, hD1.weaken (fun _ q _ h => hF q.1 h), hS⟩
theorem gCallv {post : va_W → Prop} (hr : va_Run p l e R s m args below meth c H locs cells slots 0 0 (F0 m pc ls st0) rest (va_Qv post (gPost D (va_A w H.size)) (va_A w H.size) av) (va_A w H.size)) (hI : InW D A H0 w H locs) (hA : ∀ q, H0.size ≤ q → A q)
    (kk : ∀ (u : va_W) (H1 : Heap) (locs1 : List Loc), post u → InW D A H0 u H1 locs1 → W p l e R s m args below meth c H1 locs1 cells slots Q (F0 m (pc + 3) ls rest)) : W p l e R s m args below meth c H locs cells slots Q (F0 m pc ls st0) := by
  have hF := gFree hI hA
  refine va_callv hr hI.2.2 (fun q _ h => hF q h) hF (fun u t H1 locs1 ht hvm hw hB hz hk hS => ?_)
  obtain ⟨hP1, hD1⟩ := hB
  rw [ht] at hP1
  exact kk u H1 locs1 hw ⟨hP1, hD1.weaken (fun _ q _ h => hF q.1 h), hS⟩
theorem gCallq {post : Option Nat → va_W → Prop} (hr : va_Run p l e R s m args below meth c H locs cells slots 0 0 (F0 m pc ls st0) rest (va_Qq post (gPost D (va_A w H.size)) (va_A w H.size) av) (va_A w H.size)) (hI : InW D A H0 w H locs) (hA : ∀ q, H0.size ≤ q → A q)
    (kk : ∀ (r : Option Nat) (u : va_W) (H1 : Heap) (locs1 : List Loc), post r u → InW D A H0 u H1 locs1 → W p l e R s m args below meth c H1 locs1 cells slots Q (F0 m (pc + 3) ls (va_rf r :: rest))) : W p l e R s m args below meth c H locs cells slots Q (F0 m pc ls st0) := by
  have hF := gFree hI hA
  refine va_callq hr hI.2.2 (fun q _ h => hF q h) hF (fun r u t H1 locs1 ht hvm hw hB hz hk hS => ?_)
  obtain ⟨hP1, hD1⟩ := hB
  rw [ht] at hP1
  exact kk r u H1 locs1 hw ⟨hP1, hD1.weaken (fun _ q _ h => hF q.1 h), hS⟩
/-! fields of an object of the world -/
theorem gGet (hX : CallFix p m c cc nL s args Ts own) {C : String} {T : u_T} {N ci index : Nat} (hin : ∀ w ∈ u_ws C T N, w ∈ Ts) (hK : va_K D vwCl tys s) (hI : InW D A H0 w H locs) (q0 : Nat) {fs : List Value} (he : w[q0]? = some (a, .inr (ci, fs))) (hc : vwCl[ci]? = some (C, T, N)) (k : Nat) (hk : k < N) (hlink : (Cond.fieldLink own index (T k).1 (T k).2.1 (T k).2.2.1).before args s = true) {v : Value} (hv : fs[k]? = some v) (hdg : decode cc pc = .ok (.getfield index, 3))
    (kk : W p l e R s m args below meth c H locs cells slots Q (F0 m (pc + 3) ls (v :: rest))) : W p l e R s m args below meth c H locs cells slots Q (F0 m pc ls (.ref a :: rest)) :=
  va_get hX.1 hX.2.1 hX.2.2.2.2 hin hX.2.2.2.1 hK hI.1 q0 he hc k hk hlink (fun _ h => h) hv hdg kk
theorem gGetN (hX : CallFix p m c cc nL s args Ts own) {C host : String} {T : u_T} {N ci index : Nat} (hin : ∀ w ∈ u_ws C T N, w ∈ Ts) (hK : va_K D vwCl tys s) (hI : InW D A H0 w H locs) (q0 : Nat) {fs : List Value} (he : w[q0]? = some (a, .inr (ci, fs))) (hc : vwCl[ci]? = some (C, T, N)) (k : Nat) (hk : k < N) (hlink : va_Nw (.fieldLinkNest own index (T k).1 (T k).2.1 (T k).2.2.1 host) s) {v : Value} (hv : fs[k]? = some v) (hdg : decode cc pc = .ok (.getfield index, 3))
    (kk : W p l e R s m args below meth c H locs cells slots Q (F0 m (pc + 3) ls (v :: rest))) : W p l e R s m args below meth c H locs cells slots Q (F0 m pc ls (.ref a :: rest)) :=
  va_getN hX.1 hX.2.1 hX.2.2.2.2 hin hX.2.2.2.1 hK hI.1 q0 he hc k hk (va_Nw.use rfl hlink) (fun _ h => h) hv hdg kk
theorem gPut (hX : CallFix p m c cc nL s args Ts own) {C : String} {T : u_T} {N ci index : Nat} (hin : ∀ w ∈ u_ws C T N, w ∈ Ts) (ty0 : Nat → FieldType) (hty : ∀ k, k < N → parseFieldDescriptor (T k).2.2.1 = some (ty0 k)) (hnm : ∀ a, a < N → ∀ b, b < N → a ≠ b → (T a).2.1 ≠ (T b).2.1) (hK : va_K D vwCl tys s) (hI : InW D A H0 w H locs) (q0 : Nat) {fs : List Value} (he : w[q0]? = some (a, .inr (ci, fs))) (hc : vwCl[ci]? = some (C, T, N)) (k : Nat) (hk : k < N) (hlink : (Cond.fieldLink own index (T k).1 (T k).2.1 (T k).2.2.1).before args s = true) (hfin : (T k).2.2.2 = false) (hi : ty0 k = .int) {v : Int32} (hl : k < fs.length) {w' : va_W} (hw : w.set q0 (a, .inr (ci, fs.set k (.int v))) = w') (hdg : decode cc pc = .ok (.putfield index, 3))
    (kk : ∀ (H1 : Heap) (locs1 : List Loc), InW D A H0 w' H1 locs1 → W p l e R s m args below meth c H1 locs1 cells slots Q (F0 m (pc + 3) ls rest)) : W p l e R s m args below meth c H locs cells slots Q (F0 m pc ls (.int v :: .ref a :: rest)) := by
  subst hw
  exact va_put (ty := .int) hX.1 hX.2.1 hX.2.2.2.2 hin ty0 hty hnm hX.2.2.2.1 hK hI.1 hI.2.1 hI.2.2 q0 he hc k hk hlink (fun _ h => h) hfin (by rw [hty k hk, hi]) rfl rfl hl hdg (fun H1 locs1 h1 h2 h3 => kk H1 locs1 ⟨h1, h2, h3⟩)
theorem gPutN (hX : CallFix p m c cc nL s args Ts own) {C host : String} {T : u_T} {N ci index : Nat} (hin : ∀ w ∈ u_ws C T N, w ∈ Ts) (ty0 : Nat → FieldType) (hty : ∀ k, k < N → parseFieldDescriptor (T k).2.2.1 = some (ty0 k)) (hnm : ∀ a, a < N → ∀ b, b < N → a ≠ b → (T a).2.1 ≠ (T b).2.1) (hK : va_K D vwCl tys s) (hI : InW D A H0 w H locs) (q0 : Nat) {fs : List Value} (he : w[q0]? = some (a, .inr (ci, fs))) (hc : vwCl[ci]? = some (C, T, N)) (k : Nat) (hk : k < N) (hlink : va_Nw (.fieldLinkNest own index (T k).1 (T k).2.1 (T k).2.2.1 host) s) (hfin : (T k).2.2.2 = false) (hi : ty0 k = .int) {v : Int32} (hl : k < fs.length) {w' : va_W} (hw : w.set q0 (a, .inr (ci, fs.set k (.int v))) = w') (hdg : decode cc pc = .ok (.putfield index, 3))
    (kk : ∀ (H1 : Heap) (locs1 : List Loc), InW D A H0 w' H1 locs1 → W p l e R s m args below meth c H1 locs1 cells slots Q (F0 m (pc + 3) ls rest)) : W p l e R s m args below meth c H locs cells slots Q (F0 m pc ls (.int v :: .ref a :: rest)) := by
  subst hw
  exact va_putN (ty := .int) hX.1 hX.2.1 hX.2.2.2.2 hin ty0 hty hnm hX.2.2.2.1 hK hI.1 hI.2.1 hI.2.2 q0 he hc k hk (va_Nw.use rfl hlink) (fun _ h => h) hfin (by rw [hty k hk, hi]) rfl rfl hl hdg (fun H1 locs1 h1 h2 h3 => kk H1 locs1 ⟨h1, h2, h3⟩)
theorem gPutF (hX : CallFix p m c cc nL s args Ts own) {C : String} {T : u_T} {N ci index : Nat} (hin : ∀ w ∈ u_ws C T N, w ∈ Ts) (ty0 : Nat → FieldType) (hty : ∀ k, k < N → parseFieldDescriptor (T k).2.2.1 = some (ty0 k)) (hnm : ∀ a, a < N → ∀ b, b < N → a ≠ b → (T a).2.1 ≠ (T b).2.1) (hK : va_K D vwCl tys s) (hI : InW D A H0 w H locs) (q0 : Nat) {fs : List Value} (he : w[q0]? = some (a, .inr (ci, fs))) (hc : vwCl[ci]? = some (C, T, N)) (k : Nat) (hk : k < N) (hlink : (Cond.fieldLink own index (T k).1 (T k).2.1 (T k).2.2.1).before args s = true) (hfin : (T k).2.2.2 = true) (hin2 : meth.name = "<init>") (hdecl : (T k).1 = own) {v : Value} (hn : narrow (ty0 k) v = v) (hfit : fits (ty0 k) v = true) (hl : k < fs.length) {w' : va_W} (hw : w.set q0 (a, .inr (ci, fs.set k v)) = w') (hdg : decode cc pc = .ok (.putfield index, 3))
    (kk : ∀ (H1 : Heap) (locs1 : List Loc), InW D A H0 w' H1 locs1 → W p l e R s m args below meth c H1 locs1 cells slots Q (F0 m (pc + 3) ls rest)) : W p l e R s m args below meth c H locs cells slots Q (F0 m pc ls (v :: .ref a :: rest)) := by
  subst hw
  exact va_putF (ty := ty0 k) hX.1 hX.2.1 hX.2.2.2.2 hin ty0 hty hnm hX.2.2.2.1 hK hI.1 hI.2.1 hI.2.2 q0 he hc k hk hlink (fun _ h => h) hfin hin2 hdecl (hty k hk) hn hfit hl hdg (fun H1 locs1 h1 h2 h3 => kk H1 locs1 ⟨h1, h2, h3⟩)
/-! rows of ints and of halls -/
theorem gAld (hX : CallFix p m c cc nL s args Ts own) (hK : va_K D vwCl tys s) (hI : InW D A H0 w H locs) (q0 t0 : Nat) {cA : ClassId} {n : Nat} {f : Nat → Int32} (ha : w[q0]? = some (a, .inl (cA, n, .inl f))) (ht : tys[t0]? = some (cA, .int)) {i : Int32} {j : Nat} (hij : i = nI j) (hj : j < n) (hn : n < 2 ^ 31) (hdg : decode cc pc = .ok (.iaload, 1))
    (kk : W p l e R s m args below meth c H locs cells slots Q (F0 m (pc + 1) ls (.int (f j) :: rest))) : W p l e R s m args below meth c H locs cells slots Q (F0 m pc ls (.int i :: .ref a :: rest)) := by
  subst hij
  refine va_iald hX.1 hX.2.1 hK hI.1 q0 t0 ha ht (vp_in_nI hj hn) hdg ?_
  rw [nI_clamp (by omega)]
  exact kk
theorem gAst (hX : CallFix p m c cc nL s args Ts own) (hK : va_K D vwCl tys s) (hI : InW D A H0 w H locs) (q0 t0 : Nat) {cA : ClassId} {n : Nat} {f : Nat → Int32} (ha : w[q0]? = some (a, .inl (cA, n, .inl f))) (ht : tys[t0]? = some (cA, .int)) {i x : Int32} {j : Nat} (hij : i = nI j) (hj : j < n) (hn : n < 2 ^ 31) {w' : va_W} (hw : w.set q0 (a, .inl (cA, n, .inl (upd f j x))) = w') (hdg : decode cc pc = .ok (.iastore, 1))
    (kk : ∀ (H1 : Heap) (locs1 : List Loc), InW D A H0 w' H1 locs1 → W p l e R s m args below meth c H1 locs1 cells slots Q (F0 m (pc + 1) ls rest)) : W p l e R s m args below meth c H locs cells slots Q (F0 m pc ls (.int x :: .int i :: .ref a :: rest)) := by
  subst hij
  subst hw
  refine va_iast hX.1 hX.2.1 hK hI.1 hI.2.1 hI.2.2 q0 t0 ha ht (vp_in_nI hj hn) hdg (fun H1 locs1 h1 h2 h3 => ?_)
  rw [nI_clamp (by omega)] at h1 h2
  exact kk H1 locs1 ⟨h1, h2, h3⟩
theorem gQld (hX : CallFix p m c cc nL s args Ts own) (hK : va_K D vwCl tys s) (hI : InW D A H0 w H locs) (q0 t0 : Nat) {cA : ClassId} {C : String} {n : Nat} {f : Nat → Option Nat} (ha : w[q0]? = some (a, .inl (cA, n, .inr (.inr (.inr (.inr f)))))) (ht : tys[t0]? = some (cA, .object C)) {i : Int32} {j : Nat} (hij : i = nI j) (hj : j < n) (hn : n < 2 ^ 31) (hdg : decode cc pc = .ok (.aaload, 1))
    (kk : W p l e R s m args below meth c H locs cells slots Q (F0 m (pc + 1) ls (va_rf (f j) :: rest))) : W p l e R s m args below meth c H locs cells slots Q (F0 m pc ls (.int i :: .ref a :: rest)) := by
  subst hij
  refine va_aldq hX.1 hX.2.1 hK hI.1 q0 t0 ha ht (vp_in_nI hj hn) hdg ?_
  rw [nI_clamp (by omega)]
  exact kk
theorem gQst (hX : CallFix p m c cc nL s args Ts own) (hK : va_K D vwCl tys s) (hI : InW D A H0 w H locs) (q0 t0 qk ci : Nat) {cA : ClassId} {r : vw_C} {n v : Nat} {vs : List Value} {f : Nat → Option Nat} (ha : w[q0]? = some (a, .inl (cA, n, .inr (.inr (.inr (.inr f)))))) (ht : tys[t0]? = some (cA, .object r.1)) (hv : w[qk]? = some (v, .inr (ci, vs))) (hc : vwCl[ci]? = some r) {i : Int32} {j : Nat} (hij : i = nI j) (hj : j < n) (hn : n < 2 ^ 31) {w' : va_W} (hw : w.set q0 (a, .inl (cA, n, .inr (.inr (.inr (.inr (va_up f j (some v))))))) = w') (hdg : decode cc pc = .ok (.aastore, 1))
    (kk : ∀ (H1 : Heap) (locs1 : List Loc), InW D A H0 w' H1 locs1 → W p l e R s m args below meth c H1 locs1 cells slots Q (F0 m (pc + 1) ls rest)) : W p l e R s m args below meth c H locs cells slots Q (F0 m pc ls (.ref v :: .int i :: .ref a :: rest)) := by
  subst hij
  subst hw
  refine va_astq hX.1 hX.2.1 hK hI.1 hI.2.1 hI.2.2 q0 t0 qk ci ha ht hv hc (vp_in_nI hj hn) hdg (fun H1 locs1 h1 h2 h3 => ?_)
  rw [nI_clamp (by omega)] at h1 h2
  exact kk H1 locs1 ⟨h1, h2, h3⟩
theorem gQstN (hX : CallFix p m c cc nL s args Ts own) (hK : va_K D vwCl tys s) (hI : InW D A H0 w H locs) (q0 t0 : Nat) {cA : ClassId} {C : String} {n : Nat} {f : Nat → Option Nat} (ha : w[q0]? = some (a, .inl (cA, n, .inr (.inr (.inr (.inr f)))))) (ht : tys[t0]? = some (cA, .object C)) {i : Int32} {j : Nat} (hij : i = nI j) (hj : j < n) (hn : n < 2 ^ 31) {w' : va_W} (hw : w.set q0 (a, .inl (cA, n, .inr (.inr (.inr (.inr (va_up f j none)))))) = w') (hdg : decode cc pc = .ok (.aastore, 1))
    (kk : ∀ (H1 : Heap) (locs1 : List Loc), InW D A H0 w' H1 locs1 → W p l e R s m args below meth c H1 locs1 cells slots Q (F0 m (pc + 1) ls rest)) : W p l e R s m args below meth c H locs cells slots Q (F0 m pc ls (.null :: .int i :: .ref a :: rest)) := by
  subst hij
  subst hw
  refine va_astqN hX.1 hX.2.1 hK hI.1 hI.2.1 hI.2.2 q0 t0 ha ht (vp_in_nI hj hn) hdg (fun H1 locs1 h1 h2 h3 => ?_)
  rw [nI_clamp (by omega)] at h1 h2
  exact kk H1 locs1 ⟨h1, h2, h3⟩
theorem gAlen (hX : CallFix p m c cc nL s args Ts own) (hK : va_K D vwCl tys s) (hI : InW D A H0 w H locs) (q0 t0 : Nat) {cA : ClassId} {x : vp_A} (ha : w[q0]? = some (a, .inl (cA, x))) {ty : FieldType} (ht : tys[t0]? = some (cA, ty)) {n : Nat} (hv : x.1 = n) (hdg : decode cc pc = .ok (.arraylength, 1))
    (kk : W p l e R s m args below meth c H locs cells slots Q (F0 m (pc + 1) ls (.int (nI n) :: rest))) : W p l e R s m args below meth c H locs cells slots Q (F0 m pc ls (.ref a :: rest)) :=
  va_alen hX.1 hX.2.1 hK hI.1 q0 t0 ha ht (v := nI n) (by rw [hv]; rfl) hdg kk
end GR
end
section
/-! THE STATE: rows and numbers, by the reference's numbers of its fields; both worlds are pictures of it -/
abbrev gh_S : Type := (Nat → Nat → Int32) × (Nat → Int32)
def uA (σ : gh_S) (k i : Nat) (v : Int32) : gh_S := (fun a => if a = k then upd (σ.1 k) i v else σ.1 a, σ.2)
def uS (σ : gh_S) (k : Nat) (v : Int32) : gh_S := (σ.1, upd σ.2 k v)
abbrev gTy (cI cH : ClassId) : List (ClassId × FieldType) := [(cI, .int), (cH, .object "GateHalls$Hall")]
/-- the reference's object -/
def gMf (q : Nat → Nat) (σ : gh_S) : List Value := [.int (σ.2 0), .ref (q 1), .ref (q 2), .ref (q 3), .ref (q 4), .ref (q 5), .ref (q 6), .ref (q 7), .ref (q 8), .ref (q 9), .ref (q 10), .int (σ.2 11), .int (σ.2 12), .ref (q 13), .int (σ.2 14), .int (σ.2 15), .int (σ.2 16), .int (σ.2 17), .ref (q 18), .ref (q 19)]
def wM (h : Nat) (q : Nat → Nat) (cI : ClassId) (pf : Nat → Int32) (σ : gh_S) : va_W := [(h, .inr (2, gMf q σ)), (q 1, .inl (cI, 4200, .inl (σ.1 1))), (q 2, .inl (cI, 4200, .inl (σ.1 2))), (q 3, .inl (cI, 4200, .inl (σ.1 3))), (q 4, .inl (cI, 4200, .inl (σ.1 4))), (q 5, .inl (cI, 4200, .inl (σ.1 5))), (q 6, .inl (cI, 4200, .inl (σ.1 6))), (q 7, .inl (cI, 4200, .inl (σ.1 7))), (q 8, .inl (cI, 4200, .inl (σ.1 8))), (q 9, .inl (cI, 10, .inl (σ.1 9))), (q 10, .inl (cI, 10, .inl (σ.1 10))), (q 13, .inl (cI, 100, .inl (σ.1 13))), (q 18, .inl (cI, 64, .inl (σ.1 18))), (q 19, .inl (cI, 10, .inl pf))]
/-- the class's object, its rows and its halls -/
def gCf (q : Nat → Nat) (σ : gh_S) : List Value := [.ref (q 0), .ref (q 1), .int (σ.2 11), .int (σ.2 0), .ref (q 4), .ref (q 5), .int (σ.2 17), .int (σ.2 16), .ref (q 8), .int (σ.2 12), .int (σ.2 14), .int (σ.2 15)]
def gHf (σ : gh_S) (i : Nat) : List Value := [.int (nI i), .int (σ.1 1 i), .int (σ.1 2 i), .int (σ.1 3 i), .int (σ.1 4 i), .int (σ.1 5 i), .int (σ.1 6 i), .int (σ.1 7 i), .int (σ.1 8 i)]
def gPool (ad : Nat → Nat) (n : Nat) (σ : gh_S) : va_W := (List.range n).map (fun i => (ad i, .inr (0, gHf σ i)))
def wCr (g : Nat) (q : Nat → Nat) (cI cH : ClassId) (ad : Nat → Nat) (pf : Nat → Int32) (fh fp : Nat → Option Nat) (n : Nat) (σ : gh_S) : va_W := [(g, .inr (1, gCf q σ)), (q 0, .inl (cH, 10, .inr (.inr (.inr (.inr fh))))), (q 1, .inl (cI, 10, .inl (σ.1 10))), (q 4, .inl (cI, 10, .inl pf)), (q 5, .inl (cH, 30, .inr (.inr (.inr (.inr fp))))), (q 8, .inl (cI, 100, .inl (σ.1 13)))] ++ gPool ad n σ
/-- what the row of halls holds, and the row of those that were passed into -/
def gfh (ad : Nat → Nat) (σ : gh_S) : Nat → Option Nat := fun j => if j < 10 then (if σ.1 9 j = -1 then none else some (ad (σ.1 9 j).toNatClampNeg)) else none
def gfp (ad : Nat → Nat) (σ : gh_S) : Nat → Option Nat := fun j => if j < (σ.2 17).toNatClampNeg then some (ad (σ.1 18 j).toNatClampNeg) else none
def wC (g : Nat) (q : Nat → Nat) (cI cH : ClassId) (ad : Nat → Nat) (pf : Nat → Int32) (σ : gh_S) : va_W := wCr g q cI cH ad pf (gfh ad σ) (gfp ad σ) (σ.2 0).toNatClampNeg σ
theorem gPool_get {ad : Nat → Nat} {n i : Nat} {σ : gh_S} (h : i < n) : (gPool ad n σ)[i]? = some (ad i, .inr (0, gHf σ i)) := by
  simp [gPool, h]
theorem wCr_hall {g : Nat} {q : Nat → Nat} {cI cH : ClassId} {ad : Nat → Nat} {pf : Nat → Int32} {fh fp : Nat → Option Nat} {n i : Nat} {σ : gh_S} (h : i < n) : (wCr g q cI cH ad pf fh fp n σ)[6 + i]? = some (ad i, .inr (0, gHf σ i)) := by
  unfold wCr
  rw [List.getElem?_append_right (by simp)]
  show (gPool ad n σ)[6 + i - 6]? = _
  rw [Nat.add_sub_cancel_left]
  exact gPool_get h
theorem gPool_set {ad : Nat → Nat} {n i : Nat} {σ σ' : gh_S} (h : i < n) {e : List Value} (he : e = gHf σ' i) (ho : ∀ j, j ≠ i → gHf σ' j = gHf σ j) : (gPool ad n σ).set i (ad i, .inr (0, e)) = gPool ad n σ' := by
  apply List.ext_getElem?
  intro j
  by_cases hj : j = i
  · subst hj
    rw [List.getElem?_set_self (by simpa [gPool] using h), gPool_get h, he]
  · rw [List.getElem?_set_ne (Ne.symm hj)]
    simp only [gPool, List.getElem?_map]
    cases hb : (List.range n)[j]? with
    | none => rfl
    | some b =>
      have : b = j := by
        have := List.getElem?_eq_some_iff.mp hb
        obtain ⟨h1, h2⟩ := this
        rw [← h2]; simp
      subst this
      simp [ho b hj]
theorem set_six {α : Type} (a b c d e f : α) (l : List α) (i : Nat) (x : α) : ([a, b, c, d, e, f] ++ l).set (6 + i) x = [a, b, c, d, e, f] ++ l.set i x := by
  rw [Nat.add_comm 6 i]
  rfl
theorem wCr_set {g : Nat} {q : Nat → Nat} {cI cH : ClassId} {ad : Nat → Nat} {pf : Nat → Int32} {fh fp : Nat → Option Nat} {n i : Nat} {σ σ' : gh_S} (h : i < n) {e : List Value} (he : e = gHf σ' i) (ho : ∀ j, j ≠ i → gHf σ' j = gHf σ j) (hc : gCf q σ' = gCf q σ) (h1 : σ'.1 10 = σ.1 10) (h2 : σ'.1 13 = σ.1 13) : (wCr g q cI cH ad pf fh fp n σ).set (6 + i) (ad i, .inr (0, e)) = wCr g q cI cH ad pf fh fp n σ' := by
  unfold wCr
  rw [hc, h1, h2]
  refine (set_six _ _ _ _ _ _ _ i _).trans ?_
  rw [gPool_set h he ho]
theorem uA_same {σ : gh_S} {k i : Nat} {v : Int32} : (uA σ k i v).1 k i = v := by simp [uA, upd]
theorem uA_ne {σ : gh_S} {k i j : Nat} {v : Int32} (h : j ≠ i) (a : Nat) : (uA σ k i v).1 a j = σ.1 a j := by
  by_cases ha : a = k
  · subst ha; simp [uA, upd, h]
  · simp [uA, ha]
theorem gHf_ne {σ : gh_S} {k i j : Nat} {v : Int32} (h : j ≠ i) : gHf (uA σ k i v) j = gHf σ j := by
  unfold gHf
  rw [uA_ne h, uA_ne h, uA_ne h, uA_ne h, uA_ne h, uA_ne h, uA_ne h, uA_ne h]
/-- a hall's field k (3 .. 8) is set -/
theorem wCr_hset {g : Nat} {q : Nat → Nat} {cI cH : ClassId} {ad : Nat → Nat} {pf : Nat → Int32} {fh fp : Nat → Option Nat} {n i : Nat} {σ : gh_S} (h : i < n) (k : Nat) (v : Int32) (he : (gHf σ i).set k (.int v) = gHf (uA σ k i v) i) (h1 : ¬ 10 = k) (h2 : ¬ 13 = k) : (wCr g q cI cH ad pf fh fp n σ).set (6 + i) (ad i, .inr (0, (gHf σ i).set k (.int v))) = wCr g q cI cH ad pf fh fp n (uA σ k i v) :=
  wCr_set h he (fun j hj => gHf_ne hj) rfl (by simp [uA, h1]) (by simp [uA, h2])
theorem gHs3 {σ : gh_S} {i : Nat} {v : Int32} : (gHf σ i).set 3 (.int v) = gHf (uA σ 3 i v) i := by simp [gHf, uA, upd]
theorem gHs4 {σ : gh_S} {i : Nat} {v : Int32} : (gHf σ i).set 4 (.int v) = gHf (uA σ 4 i v) i := by simp [gHf, uA, upd]
theorem gHs5 {σ : gh_S} {i : Nat} {v : Int32} : (gHf σ i).set 5 (.int v) = gHf (uA σ 5 i v) i := by simp [gHf, uA, upd]
theorem gHs6 {σ : gh_S} {i : Nat} {v : Int32} : (gHf σ i).set 6 (.int v) = gHf (uA σ 6 i v) i := by simp [gHf, uA, upd]
theorem gHs7 {σ : gh_S} {i : Nat} {v : Int32} : (gHf σ i).set 7 (.int v) = gHf (uA σ 7 i v) i := by simp [gHf, uA, upd]
theorem gHs8 {σ : gh_S} {i : Nat} {v : Int32} : (gHf σ i).set 8 (.int v) = gHf (uA σ 8 i v) i := by simp [gHf, uA, upd]
section MR
variable {p : Program} {l : Launch} {e : Env} {R : Room} {s : State} {m : MethodId} {args : Array Value} {below : List Frame} {meth : Method} {c : Code} {H : Heap} {locs : List Loc} {cells slots : Nat} {Q : State → Prop}
variable {cc : ByteArray} {pc nL : Nat} {ls : Array Slot} {rest st0 : List Value} {D : va_G} {A : Nat → Prop} {H0 : Heap} {Ts : List Cond} {cI cH : ClassId} {h : Nat} {q : Nat → Nat} {pf : Nat → Int32} {σ : gh_S} {g : Nat} {ad : Nat → Nat} {fh fp : Nat → Option Nat} {n : Nat}
/-! the reference's fields and rows -/
theorem mGet (hX : CallFix p m c cc nL s args Ts RX2) (hin : ∀ w ∈ wsX20, w ∈ Ts) (hK : va_K D vwCl (gTy cI cH) s) (hI : InW D A H0 (wM h q cI pf σ) H locs) (k : Nat) (hk : k < 20) {index : Nat} (hlink : (Cond.fieldLink RX2 index (TX2 k).1 (TX2 k).2.1 (TX2 k).2.2.1).before args s = true) {v : Value} (hv : (gMf q σ)[k]? = some v) (hdg : decode cc pc = .ok (.getfield index, 3))
    (kk : W p l e R s m args below meth c H locs cells slots Q (F0 m (pc + 3) ls (v :: rest))) : W p l e R s m args below meth c H locs cells slots Q (F0 m pc ls (.ref h :: rest)) :=
  gGet (ci := 2) hX hin hK hI 0 rfl rfl k hk hlink hv hdg kk
theorem mPut (hX : CallFix p m c cc nL s args Ts RX2) (hin : ∀ w ∈ wsX20, w ∈ Ts) (hK : va_K D vwCl (gTy cI cH) s) (hI : InW D A H0 (wM h q cI pf σ) H locs) (k : Nat) (hk : k < 20) {index : Nat} (hlink : (Cond.fieldLink RX2 index (TX2 k).1 (TX2 k).2.1 (TX2 k).2.2.1).before args s = true) (hfin : (TX2 k).2.2.2 = false) (hi : tyX2 k = .int) {v : Int32} (hw : (wM h q cI pf σ).set 0 (h, .inr (2, (gMf q σ).set k (.int v))) = wM h q cI pf (uS σ k v)) (hdg : decode cc pc = .ok (.putfield index, 3))
    (kk : ∀ (H1 : Heap) (locs1 : List Loc), InW D A H0 (wM h q cI pf (uS σ k v)) H1 locs1 → W p l e R s m args below meth c H1 locs1 cells slots Q (F0 m (pc + 3) ls rest)) : W p l e R s m args below meth c H locs cells slots Q (F0 m pc ls (.int v :: .ref h :: rest)) :=
  gPut (ci := 2) hX hin tyX2 tyX2_ok nmX2 hK hI 0 rfl rfl k hk hlink hfin hi hk hw hdg kk
theorem mAld (hX : CallFix p m c cc nL s args Ts RX2) (hK : va_K D vwCl (gTy cI cH) s) (hI : InW D A H0 (wM h q cI pf σ) H locs) (q0 : Nat) {a n : Nat} {f : Nat → Int32} (ha : (wM h q cI pf σ)[q0]? = some (a, .inl (cI, n, .inl f))) {i : Int32} {j : Nat} (hij : i = nI j) (hj : j < n) (hn : n < 2 ^ 31) (hdg : decode cc pc = .ok (.iaload, 1))
    (kk : W p l e R s m args below meth c H locs cells slots Q (F0 m (pc + 1) ls (.int (f j) :: rest))) : W p l e R s m args below meth c H locs cells slots Q (F0 m pc ls (.int i :: .ref a :: rest)) :=
  gAld hX hK hI q0 0 ha rfl hij hj hn hdg kk
theorem mAst (hX : CallFix p m c cc nL s args Ts RX2) (hK : va_K D vwCl (gTy cI cH) s) (hI : InW D A H0 (wM h q cI pf σ) H locs) (q0 : Nat) {a n : Nat} {f : Nat → Int32} (ha : (wM h q cI pf σ)[q0]? = some (a, .inl (cI, n, .inl f))) {i x : Int32} {j : Nat} (hij : i = nI j) (hj : j < n) (hn : n < 2 ^ 31) {pf' : Nat → Int32} {σ' : gh_S} (hw : (wM h q cI pf σ).set q0 (a, .inl (cI, n, .inl (upd f j x))) = wM h q cI pf' σ') (hdg : decode cc pc = .ok (.iastore, 1))
    (kk : ∀ (H1 : Heap) (locs1 : List Loc), InW D A H0 (wM h q cI pf' σ') H1 locs1 → W p l e R s m args below meth c H1 locs1 cells slots Q (F0 m (pc + 1) ls rest)) : W p l e R s m args below meth c H locs cells slots Q (F0 m pc ls (.int x :: .int i :: .ref a :: rest)) :=
  gAst hX hK hI q0 0 ha rfl hij hj hn hw hdg kk
/-! the class's -/
theorem cGet (hX : CallFix p m c cc nL s args Ts RX1) (hin : ∀ w ∈ wsX10, w ∈ Ts) (hK : va_K D vwCl (gTy cI cH) s) (hI : InW D A H0 (wCr g q cI cH ad pf fh fp n σ) H locs) (k : Nat) (hk : k < 12) {index : Nat} (hlink : (Cond.fieldLink RX1 index (TX1 k).1 (TX1 k).2.1 (TX1 k).2.2.1).before args s = true) {v : Value} (hv : (gCf q σ)[k]? = some v) (hdg : decode cc pc = .ok (.getfield index, 3))
    (kk : W p l e R s m args below meth c H locs cells slots Q (F0 m (pc + 3) ls (v :: rest))) : W p l e R s m args below meth c H locs cells slots Q (F0 m pc ls (.ref g :: rest)) :=
  gGet (ci := 1) hX hin hK hI 0 rfl rfl k hk hlink hv hdg kk
theorem cPut (hX : CallFix p m c cc nL s args Ts RX1) (hin : ∀ w ∈ wsX10, w ∈ Ts) (hK : va_K D vwCl (gTy cI cH) s) (hI : InW D A H0 (wCr g q cI cH ad pf fh fp n σ) H locs) (k : Nat) (hk : k < 12) {index : Nat} (hlink : (Cond.fieldLink RX1 index (TX1 k).1 (TX1 k).2.1 (TX1 k).2.2.1).before args s = true) (hfin : (TX1 k).2.2.2 = false) (hi : tyX1 k = .int) {v : Int32} {σ' : gh_S} (hw : (wCr g q cI cH ad pf fh fp n σ).set 0 (g, .inr (1, (gCf q σ).set k (.int v))) = wCr g q cI cH ad pf fh fp n σ') (hdg : decode cc pc = .ok (.putfield index, 3))
    (kk : ∀ (H1 : Heap) (locs1 : List Loc), InW D A H0 (wCr g q cI cH ad pf fh fp n σ') H1 locs1 → W p l e R s m args below meth c H1 locs1 cells slots Q (F0 m (pc + 3) ls rest)) : W p l e R s m args below meth c H locs cells slots Q (F0 m pc ls (.int v :: .ref g :: rest)) :=
  gPut (ci := 1) hX hin tyX1 tyX1_ok nmX1 hK hI 0 rfl rfl k hk hlink hfin hi hk hw hdg kk
theorem hGet (hX : CallFix p m c cc nL s args Ts RX1) (hin : ∀ w ∈ wsX00, w ∈ Ts) (hK : va_K D vwCl (gTy cI cH) s) (hI : InW D A H0 (wCr g q cI cH ad pf fh fp n σ) H locs) {i : Nat} (hi : i < n) (k : Nat) (hk : k < 9) {index : Nat} (hlink : va_Nw (.fieldLinkNest RX1 index (TX0 k).1 (TX0 k).2.1 (TX0 k).2.2.1 "GateHalls") s) {v : Value} (hv : (gHf σ i)[k]? = some v) (hdg : decode cc pc = .ok (.getfield index, 3))
    (kk : W p l e R s m args below meth c H locs cells slots Q (F0 m (pc + 3) ls (v :: rest))) : W p l e R s m args below meth c H locs cells slots Q (F0 m pc ls (.ref (ad i) :: rest)) :=
  gGetN (ci := 0) hX hin hK hI (6 + i) (wCr_hall hi) rfl k hk hlink hv hdg kk
theorem hPut (hX : CallFix p m c cc nL s args Ts RX1) (hin : ∀ w ∈ wsX00, w ∈ Ts) (hK : va_K D vwCl (gTy cI cH) s) (hI : InW D A H0 (wCr g q cI cH ad pf fh fp n σ) H locs) {i : Nat} (hi : i < n) (k : Nat) (hk : k < 9) {index : Nat} (hlink : va_Nw (.fieldLinkNest RX1 index (TX0 k).1 (TX0 k).2.1 (TX0 k).2.2.1 "GateHalls") s) (hfin : (TX0 k).2.2.2 = false) (hti : tyX0 k = .int) {v : Int32} (he : (gHf σ i).set k (.int v) = gHf (uA σ k i v) i) (h1 : ¬ 10 = k) (h2 : ¬ 13 = k) (hdg : decode cc pc = .ok (.putfield index, 3))
    (kk : ∀ (H1 : Heap) (locs1 : List Loc), InW D A H0 (wCr g q cI cH ad pf fh fp n (uA σ k i v)) H1 locs1 → W p l e R s m args below meth c H1 locs1 cells slots Q (F0 m (pc + 3) ls rest)) : W p l e R s m args below meth c H locs cells slots Q (F0 m pc ls (.int v :: .ref (ad i) :: rest)) :=
  gPutN (ci := 0) hX hin tyX0 tyX0_ok nmX0 hK hI (6 + i) (wCr_hall hi) rfl k hk hlink hfin hti hk (wCr_hset hi k v he h1 h2) hdg kk
end MR
end
section
/-! WHAT THE CALLS ANSWER AND DO TO THE STATE -/
abbrev gMi (l : Launch) (y : MethodName) (ws : List Cond) (rm : Room) (D : va_G) (w : va_W) (tys : List (ClassId × FieldType)) (sz : Nat) (av : List Value) (post : Int32 → va_W → Prop) : Prop := Met l y ws rm (va_Pc av (gPre D w tys sz)) (va_Qi post (gPost D (va_A w sz)) (va_A w sz)) 0 0 (va_A w sz)
abbrev gMv (l : Launch) (y : MethodName) (ws : List Cond) (rm : Room) (D : va_G) (w : va_W) (tys : List (ClassId × FieldType)) (sz : Nat) (av : List Value) (post : va_W → Prop) : Prop := Met l y ws rm (va_Pc av (gPre D w tys sz)) (va_Qv post (gPost D (va_A w sz)) (va_A w sz)) 0 0 (va_A w sz)
abbrev gMq (l : Launch) (y : MethodName) (ws : List Cond) (rm : Room) (D : va_G) (w : va_W) (tys : List (ClassId × FieldType)) (sz : Nat) (av : List Value) (post : Option Nat → va_W → Prop) : Prop := Met l y ws rm (va_Pc av (gPre D w tys sz)) (va_Qq post (gPost D (va_A w sz)) (va_A w sz)) 0 0 (va_A w sz)
abbrev gMs (l : Launch) (y : MethodName) (ws : List Cond) (rm : Room) (av : List Value) (post : Int32 → Prop) : Prop := Met l y ws rm (fun v _ => v = av.toArray) (vp_Si post) 0 0 (fun _ => False)
section TP
variable {p : Program} {l : Launch} {e : Env} {R : Room} {s : State} {m : MethodId} {args : Array Value} {below : List Frame} {meth : Method} {c : Code} {H : Heap} {locs : List Loc} {cells slots : Nat} {Q : State → Prop} {pc : Nat} {ls : Array Slot} {rest : List Value}
theorem gTop {x y : Int32} (h : x = y) (k : W p l e R s m args below meth c H locs cells slots Q (F0 m pc ls (.int y :: rest))) : W p l e R s m args below meth c H locs cells slots Q (F0 m pc ls (.int x :: rest)) := h ▸ k
theorem gTopQ {x y : Option Nat} (h : x = y) (k : W p l e R s m args below meth c H locs cells slots Q (F0 m pc ls (va_rf y :: rest))) : W p l e R s m args below meth c H locs cells slots Q (F0 m pc ls (va_rf x :: rest)) := h ▸ k
theorem gTopN (k : W p l e R s m args below meth c H locs cells slots Q (F0 m pc ls (.null :: rest))) : W p l e R s m args below meth c H locs cells slots Q (F0 m pc ls (va_rf none :: rest)) := k
theorem gTopR {a : Nat} (k : W p l e R s m args below meth c H locs cells slots Q (F0 m pc ls (.ref a :: rest))) : W p l e R s m args below meth c H locs cells slots Q (F0 m pc ls (va_rf (some a) :: rest)) := k
end TP
theorem g_set_get {α : Type} {w : List α} {q0 : Nat} {x v : α} (he : w[q0]? = some x) : (w.set q0 v)[q0]? = some v := by
  rw [List.getElem?_set_self (List.getElem?_eq_some_iff.mp he).1]
/-- the invariant: n halls, w of them passed into -/
def gI (n w : Nat) (σ : gh_S) : Prop := σ.2 0 = nI n ∧ σ.2 17 = nI w ∧ (∃ t : Nat, t ≤ 100 ∧ σ.2 12 = nI t) ∧ (∀ j : Nat, j < 10 → σ.1 9 j = -1 ∨ ∃ h : Nat, h < n ∧ σ.1 9 j = nI h) ∧ (∀ j : Nat, j < 10 → σ.1 10 j = -1 ∨ ∃ i : Nat, i < 10 ∧ σ.1 10 j = nI i) ∧ (∀ j : Nat, j < w → ∃ h : Nat, h < n ∧ σ.1 18 j = nI h) ∧ n ≤ 4000 ∧ w ≤ 30 ∧ (∀ k i : Nat, 3 ≤ k → k ≤ 8 → n ≤ i → σ.1 k i = 0)
def zRem (x y : Int32) : Int32 := x - x / y * y
def zTen (n : Int32) : Int32 := if 0 ≤ zRem n 10 then zRem n 10 else zRem n 10 + 10
def zLeave (σ : gh_S) (x : Int32) : gh_S := if (100 : Int32) ≤ σ.2 12 then σ else uS (uA σ 13 (σ.2 12).toNatClampNeg x) 12 (σ.2 12 + 1)
def zCharge (σ : gh_S) (i : Nat) : Int32 := if σ.1 1 i = 0 then σ.1 2 i else if σ.1 1 i = 1 then σ.1 2 i + σ.1 4 i else 2 * (σ.1 2 i + σ.1 4 i)
/-- the hall's own numbers, when it is passed into -/
def zEnter (σ : gh_S) (i : Nat) : gh_S := uA (uA (uA σ 4 i (σ.1 4 i + 1)) 7 i (σ.1 7 i + 1)) 8 i (if σ.1 7 i + 1 ≤ σ.1 8 i then σ.1 8 i else σ.1 7 i + 1)
def zPush (σ : gh_S) (i : Nat) : gh_S := uS (uS (uA σ 18 (σ.2 17).toNatClampNeg (nI i)) 17 (σ.2 17 + 1)) 16 (if σ.2 17 + 1 ≤ σ.2 16 then σ.2 16 else σ.2 17 + 1)
def zIn (σ : gh_S) (i : Nat) : gh_S := zPush (zLeave (zEnter σ i) (zRem (nI i) 100)) i
def zPay (σ : gh_S) (i : Nat) : Int32 × gh_S := if σ.1 1 i = 2 ∧ zRem (σ.1 4 i) 3 = 0 then (21, σ) else if zCharge σ i ≤ σ.2 11 then (0, uA (uS σ 11 (σ.2 11 - zCharge σ i)) 6 i (σ.1 6 i + zCharge σ i)) else (20, σ)
def zPass (σ : gh_S) (i : Nat) : Int32 × gh_S := zPay (zIn σ i) i
def zPop (σ : gh_S) : gh_S := zLeave (uA (uS σ 17 (σ.2 17 - 1)) 7 (σ.1 18 (σ.2 17 - 1).toNatClampNeg).toNatClampNeg (σ.1 7 (σ.1 18 (σ.2 17 - 1).toNatClampNeg).toNatClampNeg - 1)) (100 + zRem (σ.1 18 (σ.2 17 - 1).toNatClampNeg) 100)
def zPops (σ : gh_S) : Nat → gh_S
  | 0 => σ
  | k + 1 => zPops (zPop σ) k
def zW (σ : gh_S) : Nat := (σ.2 17).toNatClampNeg
/-- up from a place: the i-th of its path -/
def zOrb (par : Nat → Int32) (p : Int32) : Nat → Int32
  | 0 => p
  | i + 1 => if zOrb par p i = -1 then -1 else par (zOrb par p i).toNatClampNeg
/-- how many places the path has, seen from its i-th on, f more at most -/
def zLen (o : Nat → Int32) : Nat → Nat → Option Nat
  | 0, i => if o i = -1 then some i else none
  | f + 1, i => if o i = -1 then some i else zLen o f (i + 1)
def zDown (o : Nat → Int32) : Nat → gh_S → Int32 × gh_S
  | 0, σ => (0, σ)
  | i + 1, σ => if σ.1 9 (o i).toNatClampNeg = -1 then (1, σ) else if (zPass σ (σ.1 9 (o i).toNatClampNeg).toNatClampNeg).1 = 0 then zDown o i (zPass σ (σ.1 9 (o i).toNatClampNeg).toNatClampNeg).2 else zPass σ (σ.1 9 (o i).toNatClampNeg).toNatClampNeg
def zGo (σ : gh_S) (p : Int32) : Int32 × gh_S := match zLen (zOrb (σ.1 10) p) 10 0 with
  | none => (8, uS σ 15 (σ.2 15 + 1))
  | some k => zDown (zOrb (σ.1 10) p) k (uS σ 15 (σ.2 15 + 1))
def zRich (σ : gh_S) (x : Int64) : Int32 × gh_S := if lg_cmp ((σ.2 11).toInt64 + x) 0 < 0 then (22, σ) else if lg_cmp ((σ.2 11).toInt64 + x) 1000000 ≤ 0 then (0, uS σ 11 ((σ.2 11).toInt64 + x).toInt32) else (22, σ)
/-- a deed that is not 5, in hall i -/
def zDeed (σ : gh_S) (i : Nat) (deed n : Int32) : Int32 × gh_S :=
  if deed = 1 then (0, uA σ 3 i (σ.1 3 i + n))
  else if deed = 2 then (if (zRich σ (σ.1 3 i).toInt64).1 = 0 then (0, uA (zRich σ (σ.1 3 i).toInt64).2 3 i 0) else (22, σ))
  else if deed = 3 then (if n = 0 then (6, σ) else (0, uA σ 3 i (σ.1 3 i / n)))
  else if deed = 4 then (0, uA σ 9 (zTen n).toNatClampNeg (-1))
  else if deed = 6 then (20 + (n &&& 3), σ)
  else if deed = 7 then zRich σ (σ.2 17).toInt64
  else (0, σ)
/-- the walks within, f of them at most: the reference's loop -/
def zOn : Nat → gh_S → Int32 → Int32 × gh_S
  | 0, σ, _ => (2, σ)
  | f + 1, σ, m => if (zGo σ (zTen m)).1 = 0 then (if m / 10 = 0 then zGo σ (zTen m) else zOn f (zGo σ (zTen m)).2 (m / 10)) else zGo σ (zTen m)
def zInner (σ : gh_S) : Nat := (σ.1 18 (σ.2 17 - 1).toNatClampNeg).toNatClampNeg
def zDoes (σ : gh_S) (deed n : Int32) : Int32 × gh_S :=
  if deed = 5 then (if (zOn 2 σ n).1 = 0 then (0, zPops (zOn 2 σ n).2 (zW (zOn 2 σ n).2 - zW σ)) else zOn 2 σ n)
  else zDeed σ (zInner σ) deed n
/-- the class's walks, f deep at most -/
def zWT : Nat → gh_S → Int32 → Int32 → Int32 → Int32 × gh_S
  | 0, σ, _, _, _ => (2, σ)
  | f + 1, σ, p, deed, n =>
    let g := zGo σ p
    let r := if g.1 = 0 then (if deed = 5 then zWT f g.2 (zTen n) (if n / 10 = 0 then 0 else 5) (n / 10) else zDeed g.2 (zInner g.2) deed n) else g
    (r.1, zPops r.2 (zW r.2 - zW σ))
def sBegin (σ : gh_S) : gh_S := uS (uS (uS σ 12 0) 16 0) 17 0
def sWalk (σ : gh_S) (p deed n : Int32) : Int32 × gh_S := if p < 0 ∨ 9 < p ∨ deed < 0 ∨ 7 < deed then (-1, σ) else
  let r := zWT 3 (sBegin σ) p deed n
  (if r.1 = 0 then 1 else -10 - r.1, uS r.2 14 r.1)
def sHall (σ : gh_S) (p k f : Int32) : Int32 × gh_S := if p < 0 ∨ 9 < p ∨ k < 0 ∨ 2 < k ∨ f < 0 ∨ 1000 < f then (-1, σ) else (σ.2 0, uS (uA (uA (uA σ 1 (σ.2 0).toNatClampNeg k) 2 (σ.2 0).toNatClampNeg f) 9 p.toNatClampNeg (σ.2 0)) 0 (σ.2 0 + 1))
def sShare (σ : gh_S) (f t : Int32) : Int32 × gh_S := if f < 0 ∨ 9 < f ∨ t < 0 ∨ 9 < t then (-1, σ) else (if σ.1 9 f.toNatClampNeg = -1 then 0 else 1, uA σ 9 t.toNatClampNeg (σ.1 9 f.toNatClampNeg))
def sParent (σ : gh_S) (p o : Int32) : Int32 × gh_S := if p < 0 ∨ 9 < p ∨ o < -1 ∨ 9 < o then (-2, σ) else (σ.1 10 p.toNatClampNeg, uA σ 10 p.toNatClampNeg o)
def zMin (x : Int32) : Int32 := if x ≤ 1000000 then x else 1000000
def sFill (σ : gh_S) (n : Int32) : Int32 × gh_S := if n < 0 ∨ 1000 < n then (-1, σ) else (zMin (σ.2 11 + n), uS σ 11 (zMin (σ.2 11 + n)))
def zFact (σ : gh_S) (i : Nat) (w : Int32) : Int32 := if w = 0 then nI i else if w = 1 then σ.1 1 i else if w = 2 then σ.1 2 i else if w = 3 then σ.1 4 i else if w = 4 then σ.1 5 i else if w = 5 then σ.1 6 i else if w = 6 then σ.1 7 i else if w = 7 then σ.1 8 i else -1
def sTold (σ : gh_S) (p w : Int32) : Int32 := if p < 0 ∨ 9 < p then -1 else if σ.1 9 p.toNatClampNeg = -1 then -1 else zFact σ (σ.1 9 p.toNatClampNeg).toNatClampNeg w
def sGifts (σ : gh_S) (p : Int32) : Int32 := if p < 0 ∨ 9 < p then 0 else if σ.1 9 p.toNatClampNeg = -1 then 0 else σ.1 3 (σ.1 9 p.toNatClampNeg).toNatClampNeg
def sTrace (σ : gh_S) (k : Int32) : Int32 := if k = -1 then σ.2 12 else if k < 0 ∨ σ.2 12 ≤ k then -1 else σ.1 13 k.toNatClampNeg
def zCnt (f : Nat → Int32) : Nat → Int32
  | 0 => 0
  | j + 1 => if f j = -1 then zCnt f j else zCnt f j + 1
def sCount (σ : gh_S) (w : Int32) : Int32 := if w = 0 then σ.2 11 else if w = 1 then σ.2 0 else if w = 2 then zCnt (σ.1 9) 10 else if w = 3 then σ.2 14 else if w = 4 then σ.2 15 else if w = 5 then σ.2 16 else -1
/-- the search: places b on, f of them, behind hall x -/
def zSB (x : Nat) (sum : Int64) : Nat → Nat → gh_S → Int32 × gh_S
  | 0, _, σ => (-1, σ)
  | f + 1, b, σ => if σ.1 9 b = -1 then zSB x sum f (b + 1) σ else
    let y := (σ.1 9 b).toNatClampNeg
    let τ := uA σ 5 y (σ.1 5 y + 1)
    if lg_cmp ((σ.1 3 x).toInt64 + (σ.1 3 y).toInt64) sum = 0 then (nI b, τ) else if σ.1 3 y < 0 then (-1, τ) else zSB x sum f (b + 1) τ
def zSA (sum : Int64) : Nat → Nat → gh_S → Int32 × gh_S
  | 0, _, σ => (-1, σ)
  | f + 1, a, σ => if σ.1 9 a = -1 then zSA sum f (a + 1) σ else
    let x := (σ.1 9 a).toNatClampNeg
    let r := zSB x sum (9 - a) (a + 1) (uA σ 5 x (σ.1 5 x + 1))
    if r.1 = -1 then zSA sum f (a + 1) r.2 else (10 * nI a + r.1, r.2)
def sSeek (σ : gh_S) (sum : Int64) : Int32 × gh_S := zSA sum 10 0 σ
end
section
set_option maxHeartbeats 4000000 in
set_option maxRecDepth 100000 in
theorem c_X2_in (l : Launch) (v lo hi : Int32) : gMs l yX2_in wsX2_in ({ frames := 0, cells := 0, slots := 0, locals := 0 }) [.int (v), .int (lo), .int (hi)] (fun r => (r = 1 ∧ ¬ v < lo ∧ ¬ hi < v) ∨ (r = 0 ∧ (v < lo ∨ hi < v))) := by
  refine gEnterS (cc := cX2_in) (maxL := 3) (ret := (some .boolean)) (by decide) rfl (Nat.le_of_ble_eq_true rfl) ?_
  intro p e s m below meth c ls hX hr hlk hl
  have hx := hX.1
  have hb := hX.2.1
  have hts := hX.2.2.2.2
  have hown : s.vm.findClass RX2 = some m.cls := hX.2.2.2.1
  have hl : lv_has ls 3 [(0, .int (v)), (1, .int (lo)), (2, .int (hi))] := hl
  refine lv_iload_n hx hb dX2_in_0 rfl (lv_at hl 0 rfl) ?_
  refine lv_iload_n hx hb dX2_in_1 rfl (lv_at hl 1 rfl) ?_
  refine lv_icmp_lt (tgt := 14) hx hb dX2_in_2 (by decide) (fun c1 => ?_) (fun c1 => ?_)
  · refine lv_iconst (v := 0) hx hb dX2_in_14 (by decide) ?_
    exact gSzret hX hr (Or.inl rfl) hlk (Or.inr ⟨rfl, Or.inl c1⟩) dX2_in_15
  · refine lv_iload_n hx hb dX2_in_5 rfl (lv_at hl 0 rfl) ?_
    refine lv_iload_n hx hb dX2_in_6 rfl (lv_at hl 2 rfl) ?_
    refine lv_icmp_gt (tgt := 14) hx hb dX2_in_7 (by decide) (fun c2 => ?_) (fun c2 => ?_)
    · refine lv_iconst (v := 0) hx hb dX2_in_14 (by decide) ?_
      exact gSzret hX hr (Or.inl rfl) hlk (Or.inr ⟨rfl, Or.inr c2⟩) dX2_in_15
    · refine lv_iconst (v := 1) hx hb dX2_in_10 (by decide) ?_
      refine lv_goto (tgt := 15) hx hb dX2_in_11 (by decide) ?_
      exact gSzret hX hr (Or.inr rfl) hlk (Or.inl ⟨rfl, c1, c2⟩) dX2_in_15
theorem g_le10 {x : Int32} (h : (9 : Int32) < x) : (10 : Int32) ≤ x := by
  rw [Int32.lt_iff_toInt_lt] at h
  rw [Int32.le_iff_toInt_le]
  have h1 : (9 : Int32).toInt = 9 := by decide
  have h2 : (10 : Int32).toInt = 10 := by decide
  omega
theorem g_10le {x : Int32} (h : (10 : Int32) ≤ x) : (9 : Int32) < x := by
  rw [Int32.le_iff_toInt_le] at h
  rw [Int32.lt_iff_toInt_lt]
  have h1 : (9 : Int32).toInt = 9 := by decide
  have h2 : (10 : Int32).toInt = 10 := by decide
  omega
set_option maxHeartbeats 4000000 in
set_option maxRecDepth 100000 in
theorem c_X1_isPlace (l : Launch) (v : Int32) : gMs l yX1_isPlace wsX1_isPlace ({ frames := 0, cells := 0, slots := 0, locals := 0 }) [.int (v)] (fun r => (r = 1 ∧ ¬ v < 0 ∧ ¬ 9 < v) ∨ (r = 0 ∧ (v < 0 ∨ 9 < v))) := by
  refine gEnterS (cc := cX1_isPlace) (maxL := 1) (ret := (some .boolean)) (by decide) rfl (Nat.le_of_ble_eq_true rfl) ?_
  intro p e s m below meth c ls hX hr hlk hl
  have hx := hX.1
  have hb := hX.2.1
  have hts := hX.2.2.2.2
  have hown : s.vm.findClass RX1 = some m.cls := hX.2.2.2.1
  have hl : lv_has ls 1 [(0, .int (v))] := hl
  refine lv_iload_n hx hb dX1_isPlace_0 rfl (lv_at hl 0 rfl) ?_
  refine lv_if_lt (tgt := 14) hx hb dX1_isPlace_1 (by decide) (fun c1 => ?_) (fun c1 => ?_)
  · refine lv_iconst (v := 0) hx hb dX1_isPlace_14 (by decide) ?_
    exact gSzret hX hr (Or.inl rfl) hlk (Or.inr ⟨rfl, Or.inl c1⟩) dX1_isPlace_15
  · refine lv_iload_n hx hb dX1_isPlace_4 rfl (lv_at hl 0 rfl) ?_
    refine lv_bipush (v := 10) hx hb dX1_isPlace_5 (by decide) ?_
    refine lv_icmp_ge (tgt := 14) hx hb dX1_isPlace_7 (by decide) (fun c2 => ?_) (fun c2 => ?_)
    · refine lv_iconst (v := 0) hx hb dX1_isPlace_14 (by decide) ?_
      exact gSzret hX hr (Or.inl rfl) hlk (Or.inr ⟨rfl, Or.inr (g_10le c2)⟩) dX1_isPlace_15
    · refine lv_iconst (v := 1) hx hb dX1_isPlace_10 (by decide) ?_
      refine lv_goto (tgt := 15) hx hb dX1_isPlace_11 (by decide) ?_
      exact gSzret hX hr (Or.inr rfl) hlk (Or.inl ⟨rfl, c1, fun h => c2 (g_le10 h)⟩) dX1_isPlace_15
set_option maxHeartbeats 4000000 in
set_option maxRecDepth 100000 in
theorem c_X2_ten (l : Launch) (n : Int32) : gMs l yX2_ten wsX2_ten ({ frames := 0, cells := 0, slots := 0, locals := 0 }) [.int (n)] (fun r => r = zTen n) := by
  refine gEnterS (cc := cX2_ten) (maxL := 2) (ret := (some .int)) (by decide) rfl (Nat.le_of_ble_eq_true rfl) ?_
  intro p e s m below meth c ls hX hr hlk hl
  have hx := hX.1
  have hb := hX.2.1
  have hts := hX.2.2.2.2
  have hown : s.vm.findClass RX2 = some m.cls := hX.2.2.2.1
  have hl : lv_has ls 2 [(0, .int (n))] := hl
  refine lv_iload_n hx hb dX2_ten_0 rfl (lv_at hl 0 rfl) ?_
  refine lv_bipush (v := 10) hx hb dX2_ten_1 (by decide) ?_
  refine lv_irem hx hb dX2_ten_3 (by decide) ?_
  refine lv_istore_n (lv' := [(1, .int ((n) - (n) / (10) * (10))), (0, .int (n))]) hx hb dX2_ten_4 rfl hl (by decide) rfl (fun ls hl => ?_)
  refine lv_iload_n hx hb dX2_ten_5 rfl (lv_at hl 0 rfl) ?_
  refine lv_if_ge (tgt := 16) hx hb dX2_ten_6 (by decide) (fun c1 => ?_) (fun c1 => ?_)
  · refine lv_iload_n hx hb dX2_ten_16 rfl (lv_at hl 0 rfl) ?_
    exact gSiret hX hr hlk (by show _ = zTen n; unfold zTen zRem; rw [if_pos c1]) dX2_ten_17
  · refine lv_iload_n hx hb dX2_ten_9 rfl (lv_at hl 0 rfl) ?_
    refine lv_bipush (v := 10) hx hb dX2_ten_10 (by decide) ?_
    refine lv_iadd hx hb dX2_ten_12 ?_
    refine lv_goto (tgt := 17) hx hb dX2_ten_13 (by decide) ?_
    exact gSiret hX hr hlk (by show _ = zTen n; unfold zTen zRem; rw [if_neg c1]) dX2_ten_17
end
section
theorem g_pl {x : Int32} (h1 : ¬ x < 0) (h2 : ¬ 9 < x) : ∃ j : Nat, j < 10 ∧ x = nI j ∧ x.toNatClampNeg = j := by
  obtain ⟨j, hj, e⟩ := nI_of2 (M := 9) (n := 9) (by decide) h1 (by rw [Int32.le_iff_toInt_le]; rw [Int32.lt_iff_toInt_lt] at h2; omega)
  exact ⟨j, by omega, e, by rw [e]; exact nI_clamp (by omega)⟩
theorem g_lt100 {x : Int32} {t : Nat} (e : x = nI t) (h : t ≤ 100) (c : ¬ 100 ≤ x) : t < 100 := by
  rcases Nat.lt_or_ge t 100 with g | g
  · exact g
  · have : t = 100 := by omega
    subst this
    exact absurd (by rw [e]; decide) c
theorem g_le7 {x : Int32} (h1 : ¬ x < 0) (h2 : ¬ 7 < x) : x = 0 ∨ x = 1 ∨ x = 2 ∨ x = 3 ∨ x = 4 ∨ x = 5 ∨ x = 6 ∨ x = 7 := by
  obtain ⟨j, hj, e⟩ := nI_of2 (M := 7) (n := 7) (by decide) h1 (by rw [Int32.le_iff_toInt_le]; rw [Int32.lt_iff_toInt_lt] at h2; omega)
  subst e
  rcases (show j = 0 ∨ j = 1 ∨ j = 2 ∨ j = 3 ∨ j = 4 ∨ j = 5 ∨ j = 6 ∨ j = 7 by omega) with rfl | rfl | rfl | rfl | rfl | rfl | rfl | rfl <;> decide
theorem g_toInt {x : Int32} {k : Int} {y : Int32} (hy : y.toInt = k) (h : x.toInt = k) : x = y := Int32.toInt_inj.mp (h.trans hy.symm)
theorem g_sw05 (x : Int32) : (x.toInt < 0 ∨ 5 < x.toInt) ∨ x = 0 ∨ x = 1 ∨ x = 2 ∨ x = 3 ∨ x = 4 ∨ x = 5 := by
  rcases (show (x.toInt < 0 ∨ 5 < x.toInt) ∨ x.toInt = 0 ∨ x.toInt = 1 ∨ x.toInt = 2 ∨ x.toInt = 3 ∨ x.toInt = 4 ∨ x.toInt = 5 by omega) with h | h | h | h | h | h | h
  · exact Or.inl h
  · exact Or.inr (Or.inl (g_toInt (by decide) h))
  · exact Or.inr (Or.inr (Or.inl (g_toInt (by decide) h)))
  · exact Or.inr (Or.inr (Or.inr (Or.inl (g_toInt (by decide) h))))
  · exact Or.inr (Or.inr (Or.inr (Or.inr (Or.inl (g_toInt (by decide) h)))))
  · exact Or.inr (Or.inr (Or.inr (Or.inr (Or.inr (Or.inl (g_toInt (by decide) h))))))
  · exact Or.inr (Or.inr (Or.inr (Or.inr (Or.inr (Or.inr (g_toInt (by decide) h))))))
theorem g_sw17 (x : Int32) : (x.toInt < 1 ∨ 7 < x.toInt) ∨ x = 1 ∨ x = 2 ∨ x = 3 ∨ x = 4 ∨ x = 5 ∨ x = 6 ∨ x = 7 := by
  rcases (show (x.toInt < 1 ∨ 7 < x.toInt) ∨ x.toInt = 1 ∨ x.toInt = 2 ∨ x.toInt = 3 ∨ x.toInt = 4 ∨ x.toInt = 5 ∨ x.toInt = 6 ∨ x.toInt = 7 by omega) with h | h | h | h | h | h | h | h
  · exact Or.inl h
  · exact Or.inr (Or.inl (g_toInt (by decide) h))
  · exact Or.inr (Or.inr (Or.inl (g_toInt (by decide) h)))
  · exact Or.inr (Or.inr (Or.inr (Or.inl (g_toInt (by decide) h))))
  · exact Or.inr (Or.inr (Or.inr (Or.inr (Or.inl (g_toInt (by decide) h)))))
  · exact Or.inr (Or.inr (Or.inr (Or.inr (Or.inr (Or.inl (g_toInt (by decide) h))))))
  · exact Or.inr (Or.inr (Or.inr (Or.inr (Or.inr (Or.inr (Or.inl (g_toInt (by decide) h)))))))
  · exact Or.inr (Or.inr (Or.inr (Or.inr (Or.inr (Or.inr (Or.inr (g_toInt (by decide) h)))))))
theorem g_sw06 (x : Int32) : (x.toInt < 0 ∨ 6 < x.toInt) ∨ x = 0 ∨ x = 1 ∨ x = 2 ∨ x = 3 ∨ x = 4 ∨ x = 5 ∨ x = 6 := by
  rcases (show (x.toInt < 0 ∨ 6 < x.toInt) ∨ x.toInt = 0 ∨ x.toInt = 1 ∨ x.toInt = 2 ∨ x.toInt = 3 ∨ x.toInt = 4 ∨ x.toInt = 5 ∨ x.toInt = 6 by omega) with h | h | h | h | h | h | h | h
  · exact Or.inl h
  · exact Or.inr (Or.inl (g_toInt (by decide) h))
  · exact Or.inr (Or.inr (Or.inl (g_toInt (by decide) h)))
  · exact Or.inr (Or.inr (Or.inr (Or.inl (g_toInt (by decide) h))))
  · exact Or.inr (Or.inr (Or.inr (Or.inr (Or.inl (g_toInt (by decide) h)))))
  · exact Or.inr (Or.inr (Or.inr (Or.inr (Or.inr (Or.inl (g_toInt (by decide) h))))))
  · exact Or.inr (Or.inr (Or.inr (Or.inr (Or.inr (Or.inr (Or.inl (g_toInt (by decide) h)))))))
  · exact Or.inr (Or.inr (Or.inr (Or.inr (Or.inr (Or.inr (Or.inr (g_toInt (by decide) h)))))))
theorem g_sw07 (x : Int32) : (x.toInt < 0 ∨ 7 < x.toInt) ∨ x = 0 ∨ x = 1 ∨ x = 2 ∨ x = 3 ∨ x = 4 ∨ x = 5 ∨ x = 6 ∨ x = 7 := by
  rcases g_sw06 x with (h | h) | h | h | h | h | h | h | h
  · exact Or.inl (Or.inl h)
  · by_cases h7 : x.toInt = 7
    · exact Or.inr (Or.inr (Or.inr (Or.inr (Or.inr (Or.inr (Or.inr (Or.inr (g_toInt (by decide) h7))))))))
    · exact Or.inl (Or.inr (by omega))
  all_goals simp [h]
set_option maxRecDepth 100000 in
theorem iX2_leave_2 : ∀ w ∈ wsX20, w ∈ wsX2_leave := by decide +kernel
set_option maxHeartbeats 4000000 in
set_option maxRecDepth 100000 in
theorem c_X2_leave (l : Launch) (D : va_G) (cI cH : ClassId) (h : Nat) (q : Nat → Nat) (pf : Nat → Int32) (σ : gh_S) (sz : Nat) (x : Int32) (n w : Nat) (hg : gI n w σ) : gMv l yX2_leave wsX2_leave ({ frames := 0, cells := 0, slots := 0, locals := 0 }) D (wM h q cI pf σ) (gTy cI cH) sz [.ref h, .int (x)] (fun u => u = wM h q cI pf (zLeave σ x)) := by
  refine gEnter (cc := cX2_leave) (maxL := 2) (ret := none) (QF := fun A => va_Qv _ (gPost D A) A) (by decide) rfl (Nat.le_of_ble_eq_true rfl) ?_
  intro p e s m below meth c A ls hX hr hlk hnm hK hN hA hI hl
  have hx := hX.1
  have hb := hX.2.1
  have hts := hX.2.2.2.2
  have hown : s.vm.findClass RX2 = some m.cls := hX.2.2.2.1
  have hin2 := iX2_leave_2
  have hl : lv_has ls 2 [(0, .ref h), (1, .int (x))] := hl
  obtain ⟨hn, hw, ⟨t, ht, htE⟩, hpl, hpar, hrow, hn4, hw30, hz⟩ := id hg
  refine lv_aload_n hx hb dX2_leave_0 rfl (lv_at hl 0 rfl) ?_
  refine mGet (v := .int (σ.2 12)) hX hin2 hK hI 12 (by decide) (hts (.fieldLink RX2 61 "GateHallsModel" "traces" "I") (by decide +kernel)) rfl dX2_leave_1 ?_
  refine lv_bipush (v := 100) hx hb dX2_leave_4 (by decide) ?_
  refine lv_icmp_ge (tgt := 29) hx hb dX2_leave_6 (by decide) (fun c1 => ?_) (fun c1 => ?_)
  · exact gVret hX hr hlk hI (by rw [zLeave, if_pos c1]) dX2_leave_29
  · have ht' := g_lt100 htE ht c1
    refine lv_aload_n hx hb dX2_leave_9 rfl (lv_at hl 0 rfl) ?_
    refine mGet (v := .ref (q 13)) hX hin2 hK hI 13 (by decide) (hts (.fieldLink RX2 40 "GateHallsModel" "traced" "[I") (by decide +kernel)) rfl dX2_leave_10 ?_
    refine lv_aload_n hx hb dX2_leave_13 rfl (lv_at hl 0 rfl) ?_
    refine mGet (v := .int (σ.2 12)) hX hin2 hK hI 12 (by decide) (hts (.fieldLink RX2 61 "GateHallsModel" "traces" "I") (by decide +kernel)) rfl dX2_leave_14 ?_
    refine lv_iload_n hx hb dX2_leave_17 rfl (lv_at hl 1 rfl) ?_
    refine mAst (j := t) (pf' := pf) (σ' := (uA σ 13 (t) (x))) hX hK hI 11 rfl htE (by omega) (by decide) rfl dX2_leave_18 (fun H locs hI => ?_)
    refine lv_aload_n hx hb dX2_leave_19 rfl (lv_at hl 0 rfl) ?_
    refine lv_dup hx hb dX2_leave_20 rfl ?_
    refine mGet (v := .int (σ.2 12)) hX hin2 hK hI 12 (by decide) (hts (.fieldLink RX2 61 "GateHallsModel" "traces" "I") (by decide +kernel)) rfl dX2_leave_21 ?_
    refine lv_iconst (v := 1) hx hb dX2_leave_24 (by decide) ?_
    refine lv_iadd hx hb dX2_leave_25 ?_
    refine mPut hX hin2 hK hI 12 (by decide) (hts (.fieldLink RX2 61 "GateHallsModel" "traces" "I") (by decide +kernel)) rfl rfl rfl dX2_leave_26 (fun H locs hI => ?_)
    exact gVret hX hr hlk hI (by rw [zLeave, if_neg c1, htE, nI_clamp (by omega)]) dX2_leave_29
set_option maxRecDepth 100000 in
theorem iX2_charge_2 : ∀ w ∈ wsX20, w ∈ wsX2_charge := by decide +kernel
set_option maxHeartbeats 4000000 in
set_option maxRecDepth 100000 in
theorem c_X2_charge (l : Launch) (D : va_G) (cI cH : ClassId) (h : Nat) (q : Nat → Nat) (pf : Nat → Int32) (σ : gh_S) (sz : Nat) (i : Nat) (hi : i < 4200) : gMi l yX2_charge wsX2_charge ({ frames := 0, cells := 0, slots := 0, locals := 0 }) D (wM h q cI pf σ) (gTy cI cH) sz [.ref h, .int (nI i)] (fun r u => r = zCharge σ i ∧ u = wM h q cI pf σ) := by
  refine gEnter (cc := cX2_charge) (maxL := 2) (ret := (some .int)) (QF := fun A => va_Qi _ (gPost D A) A) (by decide) rfl (Nat.le_of_ble_eq_true rfl) ?_
  intro p e s m below meth c A ls hX hr hlk hnm hK hN hA hI hl
  have hx := hX.1
  have hb := hX.2.1
  have hts := hX.2.2.2.2
  have hown : s.vm.findClass RX2 = some m.cls := hX.2.2.2.1
  have hin2 := iX2_charge_2
  have hl : lv_has ls 2 [(0, .ref h), (1, .int (nI i))] := hl
  refine lv_aload_n hx hb dX2_charge_0 rfl (lv_at hl 0 rfl) ?_
  refine mGet (v := .ref (q 1)) hX hin2 hK hI 1 (by decide) (hts (.fieldLink RX2 7 "GateHallsModel" "kinds" "[I") (by decide +kernel)) rfl dX2_charge_1 ?_
  refine lv_iload_n hx hb dX2_charge_4 rfl (lv_at hl 1 rfl) ?_
  refine mAld (j := i) hX hK hI 1 rfl rfl (by omega) (by decide) dX2_charge_5 ?_
  refine lv_if_ne (tgt := 18) hx hb dX2_charge_6 (by decide) (fun c1 => ?_) (fun c1 => ?_)
  · refine lv_aload_n hx hb dX2_charge_18 rfl (lv_at hl 0 rfl) ?_
    refine mGet (v := .ref (q 1)) hX hin2 hK hI 1 (by decide) (hts (.fieldLink RX2 7 "GateHallsModel" "kinds" "[I") (by decide +kernel)) rfl dX2_charge_19 ?_
    refine lv_iload_n hx hb dX2_charge_22 rfl (lv_at hl 1 rfl) ?_
    refine mAld (j := i) hX hK hI 1 rfl rfl (by omega) (by decide) dX2_charge_23 ?_
    refine lv_iconst (v := 1) hx hb dX2_charge_24 (by decide) ?_
    refine lv_icmp_ne (tgt := 44) hx hb dX2_charge_25 (by decide) (fun c2 => ?_) (fun c2 => ?_)
    · refine lv_iconst (v := 2) hx hb dX2_charge_44 (by decide) ?_
      refine lv_aload_n hx hb dX2_charge_45 rfl (lv_at hl 0 rfl) ?_
      refine mGet (v := .ref (q 2)) hX hin2 hK hI 2 (by decide) (hts (.fieldLink RX2 13 "GateHallsModel" "fees" "[I") (by decide +kernel)) rfl dX2_charge_46 ?_
      refine lv_iload_n hx hb dX2_charge_49 rfl (lv_at hl 1 rfl) ?_
      refine mAld (j := i) hX hK hI 2 rfl rfl (by omega) (by decide) dX2_charge_50 ?_
      refine lv_aload_n hx hb dX2_charge_51 rfl (lv_at hl 0 rfl) ?_
      refine mGet (v := .ref (q 4)) hX hin2 hK hI 4 (by decide) (hts (.fieldLink RX2 19 "GateHallsModel" "passes" "[I") (by decide +kernel)) rfl dX2_charge_52 ?_
      refine lv_iload_n hx hb dX2_charge_55 rfl (lv_at hl 1 rfl) ?_
      refine mAld (j := i) hX hK hI 4 rfl rfl (by omega) (by decide) dX2_charge_56 ?_
      refine lv_iadd hx hb dX2_charge_57 ?_
      refine lv_imul hx hb dX2_charge_58 ?_
      exact gIret hX hr hlk hI ⟨by rw [zCharge, if_neg c1, if_neg c2], rfl⟩ dX2_charge_59
    · refine lv_aload_n hx hb dX2_charge_28 rfl (lv_at hl 0 rfl) ?_
      refine mGet (v := .ref (q 2)) hX hin2 hK hI 2 (by decide) (hts (.fieldLink RX2 13 "GateHallsModel" "fees" "[I") (by decide +kernel)) rfl dX2_charge_29 ?_
      refine lv_iload_n hx hb dX2_charge_32 rfl (lv_at hl 1 rfl) ?_
      refine mAld (j := i) hX hK hI 2 rfl rfl (by omega) (by decide) dX2_charge_33 ?_
      refine lv_aload_n hx hb dX2_charge_34 rfl (lv_at hl 0 rfl) ?_
      refine mGet (v := .ref (q 4)) hX hin2 hK hI 4 (by decide) (hts (.fieldLink RX2 19 "GateHallsModel" "passes" "[I") (by decide +kernel)) rfl dX2_charge_35 ?_
      refine lv_iload_n hx hb dX2_charge_38 rfl (lv_at hl 1 rfl) ?_
      refine mAld (j := i) hX hK hI 4 rfl rfl (by omega) (by decide) dX2_charge_39 ?_
      refine lv_iadd hx hb dX2_charge_40 ?_
      refine lv_goto (tgt := 59) hx hb dX2_charge_41 (by decide) ?_
      exact gIret hX hr hlk hI ⟨by rw [zCharge, if_neg c1, if_pos c2], rfl⟩ dX2_charge_59
  · refine lv_aload_n hx hb dX2_charge_9 rfl (lv_at hl 0 rfl) ?_
    refine mGet (v := .ref (q 2)) hX hin2 hK hI 2 (by decide) (hts (.fieldLink RX2 13 "GateHallsModel" "fees" "[I") (by decide +kernel)) rfl dX2_charge_10 ?_
    refine lv_iload_n hx hb dX2_charge_13 rfl (lv_at hl 1 rfl) ?_
    refine mAld (j := i) hX hK hI 2 rfl rfl (by omega) (by decide) dX2_charge_14 ?_
    refine lv_goto (tgt := 59) hx hb dX2_charge_15 (by decide) ?_
    exact gIret hX hr hlk hI ⟨by rw [zCharge, if_pos c1], rfl⟩ dX2_charge_59
set_option maxRecDepth 100000 in
theorem iX2_fill_2 : ∀ w ∈ wsX20, w ∈ wsX2_fill := by decide +kernel
set_option maxHeartbeats 4000000 in
set_option maxRecDepth 100000 in
theorem c_X2_fill (l : Launch) (D : va_G) (cI cH : ClassId) (h : Nat) (q : Nat → Nat) (pf : Nat → Int32) (σ : gh_S) (sz : Nat) (x : Int32) : gMi l yX2_fill wsX2_fill ({ frames := 1, cells := 0, slots := 0, locals := 22 }) D (wM h q cI pf σ) (gTy cI cH) sz [.ref h, .int (x)] (fun r u => r = (sFill σ x).1 ∧ u = wM h q cI pf (sFill σ x).2) := by
  refine gEnter (cc := cX2_fill) (maxL := 2) (ret := (some .int)) (QF := fun A => va_Qi _ (gPost D A) A) (by decide) rfl (Nat.le_of_ble_eq_true rfl) ?_
  intro p e s m below meth c A ls hX hr hlk hnm hK hN hA hI hl
  have hx := hX.1
  have hb := hX.2.1
  have hts := hX.2.2.2.2
  have hown : s.vm.findClass RX2 = some m.cls := hX.2.2.2.1
  have hin2 := iX2_fill_2
  have hl : lv_has ls 2 [(0, .ref h), (1, .int (x))] := hl
  refine lv_iload_n hx hb dX2_fill_0 rfl (lv_at hl 1 rfl) ?_
  refine lv_iconst (v := 0) hx hb dX2_fill_1 (by decide) ?_
  refine lv_sipush (v := 1000) hx hb dX2_fill_2 (by decide) ?_
  refine vp_callSi (W.runS (As := [.int (x), .int (0), .int (1000)]) (rest := []) hX (c_X2_in l (x) (0) (1000)) (va_cwS 3 hts gX2_fill_X2_in rfl rfl rfl (by decide +kernel) ⟨Nat.le_of_ble_eq_true rfl, Nat.le_of_ble_eq_true rfl⟩) preEq rfl rfl hl.1 rfl (lv_room (Nat.le_of_ble_eq_true rfl)) dX2_fill_5 ⟨Nat.le_of_ble_eq_true rfl, Nat.le_of_ble_eq_true rfl⟩) (fun r1 hr1 => ?_)
  rcases hr1 with ⟨rfl, ha_r1, hb_r1⟩ | ⟨rfl, hc_r1⟩
  · refine lv_if_ne (tgt := 13) hx hb dX2_fill_8 (by decide) (fun c2 => ?_) (fun c2 => False.elim (by revert c2; decide))
    refine lv_aload_n hx hb dX2_fill_13 rfl (lv_at hl 0 rfl) ?_
    refine lv_aload_n hx hb dX2_fill_14 rfl (lv_at hl 0 rfl) ?_
    refine mGet (v := .int (σ.2 11)) hX hin2 hK hI 11 (by decide) (hts (.fieldLink RX2 57 "GateHallsModel" "purse" "I") (by decide +kernel)) rfl dX2_fill_15 ?_
    refine lv_iload_n hx hb dX2_fill_18 rfl (lv_at hl 1 rfl) ?_
    refine lv_iadd hx hb dX2_fill_19 ?_
    refine lv_ldc (v := 1000000) hx hb hown (hts (.constant RX2 60 (1000000)) (by decide +kernel)) dX2_fill_20 ?_
    refine lv_icmp_le (tgt := 30) hx hb dX2_fill_22 (by decide) (fun c3 => ?_) (fun c3 => ?_)
    · refine lv_aload_n hx hb dX2_fill_30 rfl (lv_at hl 0 rfl) ?_
      refine mGet (v := .int (σ.2 11)) hX hin2 hK hI 11 (by decide) (hts (.fieldLink RX2 57 "GateHallsModel" "purse" "I") (by decide +kernel)) rfl dX2_fill_31 ?_
      refine lv_iload_n hx hb dX2_fill_34 rfl (lv_at hl 1 rfl) ?_
      refine lv_iadd hx hb dX2_fill_35 ?_
      refine mPut hX hin2 hK hI 11 (by decide) (hts (.fieldLink RX2 57 "GateHallsModel" "purse" "I") (by decide +kernel)) rfl rfl rfl dX2_fill_36 (fun H locs hI => ?_)
      refine lv_aload_n hx hb dX2_fill_39 rfl (lv_at hl 0 rfl) ?_
      refine mGet (v := .int ((σ.2 11) + (x))) hX hin2 hK hI 11 (by decide) (hts (.fieldLink RX2 57 "GateHallsModel" "purse" "I") (by decide +kernel)) rfl dX2_fill_40 ?_
      exact gIret hX hr hlk hI (by rw [sFill, if_neg (fun h => h.elim ha_r1 hb_r1), zMin, if_pos c3]; exact ⟨rfl, rfl⟩) dX2_fill_43
    · refine lv_ldc (v := 1000000) hx hb hown (hts (.constant RX2 60 (1000000)) (by decide +kernel)) dX2_fill_25 ?_
      refine lv_goto (tgt := 36) hx hb dX2_fill_27 (by decide) ?_
      refine mPut hX hin2 hK hI 11 (by decide) (hts (.fieldLink RX2 57 "GateHallsModel" "purse" "I") (by decide +kernel)) rfl rfl rfl dX2_fill_36 (fun H locs hI => ?_)
      refine lv_aload_n hx hb dX2_fill_39 rfl (lv_at hl 0 rfl) ?_
      refine mGet (v := .int (1000000)) hX hin2 hK hI 11 (by decide) (hts (.fieldLink RX2 57 "GateHallsModel" "purse" "I") (by decide +kernel)) rfl dX2_fill_40 ?_
      exact gIret hX hr hlk hI (by rw [sFill, if_neg (fun h => h.elim ha_r1 hb_r1), zMin, if_neg c3]; exact ⟨rfl, rfl⟩) dX2_fill_43
  · refine lv_if_ne (tgt := 13) hx hb dX2_fill_8 (by decide) (fun c4 => False.elim (by revert c4; decide)) (fun c4 => ?_)
    refine lv_iconst (v := (-1)) hx hb dX2_fill_11 (by decide) ?_
    exact gIret hX hr hlk hI (by rw [sFill, if_pos hc_r1]; exact ⟨rfl, rfl⟩) dX2_fill_12
set_option maxRecDepth 100000 in
theorem iX2_parent_2 : ∀ w ∈ wsX20, w ∈ wsX2_parent := by decide +kernel
set_option maxHeartbeats 4000000 in
set_option maxRecDepth 100000 in
theorem c_X2_parent (l : Launch) (D : va_G) (cI cH : ClassId) (h : Nat) (q : Nat → Nat) (pf : Nat → Int32) (σ : gh_S) (sz : Nat) (x o : Int32) : gMi l yX2_parent wsX2_parent ({ frames := 1, cells := 0, slots := 0, locals := 22 }) D (wM h q cI pf σ) (gTy cI cH) sz [.ref h, .int (x), .int (o)] (fun r u => r = (sParent σ x o).1 ∧ u = wM h q cI pf (sParent σ x o).2) := by
  refine gEnter (cc := cX2_parent) (maxL := 4) (ret := (some .int)) (QF := fun A => va_Qi _ (gPost D A) A) (by decide) rfl (Nat.le_of_ble_eq_true rfl) ?_
  intro p e s m below meth c A ls hX hr hlk hnm hK hN hA hI hl
  have hx := hX.1
  have hb := hX.2.1
  have hts := hX.2.2.2.2
  have hown : s.vm.findClass RX2 = some m.cls := hX.2.2.2.1
  have hin2 := iX2_parent_2
  have hl : lv_has ls 4 [(0, .ref h), (1, .int (x)), (2, .int (o))] := hl
  refine lv_iload_n hx hb dX2_parent_0 rfl (lv_at hl 1 rfl) ?_
  refine lv_iconst (v := 0) hx hb dX2_parent_1 (by decide) ?_
  refine lv_bipush (v := 9) hx hb dX2_parent_2 (by decide) ?_
  refine vp_callSi (W.runS (As := [.int (x), .int (0), .int (9)]) (rest := []) hX (c_X2_in l (x) (0) (9)) (va_cwS 3 hts gX2_parent_X2_in rfl rfl rfl (by decide +kernel) ⟨Nat.le_of_ble_eq_true rfl, Nat.le_of_ble_eq_true rfl⟩) preEq rfl rfl hl.1 rfl (lv_room (Nat.le_of_ble_eq_true rfl)) dX2_parent_4 ⟨Nat.le_of_ble_eq_true rfl, Nat.le_of_ble_eq_true rfl⟩) (fun r1 hr1 => ?_)
  rcases hr1 with ⟨rfl, ha_r1, hb_r1⟩ | ⟨rfl, hc_r1⟩
  · refine lv_if_eq (tgt := 20) hx hb dX2_parent_7 (by decide) (fun c2 => False.elim (by revert c2; decide)) (fun c2 => ?_)
    refine lv_iload_n hx hb dX2_parent_10 rfl (lv_at hl 2 rfl) ?_
    refine lv_iconst (v := (-1)) hx hb dX2_parent_11 (by decide) ?_
    refine lv_bipush (v := 9) hx hb dX2_parent_12 (by decide) ?_
    refine vp_callSi (W.runS (As := [.int (o), .int ((-1)), .int (9)]) (rest := []) hX (c_X2_in l (o) ((-1)) (9)) (va_cwS 3 hts gX2_parent_X2_in rfl rfl rfl (by decide +kernel) ⟨Nat.le_of_ble_eq_true rfl, Nat.le_of_ble_eq_true rfl⟩) preEq rfl rfl hl.1 rfl (lv_room (Nat.le_of_ble_eq_true rfl)) dX2_parent_14 ⟨Nat.le_of_ble_eq_true rfl, Nat.le_of_ble_eq_true rfl⟩) (fun r3 hr3 => ?_)
    rcases hr3 with ⟨rfl, ha_r3, hb_r3⟩ | ⟨rfl, hc_r3⟩
    · refine lv_if_ne (tgt := 23) hx hb dX2_parent_17 (by decide) (fun c4 => ?_) (fun c4 => False.elim (by revert c4; decide))
      obtain ⟨j, hj, hjE, hjC⟩ := g_pl ha_r1 hb_r1
      refine lv_aload_n hx hb dX2_parent_23 rfl (lv_at hl 0 rfl) ?_
      refine mGet (v := .ref (q 10)) hX hin2 hK hI 10 (by decide) (hts (.fieldLink RX2 37 "GateHallsModel" "parents" "[I") (by decide +kernel)) rfl dX2_parent_24 ?_
      refine lv_iload_n hx hb dX2_parent_27 rfl (lv_at hl 1 rfl) ?_
      refine mAld (j := j) hX hK hI 10 rfl hjE (by omega) (by decide) dX2_parent_28 ?_
      refine lv_istore_n (lv' := [(3, .int (σ.1 10 (j))), (0, .ref h), (1, .int (x)), (2, .int (o))]) hx hb dX2_parent_29 rfl hl (by decide) rfl (fun ls hl => ?_)
      refine lv_aload_n hx hb dX2_parent_30 rfl (lv_at hl 1 rfl) ?_
      refine mGet (v := .ref (q 10)) hX hin2 hK hI 10 (by decide) (hts (.fieldLink RX2 37 "GateHallsModel" "parents" "[I") (by decide +kernel)) rfl dX2_parent_31 ?_
      refine lv_iload_n hx hb dX2_parent_34 rfl (lv_at hl 2 rfl) ?_
      refine lv_iload_n hx hb dX2_parent_35 rfl (lv_at hl 3 rfl) ?_
      refine mAst (j := j) (pf' := pf) (σ' := (uA σ 10 (j) (o))) hX hK hI 10 rfl hjE (by omega) (by decide) rfl dX2_parent_36 (fun H locs hI => ?_)
      refine lv_iload_n hx hb dX2_parent_37 rfl (lv_at hl 0 rfl) ?_
      exact gIret hX hr hlk hI (by rw [sParent, if_neg (fun h => h.elim ha_r1 (fun h => h.elim hb_r1 (fun h => h.elim ha_r3 hb_r3))), hjC]; exact ⟨rfl, rfl⟩) dX2_parent_38
    · refine lv_if_ne (tgt := 23) hx hb dX2_parent_17 (by decide) (fun c5 => False.elim (by revert c5; decide)) (fun c5 => ?_)
      refine lv_bipush (v := (-2)) hx hb dX2_parent_20 (by decide) ?_
      exact gIret hX hr hlk hI (by rw [sParent, if_pos (Or.inr (Or.inr hc_r3))]; exact ⟨rfl, rfl⟩) dX2_parent_22
  · refine lv_if_eq (tgt := 20) hx hb dX2_parent_7 (by decide) (fun c6 => ?_) (fun c6 => False.elim (by revert c6; decide))
    refine lv_bipush (v := (-2)) hx hb dX2_parent_20 (by decide) ?_
    exact gIret hX hr hlk hI (by rw [sParent, if_pos (hc_r1.elim Or.inl (fun h => Or.inr (Or.inl h)))]; exact ⟨rfl, rfl⟩) dX2_parent_22
set_option maxRecDepth 100000 in
theorem iX2_share_2 : ∀ w ∈ wsX20, w ∈ wsX2_share := by decide +kernel
set_option maxHeartbeats 4000000 in
set_option maxRecDepth 100000 in
theorem c_X2_share (l : Launch) (D : va_G) (cI cH : ClassId) (h : Nat) (q : Nat → Nat) (pf : Nat → Int32) (σ : gh_S) (sz : Nat) (x y : Int32) : gMi l yX2_share wsX2_share ({ frames := 1, cells := 0, slots := 0, locals := 22 }) D (wM h q cI pf σ) (gTy cI cH) sz [.ref h, .int (x), .int (y)] (fun r u => r = (sShare σ x y).1 ∧ u = wM h q cI pf (sShare σ x y).2) := by
  refine gEnter (cc := cX2_share) (maxL := 3) (ret := (some .int)) (QF := fun A => va_Qi _ (gPost D A) A) (by decide) rfl (Nat.le_of_ble_eq_true rfl) ?_
  intro p e s m below meth c A ls hX hr hlk hnm hK hN hA hI hl
  have hx := hX.1
  have hb := hX.2.1
  have hts := hX.2.2.2.2
  have hown : s.vm.findClass RX2 = some m.cls := hX.2.2.2.1
  have hin2 := iX2_share_2
  have hl : lv_has ls 3 [(0, .ref h), (1, .int (x)), (2, .int (y))] := hl
  refine lv_iload_n hx hb dX2_share_0 rfl (lv_at hl 1 rfl) ?_
  refine lv_iconst (v := 0) hx hb dX2_share_1 (by decide) ?_
  refine lv_bipush (v := 9) hx hb dX2_share_2 (by decide) ?_
  refine vp_callSi (W.runS (As := [.int (x), .int (0), .int (9)]) (rest := []) hX (c_X2_in l (x) (0) (9)) (va_cwS 3 hts gX2_share_X2_in rfl rfl rfl (by decide +kernel) ⟨Nat.le_of_ble_eq_true rfl, Nat.le_of_ble_eq_true rfl⟩) preEq rfl rfl hl.1 rfl (lv_room (Nat.le_of_ble_eq_true rfl)) dX2_share_4 ⟨Nat.le_of_ble_eq_true rfl, Nat.le_of_ble_eq_true rfl⟩) (fun r1 hr1 => ?_)
  rcases hr1 with ⟨rfl, ha_r1, hb_r1⟩ | ⟨rfl, hc_r1⟩
  · refine lv_if_eq (tgt := 20) hx hb dX2_share_7 (by decide) (fun c2 => False.elim (by revert c2; decide)) (fun c2 => ?_)
    refine lv_iload_n hx hb dX2_share_10 rfl (lv_at hl 2 rfl) ?_
    refine lv_iconst (v := 0) hx hb dX2_share_11 (by decide) ?_
    refine lv_bipush (v := 9) hx hb dX2_share_12 (by decide) ?_
    refine vp_callSi (W.runS (As := [.int (y), .int (0), .int (9)]) (rest := []) hX (c_X2_in l (y) (0) (9)) (va_cwS 3 hts gX2_share_X2_in rfl rfl rfl (by decide +kernel) ⟨Nat.le_of_ble_eq_true rfl, Nat.le_of_ble_eq_true rfl⟩) preEq rfl rfl hl.1 rfl (lv_room (Nat.le_of_ble_eq_true rfl)) dX2_share_14 ⟨Nat.le_of_ble_eq_true rfl, Nat.le_of_ble_eq_true rfl⟩) (fun r3 hr3 => ?_)
    rcases hr3 with ⟨rfl, ha_r3, hb_r3⟩ | ⟨rfl, hc_r3⟩
    · refine lv_if_ne (tgt := 22) hx hb dX2_share_17 (by decide) (fun c4 => ?_) (fun c4 => False.elim (by revert c4; decide))
      obtain ⟨j, hj, hjE, hjC⟩ := g_pl ha_r1 hb_r1
      obtain ⟨k, hk, hkE, hkC⟩ := g_pl ha_r3 hb_r3
      refine lv_aload_n hx hb dX2_share_22 rfl (lv_at hl 0 rfl) ?_
      refine mGet (v := .ref (q 9)) hX hin2 hK hI 9 (by decide) (hts (.fieldLink RX2 34 "GateHallsModel" "places" "[I") (by decide +kernel)) rfl dX2_share_23 ?_
      refine lv_iload_n hx hb dX2_share_26 rfl (lv_at hl 2 rfl) ?_
      refine lv_aload_n hx hb dX2_share_27 rfl (lv_at hl 0 rfl) ?_
      refine mGet (v := .ref (q 9)) hX hin2 hK hI 9 (by decide) (hts (.fieldLink RX2 34 "GateHallsModel" "places" "[I") (by decide +kernel)) rfl dX2_share_28 ?_
      refine lv_iload_n hx hb dX2_share_31 rfl (lv_at hl 1 rfl) ?_
      refine mAld (j := j) hX hK hI 9 rfl hjE (by omega) (by decide) dX2_share_32 ?_
      refine mAst (j := k) (pf' := pf) (σ' := (uA σ 9 (k) (σ.1 9 (j)))) hX hK hI 9 rfl hkE (by omega) (by decide) rfl dX2_share_33 (fun H locs hI => ?_)
      refine lv_aload_n hx hb dX2_share_34 rfl (lv_at hl 0 rfl) ?_
      refine mGet (v := .ref (q 9)) hX hin2 hK hI 9 (by decide) (hts (.fieldLink RX2 34 "GateHallsModel" "places" "[I") (by decide +kernel)) rfl dX2_share_35 ?_
      refine lv_iload_n hx hb dX2_share_38 rfl (lv_at hl 2 rfl) ?_
      refine mAld (j := k) hX hK hI 9 rfl hkE (by omega) (by decide) dX2_share_39 ?_
      refine gTop (y := σ.1 9 (j)) (by simp [uA, uS, upd]) ?_
      refine lv_iconst (v := (-1)) hx hb dX2_share_40 (by decide) ?_
      refine lv_icmp_ne (tgt := 48) hx hb dX2_share_41 (by decide) (fun c5 => ?_) (fun c5 => ?_)
      · refine lv_iconst (v := 1) hx hb dX2_share_48 (by decide) ?_
        exact gIret hX hr hlk hI (by rw [sShare, if_neg (fun h => h.elim ha_r1 (fun h => h.elim hb_r1 (fun h => h.elim ha_r3 hb_r3))), hjC, hkC, if_neg c5]; exact ⟨rfl, rfl⟩) dX2_share_49
      · refine lv_iconst (v := 0) hx hb dX2_share_44 (by decide) ?_
        refine lv_goto (tgt := 49) hx hb dX2_share_45 (by decide) ?_
        exact gIret hX hr hlk hI (by rw [sShare, if_neg (fun h => h.elim ha_r1 (fun h => h.elim hb_r1 (fun h => h.elim ha_r3 hb_r3))), hjC, hkC, if_pos c5]; exact ⟨rfl, rfl⟩) dX2_share_49
    · refine lv_if_ne (tgt := 22) hx hb dX2_share_17 (by decide) (fun c6 => False.elim (by revert c6; decide)) (fun c6 => ?_)
      refine lv_iconst (v := (-1)) hx hb dX2_share_20 (by decide) ?_
      exact gIret hX hr hlk hI (by rw [sShare, if_pos (Or.inr (Or.inr hc_r3))]; exact ⟨rfl, rfl⟩) dX2_share_21
  · refine lv_if_eq (tgt := 20) hx hb dX2_share_7 (by decide) (fun c7 => ?_) (fun c7 => False.elim (by revert c7; decide))
    refine lv_iconst (v := (-1)) hx hb dX2_share_20 (by decide) ?_
    exact gIret hX hr hlk hI (by rw [sShare, if_pos (hc_r1.elim Or.inl (fun h => Or.inr (Or.inl h)))]; exact ⟨rfl, rfl⟩) dX2_share_21
set_option maxRecDepth 100000 in
theorem iX2_hall_2 : ∀ w ∈ wsX20, w ∈ wsX2_hall := by decide +kernel
set_option maxHeartbeats 4000000 in
set_option maxRecDepth 100000 in
theorem c_X2_hall (l : Launch) (D : va_G) (cI cH : ClassId) (h : Nat) (q : Nat → Nat) (pf : Nat → Int32) (σ : gh_S) (sz : Nat) (x k f : Int32) (n w : Nat) (hg : gI n w σ) : gMi l yX2_hall wsX2_hall ({ frames := 1, cells := 0, slots := 0, locals := 22 }) D (wM h q cI pf σ) (gTy cI cH) sz [.ref h, .int (x), .int (k), .int (f)] (fun r u => r = (sHall σ x k f).1 ∧ u = wM h q cI pf (sHall σ x k f).2) := by
  refine gEnter (cc := cX2_hall) (maxL := 4) (ret := (some .int)) (QF := fun A => va_Qi _ (gPost D A) A) (by decide) rfl (Nat.le_of_ble_eq_true rfl) ?_
  intro p e s m below meth c A ls hX hr hlk hnm hK hN hA hI hl
  have hx := hX.1
  have hb := hX.2.1
  have hts := hX.2.2.2.2
  have hown : s.vm.findClass RX2 = some m.cls := hX.2.2.2.1
  have hin2 := iX2_hall_2
  have hl : lv_has ls 4 [(0, .ref h), (1, .int (x)), (2, .int (k)), (3, .int (f))] := hl
  obtain ⟨hn, hw, ⟨t, ht, htE⟩, hpl, hpar, hrow, hn4, hw30, hz⟩ := id hg
  refine lv_iload_n hx hb dX2_hall_0 rfl (lv_at hl 1 rfl) ?_
  refine lv_iconst (v := 0) hx hb dX2_hall_1 (by decide) ?_
  refine lv_bipush (v := 9) hx hb dX2_hall_2 (by decide) ?_
  refine vp_callSi (W.runS (As := [.int (x), .int (0), .int (9)]) (rest := []) hX (c_X2_in l (x) (0) (9)) (va_cwS 3 hts gX2_hall_X2_in rfl rfl rfl (by decide +kernel) ⟨Nat.le_of_ble_eq_true rfl, Nat.le_of_ble_eq_true rfl⟩) preEq rfl rfl hl.1 rfl (lv_room (Nat.le_of_ble_eq_true rfl)) dX2_hall_4 ⟨Nat.le_of_ble_eq_true rfl, Nat.le_of_ble_eq_true rfl⟩) (fun r1 hr1 => ?_)
  rcases hr1 with ⟨rfl, ha_r1, hb_r1⟩ | ⟨rfl, hc_r1⟩
  · refine lv_if_eq (tgt := 30) hx hb dX2_hall_7 (by decide) (fun c2 => False.elim (by revert c2; decide)) (fun c2 => ?_)
    refine lv_iload_n hx hb dX2_hall_10 rfl (lv_at hl 2 rfl) ?_
    refine lv_iconst (v := 0) hx hb dX2_hall_11 (by decide) ?_
    refine lv_iconst (v := 2) hx hb dX2_hall_12 (by decide) ?_
    refine vp_callSi (W.runS (As := [.int (k), .int (0), .int (2)]) (rest := []) hX (c_X2_in l (k) (0) (2)) (va_cwS 3 hts gX2_hall_X2_in rfl rfl rfl (by decide +kernel) ⟨Nat.le_of_ble_eq_true rfl, Nat.le_of_ble_eq_true rfl⟩) preEq rfl rfl hl.1 rfl (lv_room (Nat.le_of_ble_eq_true rfl)) dX2_hall_13 ⟨Nat.le_of_ble_eq_true rfl, Nat.le_of_ble_eq_true rfl⟩) (fun r3 hr3 => ?_)
    rcases hr3 with ⟨rfl, ha_r3, hb_r3⟩ | ⟨rfl, hc_r3⟩
    · refine lv_if_eq (tgt := 30) hx hb dX2_hall_16 (by decide) (fun c4 => False.elim (by revert c4; decide)) (fun c4 => ?_)
      refine lv_iload_n hx hb dX2_hall_19 rfl (lv_at hl 3 rfl) ?_
      refine lv_iconst (v := 0) hx hb dX2_hall_20 (by decide) ?_
      refine lv_sipush (v := 1000) hx hb dX2_hall_21 (by decide) ?_
      refine vp_callSi (W.runS (As := [.int (f), .int (0), .int (1000)]) (rest := []) hX (c_X2_in l (f) (0) (1000)) (va_cwS 3 hts gX2_hall_X2_in rfl rfl rfl (by decide +kernel) ⟨Nat.le_of_ble_eq_true rfl, Nat.le_of_ble_eq_true rfl⟩) preEq rfl rfl hl.1 rfl (lv_room (Nat.le_of_ble_eq_true rfl)) dX2_hall_24 ⟨Nat.le_of_ble_eq_true rfl, Nat.le_of_ble_eq_true rfl⟩) (fun r5 hr5 => ?_)
      rcases hr5 with ⟨rfl, ha_r5, hb_r5⟩ | ⟨rfl, hc_r5⟩
      · refine lv_if_ne (tgt := 32) hx hb dX2_hall_27 (by decide) (fun c6 => ?_) (fun c6 => False.elim (by revert c6; decide))
        obtain ⟨j, hj, hjE, hjC⟩ := g_pl ha_r1 hb_r1
        have hnC : (σ.2 0).toNatClampNeg = n := by rw [hn]; exact nI_clamp (by omega)
        refine lv_aload_n hx hb dX2_hall_32 rfl (lv_at hl 0 rfl) ?_
        refine mGet (v := .ref (q 1)) hX hin2 hK hI 1 (by decide) (hts (.fieldLink RX2 7 "GateHallsModel" "kinds" "[I") (by decide +kernel)) rfl dX2_hall_33 ?_
        refine lv_aload_n hx hb dX2_hall_36 rfl (lv_at hl 0 rfl) ?_
        refine mGet (v := .int (σ.2 0)) hX hin2 hK hI 0 (by decide) (hts (.fieldLink RX2 53 "GateHallsModel" "halls" "I") (by decide +kernel)) rfl dX2_hall_37 ?_
        refine lv_iload_n hx hb dX2_hall_40 rfl (lv_at hl 2 rfl) ?_
        refine mAst (j := n) (pf' := pf) (σ' := (uA σ 1 (n) (k))) hX hK hI 1 rfl hn (by omega) (by decide) rfl dX2_hall_41 (fun H locs hI => ?_)
        refine lv_aload_n hx hb dX2_hall_42 rfl (lv_at hl 0 rfl) ?_
        refine mGet (v := .ref (q 2)) hX hin2 hK hI 2 (by decide) (hts (.fieldLink RX2 13 "GateHallsModel" "fees" "[I") (by decide +kernel)) rfl dX2_hall_43 ?_
        refine lv_aload_n hx hb dX2_hall_46 rfl (lv_at hl 0 rfl) ?_
        refine mGet (v := .int (σ.2 0)) hX hin2 hK hI 0 (by decide) (hts (.fieldLink RX2 53 "GateHallsModel" "halls" "I") (by decide +kernel)) rfl dX2_hall_47 ?_
        refine lv_iload_n hx hb dX2_hall_50 rfl (lv_at hl 3 rfl) ?_
        refine mAst (j := n) (pf' := pf) (σ' := (uA (uA σ 1 (n) (k)) 2 (n) (f))) hX hK hI 2 rfl hn (by omega) (by decide) rfl dX2_hall_51 (fun H locs hI => ?_)
        refine lv_aload_n hx hb dX2_hall_52 rfl (lv_at hl 0 rfl) ?_
        refine mGet (v := .ref (q 9)) hX hin2 hK hI 9 (by decide) (hts (.fieldLink RX2 34 "GateHallsModel" "places" "[I") (by decide +kernel)) rfl dX2_hall_53 ?_
        refine lv_iload_n hx hb dX2_hall_56 rfl (lv_at hl 1 rfl) ?_
        refine lv_aload_n hx hb dX2_hall_57 rfl (lv_at hl 0 rfl) ?_
        refine mGet (v := .int (σ.2 0)) hX hin2 hK hI 0 (by decide) (hts (.fieldLink RX2 53 "GateHallsModel" "halls" "I") (by decide +kernel)) rfl dX2_hall_58 ?_
        refine mAst (j := j) (pf' := pf) (σ' := (uA (uA (uA σ 1 (n) (k)) 2 (n) (f)) 9 (j) (σ.2 0))) hX hK hI 9 rfl hjE (by omega) (by decide) rfl dX2_hall_61 (fun H locs hI => ?_)
        refine lv_aload_n hx hb dX2_hall_62 rfl (lv_at hl 0 rfl) ?_
        refine lv_dup hx hb dX2_hall_63 rfl ?_
        refine mGet (v := .int (σ.2 0)) hX hin2 hK hI 0 (by decide) (hts (.fieldLink RX2 53 "GateHallsModel" "halls" "I") (by decide +kernel)) rfl dX2_hall_64 ?_
        refine lv_iconst (v := 1) hx hb dX2_hall_67 (by decide) ?_
        refine lv_iadd hx hb dX2_hall_68 ?_
        refine mPut hX hin2 hK hI 0 (by decide) (hts (.fieldLink RX2 53 "GateHallsModel" "halls" "I") (by decide +kernel)) rfl rfl rfl dX2_hall_69 (fun H locs hI => ?_)
        refine lv_aload_n hx hb dX2_hall_72 rfl (lv_at hl 0 rfl) ?_
        refine mGet (v := .int ((σ.2 0) + (1))) hX hin2 hK hI 0 (by decide) (hts (.fieldLink RX2 53 "GateHallsModel" "halls" "I") (by decide +kernel)) rfl dX2_hall_73 ?_
        refine lv_iconst (v := 1) hx hb dX2_hall_76 (by decide) ?_
        refine lv_isub hx hb dX2_hall_77 ?_
        exact gIret hX hr hlk hI (by rw [sHall, if_neg (fun h => h.elim ha_r1 (fun h => h.elim hb_r1 (fun h => h.elim ha_r3 (fun h => h.elim hb_r3 (fun h => h.elim ha_r5 hb_r5))))), hjC, hnC]; exact ⟨Int32.add_sub_cancel _ _, rfl⟩) dX2_hall_78
      · refine lv_if_ne (tgt := 32) hx hb dX2_hall_27 (by decide) (fun c7 => False.elim (by revert c7; decide)) (fun c7 => ?_)
        refine lv_iconst (v := (-1)) hx hb dX2_hall_30 (by decide) ?_
        exact gIret hX hr hlk hI (by rw [sHall, if_pos (Or.inr (Or.inr (Or.inr (Or.inr hc_r5))))]; exact ⟨rfl, rfl⟩) dX2_hall_31
    · refine lv_if_eq (tgt := 30) hx hb dX2_hall_16 (by decide) (fun c8 => ?_) (fun c8 => False.elim (by revert c8; decide))
      refine lv_iconst (v := (-1)) hx hb dX2_hall_30 (by decide) ?_
      exact gIret hX hr hlk hI (by rw [sHall, if_pos (Or.inr (Or.inr (hc_r3.elim Or.inl (fun h => Or.inr (Or.inl h)))))]; exact ⟨rfl, rfl⟩) dX2_hall_31
  · refine lv_if_eq (tgt := 30) hx hb dX2_hall_7 (by decide) (fun c9 => ?_) (fun c9 => False.elim (by revert c9; decide))
    refine lv_iconst (v := (-1)) hx hb dX2_hall_30 (by decide) ?_
    exact gIret hX hr hlk hI (by rw [sHall, if_pos (hc_r1.elim Or.inl (fun h => Or.inr (Or.inl h)))]; exact ⟨rfl, rfl⟩) dX2_hall_31
set_option maxRecDepth 100000 in
theorem iX2_gifts_2 : ∀ w ∈ wsX20, w ∈ wsX2_gifts := by decide +kernel
set_option maxHeartbeats 4000000 in
set_option maxRecDepth 100000 in
theorem c_X2_gifts (l : Launch) (D : va_G) (cI cH : ClassId) (h : Nat) (q : Nat → Nat) (pf : Nat → Int32) (σ : gh_S) (sz : Nat) (x : Int32) (n w : Nat) (hg : gI n w σ) : gMi l yX2_gifts wsX2_gifts ({ frames := 1, cells := 0, slots := 0, locals := 22 }) D (wM h q cI pf σ) (gTy cI cH) sz [.ref h, .int (x)] (fun r u => r = sGifts σ x ∧ u = wM h q cI pf σ) := by
  refine gEnter (cc := cX2_gifts) (maxL := 2) (ret := (some .int)) (QF := fun A => va_Qi _ (gPost D A) A) (by decide) rfl (Nat.le_of_ble_eq_true rfl) ?_
  intro p e s m below meth c A ls hX hr hlk hnm hK hN hA hI hl
  have hx := hX.1
  have hb := hX.2.1
  have hts := hX.2.2.2.2
  have hown : s.vm.findClass RX2 = some m.cls := hX.2.2.2.1
  have hin2 := iX2_gifts_2
  have hl : lv_has ls 2 [(0, .ref h), (1, .int (x))] := hl
  obtain ⟨hn, hw, ⟨t, ht, htE⟩, hpl, hpar, hrow, hn4, hw30, hz⟩ := id hg
  refine lv_iload_n hx hb dX2_gifts_0 rfl (lv_at hl 1 rfl) ?_
  refine lv_iconst (v := 0) hx hb dX2_gifts_1 (by decide) ?_
  refine lv_bipush (v := 9) hx hb dX2_gifts_2 (by decide) ?_
  refine vp_callSi (W.runS (As := [.int (x), .int (0), .int (9)]) (rest := []) hX (c_X2_in l (x) (0) (9)) (va_cwS 3 hts gX2_gifts_X2_in rfl rfl rfl (by decide +kernel) ⟨Nat.le_of_ble_eq_true rfl, Nat.le_of_ble_eq_true rfl⟩) preEq rfl rfl hl.1 rfl (lv_room (Nat.le_of_ble_eq_true rfl)) dX2_gifts_4 ⟨Nat.le_of_ble_eq_true rfl, Nat.le_of_ble_eq_true rfl⟩) (fun r1 hr1 => ?_)
  rcases hr1 with ⟨rfl, ha_r1, hb_r1⟩ | ⟨rfl, hc_r1⟩
  · refine lv_if_eq (tgt := 34) hx hb dX2_gifts_7 (by decide) (fun c2 => False.elim (by revert c2; decide)) (fun c2 => ?_)
    obtain ⟨j, hj, hjE, hjC⟩ := g_pl ha_r1 hb_r1
    refine lv_aload_n hx hb dX2_gifts_10 rfl (lv_at hl 0 rfl) ?_
    refine mGet (v := .ref (q 9)) hX hin2 hK hI 9 (by decide) (hts (.fieldLink RX2 34 "GateHallsModel" "places" "[I") (by decide +kernel)) rfl dX2_gifts_11 ?_
    refine lv_iload_n hx hb dX2_gifts_14 rfl (lv_at hl 1 rfl) ?_
    refine mAld (j := j) hX hK hI 9 rfl hjE (by omega) (by decide) dX2_gifts_15 ?_
    refine lv_iconst (v := (-1)) hx hb dX2_gifts_16 (by decide) ?_
    refine lv_icmp_eq (tgt := 34) hx hb dX2_gifts_17 (by decide) (fun c3 => ?_) (fun c3 => ?_)
    · refine lv_iconst (v := 0) hx hb dX2_gifts_34 (by decide) ?_
      exact gIret hX hr hlk hI ⟨by rw [sGifts, if_neg (fun h => h.elim ha_r1 hb_r1), hjC, if_pos c3], rfl⟩ dX2_gifts_35
    · obtain ⟨i, hi, hiE⟩ := (hpl j (by omega)).resolve_left c3
      have hiC : (σ.1 9 j).toNatClampNeg = i := by rw [hiE]; exact nI_clamp (by omega)
      refine lv_aload_n hx hb dX2_gifts_20 rfl (lv_at hl 0 rfl) ?_
      refine mGet (v := .ref (q 3)) hX hin2 hK hI 3 (by decide) (hts (.fieldLink RX2 16 "GateHallsModel" "gifts" "[I") (by decide +kernel)) rfl dX2_gifts_21 ?_
      refine lv_aload_n hx hb dX2_gifts_24 rfl (lv_at hl 0 rfl) ?_
      refine mGet (v := .ref (q 9)) hX hin2 hK hI 9 (by decide) (hts (.fieldLink RX2 34 "GateHallsModel" "places" "[I") (by decide +kernel)) rfl dX2_gifts_25 ?_
      refine lv_iload_n hx hb dX2_gifts_28 rfl (lv_at hl 1 rfl) ?_
      refine mAld (j := j) hX hK hI 9 rfl hjE (by omega) (by decide) dX2_gifts_29 ?_
      refine mAld (j := i) hX hK hI 3 rfl hiE (by omega) (by decide) dX2_gifts_30 ?_
      refine lv_goto (tgt := 35) hx hb dX2_gifts_31 (by decide) ?_
      exact gIret hX hr hlk hI ⟨by rw [sGifts, if_neg (fun h => h.elim ha_r1 hb_r1), hjC, if_neg c3, hiC], rfl⟩ dX2_gifts_35
  · refine lv_if_eq (tgt := 34) hx hb dX2_gifts_7 (by decide) (fun c4 => ?_) (fun c4 => False.elim (by revert c4; decide))
    refine lv_iconst (v := 0) hx hb dX2_gifts_34 (by decide) ?_
    exact gIret hX hr hlk hI ⟨by rw [sGifts, if_pos hc_r1], rfl⟩ dX2_gifts_35
theorem g_trace {x T : Int32} {t : Nat} (e : T = nI t) (ht : t ≤ 100) : T - 1 < x ↔ T ≤ x := by
  subst e
  rw [Int32.lt_iff_toInt_lt, Int32.le_iff_toInt_le]
  have h1 : (nI t - 1).toInt = (t : Int) - 1 := by
    have := pk_sub_toInt (a := t) (b := 1) (by omega) (by omega)
    exact this
  rw [h1, nI_toInt (by omega)]
  omega
theorem g_tin {x T : Int32} {t : Nat} (e : T = nI t) (ht : t ≤ 100) (h0 : ¬ x < 0) (h1 : ¬ T ≤ x) : ∃ k : Nat, k < t ∧ x = nI k ∧ x.toNatClampNeg = k := by
  obtain ⟨k, hk, rfl⟩ := nI_of h0
  refine ⟨k, ?_, rfl, nI_clamp hk⟩
  rcases Nat.lt_or_ge k t with g | g
  · exact g
  · exact absurd (by rw [e]; exact nI_le g hk) h1
set_option maxRecDepth 100000 in
theorem iX2_trace_2 : ∀ w ∈ wsX20, w ∈ wsX2_trace := by decide +kernel
set_option maxHeartbeats 4000000 in
set_option maxRecDepth 100000 in
theorem c_X2_trace (l : Launch) (D : va_G) (cI cH : ClassId) (h : Nat) (q : Nat → Nat) (pf : Nat → Int32) (σ : gh_S) (sz : Nat) (x : Int32) (n w : Nat) (hg : gI n w σ) : gMi l yX2_trace wsX2_trace ({ frames := 1, cells := 0, slots := 0, locals := 22 }) D (wM h q cI pf σ) (gTy cI cH) sz [.ref h, .int (x)] (fun r u => r = sTrace σ x ∧ u = wM h q cI pf σ) := by
  refine gEnter (cc := cX2_trace) (maxL := 2) (ret := (some .int)) (QF := fun A => va_Qi _ (gPost D A) A) (by decide) rfl (Nat.le_of_ble_eq_true rfl) ?_
  intro p e s m below meth c A ls hX hr hlk hnm hK hN hA hI hl
  have hx := hX.1
  have hb := hX.2.1
  have hts := hX.2.2.2.2
  have hown : s.vm.findClass RX2 = some m.cls := hX.2.2.2.1
  have hin2 := iX2_trace_2
  have hl : lv_has ls 2 [(0, .ref h), (1, .int (x))] := hl
  obtain ⟨hn, hw, ⟨t, ht, htE⟩, hpl, hpar, hrow, hn4, hw30, hz⟩ := id hg
  refine lv_iload_n hx hb dX2_trace_0 rfl (lv_at hl 1 rfl) ?_
  refine lv_iconst (v := (-1)) hx hb dX2_trace_1 (by decide) ?_
  refine lv_icmp_ne (tgt := 12) hx hb dX2_trace_2 (by decide) (fun c1 => ?_) (fun c1 => ?_)
  · refine lv_iload_n hx hb dX2_trace_12 rfl (lv_at hl 1 rfl) ?_
    refine lv_iconst (v := 0) hx hb dX2_trace_13 (by decide) ?_
    refine lv_aload_n hx hb dX2_trace_14 rfl (lv_at hl 0 rfl) ?_
    refine mGet (v := .int (σ.2 12)) hX hin2 hK hI 12 (by decide) (hts (.fieldLink RX2 61 "GateHallsModel" "traces" "I") (by decide +kernel)) rfl dX2_trace_15 ?_
    refine lv_iconst (v := 1) hx hb dX2_trace_18 (by decide) ?_
    refine lv_isub hx hb dX2_trace_19 ?_
    refine vp_callSi (W.runS (As := [.int (x), .int (0), .int ((σ.2 12) - (1))]) (rest := []) hX (c_X2_in l (x) (0) ((σ.2 12) - (1))) (va_cwS 3 hts gX2_trace_X2_in rfl rfl rfl (by decide +kernel) ⟨Nat.le_of_ble_eq_true rfl, Nat.le_of_ble_eq_true rfl⟩) preEq rfl rfl hl.1 rfl (lv_room (Nat.le_of_ble_eq_true rfl)) dX2_trace_20 ⟨Nat.le_of_ble_eq_true rfl, Nat.le_of_ble_eq_true rfl⟩) (fun r2 hr2 => ?_)
    rcases hr2 with ⟨rfl, ha_r2, hb_r2⟩ | ⟨rfl, hc_r2⟩
    · refine lv_if_eq (tgt := 35) hx hb dX2_trace_23 (by decide) (fun c3 => False.elim (by revert c3; decide)) (fun c3 => ?_)
      obtain ⟨k, hk, hkE, hkC⟩ := g_tin htE ht ha_r2 (fun z => hb_r2 ((g_trace htE ht).mpr z))
      refine lv_aload_n hx hb dX2_trace_26 rfl (lv_at hl 0 rfl) ?_
      refine mGet (v := .ref (q 13)) hX hin2 hK hI 13 (by decide) (hts (.fieldLink RX2 40 "GateHallsModel" "traced" "[I") (by decide +kernel)) rfl dX2_trace_27 ?_
      refine lv_iload_n hx hb dX2_trace_30 rfl (lv_at hl 1 rfl) ?_
      refine mAld (j := k) hX hK hI 11 rfl hkE (by omega) (by decide) dX2_trace_31 ?_
      refine lv_goto (tgt := 36) hx hb dX2_trace_32 (by decide) ?_
      exact gIret hX hr hlk hI ⟨by rw [sTrace, if_neg c1, if_neg (fun z => z.elim ha_r2 (fun z => hb_r2 ((g_trace htE ht).mpr z))), hkC], rfl⟩ dX2_trace_36
    · refine lv_if_eq (tgt := 35) hx hb dX2_trace_23 (by decide) (fun c4 => ?_) (fun c4 => False.elim (by revert c4; decide))
      refine lv_iconst (v := (-1)) hx hb dX2_trace_35 (by decide) ?_
      exact gIret hX hr hlk hI ⟨by rw [sTrace, if_neg c1, if_pos (hc_r2.elim Or.inl (fun z => Or.inr ((g_trace htE ht).mp z)))], rfl⟩ dX2_trace_36
  · refine lv_aload_n hx hb dX2_trace_5 rfl (lv_at hl 0 rfl) ?_
    refine mGet (v := .int (σ.2 12)) hX hin2 hK hI 12 (by decide) (hts (.fieldLink RX2 61 "GateHallsModel" "traces" "I") (by decide +kernel)) rfl dX2_trace_6 ?_
    refine lv_goto (tgt := 36) hx hb dX2_trace_9 (by decide) ?_
    exact gIret hX hr hlk hI ⟨by rw [sTrace, if_pos c1], rfl⟩ dX2_trace_36
theorem zFact_out {σ : gh_S} {i : Nat} {w : Int32} (h : w < 0 ∨ 7 < w) : zFact σ i w = -1 := by
  have hk : ∀ k : Int32, ¬ k < 0 → ¬ 7 < k → ¬ w = k := fun k a b e => by subst e; exact h.elim a b
  unfold zFact
  rw [if_neg (hk 0 (by decide) (by decide)), if_neg (hk 1 (by decide) (by decide)), if_neg (hk 2 (by decide) (by decide)), if_neg (hk 3 (by decide) (by decide)), if_neg (hk 4 (by decide) (by decide)), if_neg (hk 5 (by decide) (by decide)), if_neg (hk 6 (by decide) (by decide)), if_neg (hk 7 (by decide) (by decide))]
set_option maxRecDepth 100000 in
theorem iX2_told_2 : ∀ w ∈ wsX20, w ∈ wsX2_told := by decide +kernel
set_option maxHeartbeats 4000000 in
set_option maxRecDepth 100000 in
theorem c_X2_told (l : Launch) (D : va_G) (cI cH : ClassId) (h : Nat) (q : Nat → Nat) (pf : Nat → Int32) (σ : gh_S) (sz : Nat) (x y : Int32) (n w : Nat) (hg : gI n w σ) : gMi l yX2_told wsX2_told ({ frames := 1, cells := 0, slots := 0, locals := 22 }) D (wM h q cI pf σ) (gTy cI cH) sz [.ref h, .int (x), .int (y)] (fun r u => r = sTold σ x y ∧ u = wM h q cI pf σ) := by
  refine gEnter (cc := cX2_told) (maxL := 4) (ret := (some .int)) (QF := fun A => va_Qi _ (gPost D A) A) (by decide) rfl (Nat.le_of_ble_eq_true rfl) ?_
  intro p e s m below meth c A ls hX hr hlk hnm hK hN hA hI hl
  have hx := hX.1
  have hb := hX.2.1
  have hts := hX.2.2.2.2
  have hown : s.vm.findClass RX2 = some m.cls := hX.2.2.2.1
  have hin2 := iX2_told_2
  have hl : lv_has ls 4 [(0, .ref h), (1, .int (x)), (2, .int (y))] := hl
  obtain ⟨hn, hw, ⟨t, ht, htE⟩, hpl, hpar, hrow, hn4, hw30, hz⟩ := id hg
  refine lv_iload_n hx hb dX2_told_0 rfl (lv_at hl 1 rfl) ?_
  refine lv_iconst (v := 0) hx hb dX2_told_1 (by decide) ?_
  refine lv_bipush (v := 9) hx hb dX2_told_2 (by decide) ?_
  refine vp_callSi (W.runS (As := [.int (x), .int (0), .int (9)]) (rest := []) hX (c_X2_in l (x) (0) (9)) (va_cwS 3 hts gX2_told_X2_in rfl rfl rfl (by decide +kernel) ⟨Nat.le_of_ble_eq_true rfl, Nat.le_of_ble_eq_true rfl⟩) preEq rfl rfl hl.1 rfl (lv_room (Nat.le_of_ble_eq_true rfl)) dX2_told_4 ⟨Nat.le_of_ble_eq_true rfl, Nat.le_of_ble_eq_true rfl⟩) (fun r1 hr1 => ?_)
  rcases hr1 with ⟨rfl, ha_r1, hb_r1⟩ | ⟨rfl, hc_r1⟩
  · refine lv_if_eq (tgt := 30) hx hb dX2_told_7 (by decide) (fun c2 => False.elim (by revert c2; decide)) (fun c2 => ?_)
    obtain ⟨j, hj, hjE, hjC⟩ := g_pl ha_r1 hb_r1
    refine lv_aload_n hx hb dX2_told_10 rfl (lv_at hl 0 rfl) ?_
    refine mGet (v := .ref (q 9)) hX hin2 hK hI 9 (by decide) (hts (.fieldLink RX2 34 "GateHallsModel" "places" "[I") (by decide +kernel)) rfl dX2_told_11 ?_
    refine lv_iload_n hx hb dX2_told_14 rfl (lv_at hl 1 rfl) ?_
    refine mAld (j := j) hX hK hI 9 rfl hjE (by omega) (by decide) dX2_told_15 ?_
    refine lv_iconst (v := (-1)) hx hb dX2_told_16 (by decide) ?_
    refine lv_icmp_eq (tgt := 30) hx hb dX2_told_17 (by decide) (fun c3 => ?_) (fun c3 => ?_)
    · refine lv_iconst (v := (-1)) hx hb dX2_told_30 (by decide) ?_
      exact gIret hX hr hlk hI ⟨by rw [sTold, if_neg (fun h => h.elim ha_r1 hb_r1), hjC, if_pos c3], rfl⟩ dX2_told_31
    · obtain ⟨i, hi, hiE⟩ := (hpl j (by omega)).resolve_left c3
      have hiC : (σ.1 9 j).toNatClampNeg = i := by rw [hiE]; exact nI_clamp (by omega)
      refine lv_iload_n hx hb dX2_told_20 rfl (lv_at hl 2 rfl) ?_
      refine lv_iconst (v := 0) hx hb dX2_told_21 (by decide) ?_
      refine lv_bipush (v := 7) hx hb dX2_told_22 (by decide) ?_
      refine vp_callSi (W.runS (As := [.int (y), .int (0), .int (7)]) (rest := []) hX (c_X2_in l (y) (0) (7)) (va_cwS 3 hts gX2_told_X2_in rfl rfl rfl (by decide +kernel) ⟨Nat.le_of_ble_eq_true rfl, Nat.le_of_ble_eq_true rfl⟩) preEq rfl rfl hl.1 rfl (lv_room (Nat.le_of_ble_eq_true rfl)) dX2_told_24 ⟨Nat.le_of_ble_eq_true rfl, Nat.le_of_ble_eq_true rfl⟩) (fun r4 hr4 => ?_)
      rcases hr4 with ⟨rfl, ha_r4, hb_r4⟩ | ⟨rfl, hc_r4⟩
      · refine lv_if_ne (tgt := 32) hx hb dX2_told_27 (by decide) (fun c5 => ?_) (fun c5 => False.elim (by revert c5; decide))
        refine lv_aload_n hx hb dX2_told_32 rfl (lv_at hl 0 rfl) ?_
        refine mGet (v := .ref (q 9)) hX hin2 hK hI 9 (by decide) (hts (.fieldLink RX2 34 "GateHallsModel" "places" "[I") (by decide +kernel)) rfl dX2_told_33 ?_
        refine lv_iload_n hx hb dX2_told_36 rfl (lv_at hl 1 rfl) ?_
        refine mAld (j := j) hX hK hI 9 rfl hjE (by omega) (by decide) dX2_told_37 ?_
        refine lv_istore_n (lv' := [(3, .int (σ.1 9 (j))), (0, .ref h), (1, .int (x)), (2, .int (y))]) hx hb dX2_told_38 rfl hl (by decide) rfl (fun ls hl => ?_)
        refine lv_iload_n hx hb dX2_told_39 rfl (lv_at hl 3 rfl) ?_
        rcases g_le7 ha_r4 hb_r4 with rfl | rfl | rfl | rfl | rfl | rfl | rfl | rfl
        · refine lv_tableIn (tgt := 84) (off := 44) hx hb dX2_told_40 (by decide) (by decide) (by decide) (by decide) ?_
          refine lv_iload_n hx hb dX2_told_84 rfl (lv_at hl 0 rfl) ?_
          exact gIret hX hr hlk hI ⟨by rw [sTold, if_neg (fun h => h.elim ha_r1 hb_r1), hjC, if_neg c3, hiC]; first | rfl | exact hiE | (rw [hiE]; rfl), rfl⟩ dX2_told_85
        · refine lv_tableIn (tgt := 86) (off := 46) hx hb dX2_told_40 (by decide) (by decide) (by decide) (by decide) ?_
          refine lv_aload_n hx hb dX2_told_86 rfl (lv_at hl 1 rfl) ?_
          refine mGet (v := .ref (q 1)) hX hin2 hK hI 1 (by decide) (hts (.fieldLink RX2 7 "GateHallsModel" "kinds" "[I") (by decide +kernel)) rfl dX2_told_87 ?_
          refine lv_iload_n hx hb dX2_told_90 rfl (lv_at hl 0 rfl) ?_
          refine mAld (j := i) hX hK hI 1 rfl hiE (by omega) (by decide) dX2_told_91 ?_
          exact gIret hX hr hlk hI ⟨by rw [sTold, if_neg (fun h => h.elim ha_r1 hb_r1), hjC, if_neg c3, hiC]; first | rfl | exact hiE | (rw [hiE]; rfl), rfl⟩ dX2_told_92
        · refine lv_tableIn (tgt := 93) (off := 53) hx hb dX2_told_40 (by decide) (by decide) (by decide) (by decide) ?_
          refine lv_aload_n hx hb dX2_told_93 rfl (lv_at hl 1 rfl) ?_
          refine mGet (v := .ref (q 2)) hX hin2 hK hI 2 (by decide) (hts (.fieldLink RX2 13 "GateHallsModel" "fees" "[I") (by decide +kernel)) rfl dX2_told_94 ?_
          refine lv_iload_n hx hb dX2_told_97 rfl (lv_at hl 0 rfl) ?_
          refine mAld (j := i) hX hK hI 2 rfl hiE (by omega) (by decide) dX2_told_98 ?_
          exact gIret hX hr hlk hI ⟨by rw [sTold, if_neg (fun h => h.elim ha_r1 hb_r1), hjC, if_neg c3, hiC]; first | rfl | exact hiE | (rw [hiE]; rfl), rfl⟩ dX2_told_99
        · refine lv_tableIn (tgt := 100) (off := 60) hx hb dX2_told_40 (by decide) (by decide) (by decide) (by decide) ?_
          refine lv_aload_n hx hb dX2_told_100 rfl (lv_at hl 1 rfl) ?_
          refine mGet (v := .ref (q 4)) hX hin2 hK hI 4 (by decide) (hts (.fieldLink RX2 19 "GateHallsModel" "passes" "[I") (by decide +kernel)) rfl dX2_told_101 ?_
          refine lv_iload_n hx hb dX2_told_104 rfl (lv_at hl 0 rfl) ?_
          refine mAld (j := i) hX hK hI 4 rfl hiE (by omega) (by decide) dX2_told_105 ?_
          exact gIret hX hr hlk hI ⟨by rw [sTold, if_neg (fun h => h.elim ha_r1 hb_r1), hjC, if_neg c3, hiC]; first | rfl | exact hiE | (rw [hiE]; rfl), rfl⟩ dX2_told_106
        · refine lv_tableIn (tgt := 107) (off := 67) hx hb dX2_told_40 (by decide) (by decide) (by decide) (by decide) ?_
          refine lv_aload_n hx hb dX2_told_107 rfl (lv_at hl 1 rfl) ?_
          refine mGet (v := .ref (q 5)) hX hin2 hK hI 5 (by decide) (hts (.fieldLink RX2 22 "GateHallsModel" "asks" "[I") (by decide +kernel)) rfl dX2_told_108 ?_
          refine lv_iload_n hx hb dX2_told_111 rfl (lv_at hl 0 rfl) ?_
          refine mAld (j := i) hX hK hI 5 rfl hiE (by omega) (by decide) dX2_told_112 ?_
          exact gIret hX hr hlk hI ⟨by rw [sTold, if_neg (fun h => h.elim ha_r1 hb_r1), hjC, if_neg c3, hiC]; first | rfl | exact hiE | (rw [hiE]; rfl), rfl⟩ dX2_told_113
        · refine lv_tableIn (tgt := 114) (off := 74) hx hb dX2_told_40 (by decide) (by decide) (by decide) (by decide) ?_
          refine lv_aload_n hx hb dX2_told_114 rfl (lv_at hl 1 rfl) ?_
          refine mGet (v := .ref (q 6)) hX hin2 hK hI 6 (by decide) (hts (.fieldLink RX2 25 "GateHallsModel" "paid" "[I") (by decide +kernel)) rfl dX2_told_115 ?_
          refine lv_iload_n hx hb dX2_told_118 rfl (lv_at hl 0 rfl) ?_
          refine mAld (j := i) hX hK hI 6 rfl hiE (by omega) (by decide) dX2_told_119 ?_
          exact gIret hX hr hlk hI ⟨by rw [sTold, if_neg (fun h => h.elim ha_r1 hb_r1), hjC, if_neg c3, hiC]; first | rfl | exact hiE | (rw [hiE]; rfl), rfl⟩ dX2_told_120
        · refine lv_tableIn (tgt := 121) (off := 81) hx hb dX2_told_40 (by decide) (by decide) (by decide) (by decide) ?_
          refine lv_aload_n hx hb dX2_told_121 rfl (lv_at hl 1 rfl) ?_
          refine mGet (v := .ref (q 7)) hX hin2 hK hI 7 (by decide) (hts (.fieldLink RX2 28 "GateHallsModel" "inside" "[I") (by decide +kernel)) rfl dX2_told_122 ?_
          refine lv_iload_n hx hb dX2_told_125 rfl (lv_at hl 0 rfl) ?_
          refine mAld (j := i) hX hK hI 7 rfl hiE (by omega) (by decide) dX2_told_126 ?_
          exact gIret hX hr hlk hI ⟨by rw [sTold, if_neg (fun h => h.elim ha_r1 hb_r1), hjC, if_neg c3, hiC]; first | rfl | exact hiE | (rw [hiE]; rfl), rfl⟩ dX2_told_127
        · refine lv_tableOut (tgt := 128) hx hb dX2_told_40 (by decide) (by decide) ?_
          refine lv_aload_n hx hb dX2_told_128 rfl (lv_at hl 1 rfl) ?_
          refine mGet (v := .ref (q 8)) hX hin2 hK hI 8 (by decide) (hts (.fieldLink RX2 31 "GateHallsModel" "mosts" "[I") (by decide +kernel)) rfl dX2_told_129 ?_
          refine lv_iload_n hx hb dX2_told_132 rfl (lv_at hl 0 rfl) ?_
          refine mAld (j := i) hX hK hI 8 rfl hiE (by omega) (by decide) dX2_told_133 ?_
          exact gIret hX hr hlk hI ⟨by rw [sTold, if_neg (fun h => h.elim ha_r1 hb_r1), hjC, if_neg c3, hiC]; first | rfl | exact hiE | (rw [hiE]; rfl), rfl⟩ dX2_told_134
      · refine lv_if_ne (tgt := 32) hx hb dX2_told_27 (by decide) (fun c6 => False.elim (by revert c6; decide)) (fun c6 => ?_)
        refine lv_iconst (v := (-1)) hx hb dX2_told_30 (by decide) ?_
        exact gIret hX hr hlk hI ⟨by rw [sTold, if_neg (fun h => h.elim ha_r1 hb_r1), hjC, if_neg c3, zFact_out hc_r4], rfl⟩ dX2_told_31
  · refine lv_if_eq (tgt := 30) hx hb dX2_told_7 (by decide) (fun c7 => ?_) (fun c7 => False.elim (by revert c7; decide))
    refine lv_iconst (v := (-1)) hx hb dX2_told_30 (by decide) ?_
    exact gIret hX hr hlk hI ⟨by rw [sTold, if_pos hc_r1], rfl⟩ dX2_told_31
set_option maxRecDepth 100000 in
theorem iX2_rich_2 : ∀ w ∈ wsX20, w ∈ wsX2_rich := by decide +kernel
set_option maxHeartbeats 4000000 in
set_option maxRecDepth 100000 in
theorem c_X2_rich (l : Launch) (D : va_G) (cI cH : ClassId) (h : Nat) (q : Nat → Nat) (pf : Nat → Int32) (σ : gh_S) (sz : Nat) (x : Int64) : gMi l yX2_rich wsX2_rich ({ frames := 0, cells := 0, slots := 0, locals := 0 }) D (wM h q cI pf σ) (gTy cI cH) sz [.ref h, .long (x)] (fun r u => r = (zRich σ x).1 ∧ u = wM h q cI pf (zRich σ x).2) := by
  refine gEnter (cc := cX2_rich) (maxL := 5) (ret := (some .int)) (QF := fun A => va_Qi _ (gPost D A) A) (by decide) rfl (Nat.le_of_ble_eq_true rfl) ?_
  intro p e s m below meth c A ls hX hr hlk hnm hK hN hA hI hl
  have hx := hX.1
  have hb := hX.2.1
  have hts := hX.2.2.2.2
  have hown : s.vm.findClass RX2 = some m.cls := hX.2.2.2.1
  have hin2 := iX2_rich_2
  have hl : lv_has ls 5 [(0, .ref h), (1, .long (x))] := hl
  refine lv_aload_n hx hb dX2_rich_0 rfl (lv_at hl 0 rfl) ?_
  refine mGet (v := .int (σ.2 11)) hX hin2 hK hI 11 (by decide) (hts (.fieldLink RX2 57 "GateHallsModel" "purse" "I") (by decide +kernel)) rfl dX2_rich_1 ?_
  refine lv_i2l (v := Int32.toInt64 (σ.2 11)) hx hb dX2_rich_4 rfl ?_
  refine lv_lload_n hx hb dX2_rich_5 rfl (lv_at hl 1 rfl) ?_
  refine lv_ladd hx hb dX2_rich_6 ?_
  refine lv_lstore_n (lv' := [(3, .long ((Int32.toInt64 (σ.2 11)) + (x))), (0, .ref h), (1, .long (x))]) hx hb dX2_rich_7 rfl hl (by decide) rfl (fun ls hl => ?_)
  refine lv_lload_n hx hb dX2_rich_8 rfl (lv_at hl 0 rfl) ?_
  refine lv_lconst (v := 0) hx hb dX2_rich_9 (by decide) ?_
  refine W.lcmp hx hb dX2_rich_10 ?_
  refine lv_if_lt (tgt := 22) hx hb dX2_rich_11 (by decide) (fun c1 => ?_) (fun c1 => ?_)
  · refine lv_bipush (v := 22) hx hb dX2_rich_22 (by decide) ?_
    exact gIret hX hr hlk hI (by rw [zRich, if_pos c1]; exact ⟨rfl, rfl⟩) dX2_rich_24
  · refine lv_lload_n hx hb dX2_rich_14 rfl (lv_at hl 0 rfl) ?_
    refine lv_ldc2 (v := 1000000) hx hb hown (hts (.constantLong RX2 84 (1000000)) (by decide +kernel)) dX2_rich_15 ?_
    refine W.lcmp hx hb dX2_rich_18 ?_
    refine lv_if_le (tgt := 25) hx hb dX2_rich_19 (by decide) (fun c2 => ?_) (fun c2 => ?_)
    · refine lv_aload_n hx hb dX2_rich_25 rfl (lv_at hl 1 rfl) ?_
      refine lv_lload_n hx hb dX2_rich_26 rfl (lv_at hl 0 rfl) ?_
      refine lv_l2i (v := Int64.toInt32 ((Int32.toInt64 (σ.2 11)) + (x))) hx hb dX2_rich_27 rfl ?_
      refine mPut hX hin2 hK hI 11 (by decide) (hts (.fieldLink RX2 57 "GateHallsModel" "purse" "I") (by decide +kernel)) rfl rfl rfl dX2_rich_28 (fun H locs hI => ?_)
      refine lv_iconst (v := 0) hx hb dX2_rich_31 (by decide) ?_
      exact gIret hX hr hlk hI (by rw [zRich, if_neg c1, if_pos c2]; exact ⟨rfl, rfl⟩) dX2_rich_32
    · refine lv_bipush (v := 22) hx hb dX2_rich_22 (by decide) ?_
      exact gIret hX hr hlk hI (by rw [zRich, if_neg c1, if_neg c2]; exact ⟨rfl, rfl⟩) dX2_rich_24
end
section
/-! THE INVARIANT IS KEPT -/
theorem uS_ne {σ : gh_S} {k j : Nat} {v : Int32} (h : j ≠ k) : (uS σ k v).2 j = σ.2 j := by simp [uS, upd, h]
theorem uS_eq {σ : gh_S} {k : Nat} {v : Int32} : (uS σ k v).2 k = v := by simp [uS, upd]
theorem uA_k {σ : gh_S} {k j i : Nat} {v : Int32} (h : j ≠ k) : (uA σ k i v).1 j = σ.1 j := by simp [uA, h]
theorem uA_ki {σ : gh_S} {k i j : Nat} {v : Int32} : (uA σ k i v).1 k j = if j = i then v else σ.1 k j := by simp [uA, upd]
theorem gI_uS {n w : Nat} {σ : gh_S} (k : Nat) (v : Int32) (h0 : 0 ≠ k) (h1 : 12 ≠ k) (h2 : 17 ≠ k) (hg : gI n w σ) : gI n w (uS σ k v) := by
  obtain ⟨a1, a2, ⟨t, ht, a3⟩, a4⟩ := hg
  exact ⟨by rw [uS_ne h0]; exact a1, by rw [uS_ne h2]; exact a2, ⟨t, ht, by rw [uS_ne h1]; exact a3⟩, a4⟩
/-- a row's number 3 .. 8 is set for a hall -/
theorem gI_uH {n w : Nat} {σ : gh_S} (k i : Nat) (v : Int32) (hi : i < n) (h1 : k ≤ 8) (hg : gI n w σ) : gI n w (uA σ k i v) := by
  obtain ⟨a1, a2, a3, a4, a5, a6, a7, a8, a9⟩ := hg
  refine ⟨a1, a2, a3, ?_, ?_, ?_, a7, a8, ?_⟩
  · rw [uA_k (by omega)]; exact a4
  · rw [uA_k (by omega)]; exact a5
  · rw [uA_k (by omega)]; exact a6
  · intro k' j h3 h8 hj
    rw [uA_ne (by omega)]
    exact a9 k' j h3 h8 hj
theorem gI_uX {n w : Nat} {σ : gh_S} (k i : Nat) (v : Int32) (h1 : 8 < k) (h9 : 9 ≠ k) (h10 : 10 ≠ k) (h18 : 18 ≠ k) (hg : gI n w σ) : gI n w (uA σ k i v) := by
  obtain ⟨a1, a2, a3, a4, a5, a6, a7, a8, a9⟩ := hg
  refine ⟨a1, a2, a3, ?_, ?_, ?_, a7, a8, ?_⟩
  · rw [uA_k h9]; exact a4
  · rw [uA_k h10]; exact a5
  · rw [uA_k h18]; exact a6
  · intro k' j h3 h8 hj
    rw [uA_k (by omega)]
    exact a9 k' j h3 h8 hj
theorem gI_leave {n w : Nat} {σ : gh_S} {x : Int32} (hg : gI n w σ) : gI n w (zLeave σ x) := by
  unfold zLeave
  by_cases hc : (100 : Int32) ≤ σ.2 12
  · rw [if_pos hc]; exact hg
  · rw [if_neg hc]
    have h1 := gI_uX 13 (σ.2 12).toNatClampNeg x (by decide) (by decide) (by decide) (by decide) hg
    obtain ⟨a1, a2, ⟨t, ht, a3⟩, a4⟩ := h1
    have ht' : t < 100 := g_lt100 (x := σ.2 12) a3 ht hc
    refine ⟨?_, ?_, ⟨t + 1, by omega, ?_⟩, a4⟩
    · rw [uS_ne (by decide)]; exact a1
    · rw [uS_ne (by decide)]; exact a2
    · rw [uS_eq]
      have e : σ.2 12 = nI t := a3
      rw [e]; exact nI_1 t
theorem gI_enter {n w i : Nat} {σ : gh_S} (hi : i < n) (hg : gI n w σ) : gI n w (zEnter σ i) :=
  gI_uH 8 i _ hi (by decide) (gI_uH 7 i _ hi (by decide) (gI_uH 4 i _ hi (by decide) hg))
theorem gI_push {n w i : Nat} {σ : gh_S} (hi : i < n) (hw : w < 30) (hg : gI n w σ) : gI n (w + 1) (zPush σ i) := by
  obtain ⟨a1, a2, ⟨t, ht, a3⟩, a4, a5, a6, a7, a8, a9⟩ := hg
  have hC : (σ.2 17).toNatClampNeg = w := by rw [a2]; exact nI_clamp (by omega)
  refine ⟨a1, ?_, ⟨t, ht, a3⟩, a4, a5, ?_, a7, by omega, ?_⟩
  · show σ.2 17 + 1 = nI (w + 1)
    rw [a2]; exact nI_1 w
  · intro j hj
    show ∃ h : Nat, h < n ∧ upd (σ.1 18) (σ.2 17).toNatClampNeg (nI i) j = nI h
    rw [hC]
    by_cases hjw : j = w
    · exact ⟨i, hi, by simp [upd, hjw]⟩
    · obtain ⟨h, h1, h2⟩ := a6 j (by omega)
      exact ⟨h, h1, by simp [upd, hjw, h2]⟩
  · intro k j h3 h8 hj
    show (uA σ 18 _ _).1 k j = 0
    rw [uA_k (by omega)]
    exact a9 k j h3 h8 hj
theorem gI_in {n w i : Nat} {σ : gh_S} (hi : i < n) (hw : w < 30) (hg : gI n w σ) : gI n (w + 1) (zIn σ i) := gI_push hi hw (gI_leave (gI_enter hi hg))
theorem gI_pay {n w i : Nat} {σ : gh_S} (hi : i < n) (hg : gI n w σ) : gI n w (zPay σ i).2 := by
  unfold zPay
  split
  · exact hg
  · split
    · exact gI_uH 6 i _ hi (by decide) (gI_uS 11 _ (by decide) (by decide) (by decide) hg)
    · exact hg
theorem gI_pass {n w i : Nat} {σ : gh_S} (hi : i < n) (hw : w < 30) (hg : gI n w σ) : gI n (w + 1) (zPass σ i).2 := gI_pay hi (gI_in hi hw hg)
theorem zPop_eq {σ : gh_S} {w i : Nat} (hw : w < 2 ^ 31 - 1) (hi : i < 2 ^ 31) (h1 : σ.2 17 = nI (w + 1)) (h2 : σ.1 18 w = nI i) : zPop σ = zLeave (uA (uS σ 17 (nI w)) 7 i (σ.1 7 i - 1)) (100 + zRem (nI i) 100) := by
  have e1 : σ.2 17 - 1 = nI w := by rw [h1]; exact nI_pred w
  unfold zPop
  rw [e1, nI_clamp (by omega), h2, nI_clamp hi]
theorem gI_pop {n w : Nat} {σ : gh_S} (hg : gI n (w + 1) σ) : gI n w (zPop σ) := by
  obtain ⟨a1, a2, ⟨t, ht, a3⟩, a4, a5, a6, a7, a8, a9⟩ := id hg
  obtain ⟨i, hi, hiE⟩ := a6 w (by omega)
  rw [zPop_eq (by omega) (by omega) a2 hiE]
  refine gI_leave (gI_uH 7 i _ hi (by decide) ?_)
  exact ⟨a1, rfl, ⟨t, ht, a3⟩, a4, a5, fun j hj => a6 j (by omega), a7, by omega, a9⟩
theorem gI_pops {n w : Nat} : ∀ (k : Nat) {σ : gh_S}, gI n (w + k) σ → gI n w (zPops σ k)
  | 0, _, hg => hg
  | k + 1, _, hg => gI_pops k (gI_pop hg)
theorem zW_of {n w : Nat} {σ : gh_S} (hg : gI n w σ) : zW σ = w := by
  unfold zW
  have := hg.2.2.2.2.2.2.2.1
  rw [hg.2.1]; exact nI_clamp (by omega)
theorem gI_down {n : Nat} {o : Nat → Int32} : ∀ (k w : Nat) {σ : gh_S}, w + k ≤ 30 → (∀ i, i < k → ∃ j : Nat, j < 10 ∧ o i = nI j) → gI n w σ → ∃ w', w ≤ w' ∧ w' ≤ w + k ∧ gI n w' (zDown o k σ).2 ∧ ((zDown o k σ).1 = 0 → w' = w + k)
  | 0, w, _, _, _, hg => ⟨w, Nat.le_refl _, Nat.le_refl _, hg, fun _ => rfl⟩
  | k + 1, w, σ, hk, ho, hg => by
    obtain ⟨j, hj, hjE⟩ := ho k (by omega)
    have hjC : (o k).toNatClampNeg = j := by rw [hjE]; exact nI_clamp (by omega)
    unfold zDown
    rw [hjC]
    by_cases hc : σ.1 9 j = -1
    · rw [if_pos hc]
      exact ⟨w, Nat.le_refl _, by omega, hg, fun h => absurd h (show ¬ (1 : Int32) = 0 by decide)⟩
    · rw [if_neg hc]
      obtain ⟨i, hi, hiE⟩ := (hg.2.2.2.1 j hj).resolve_left hc
      have hn4 := hg.2.2.2.2.2.2.1
      have hiC : (σ.1 9 j).toNatClampNeg = i := by rw [hiE]; exact nI_clamp (by omega)
      rw [hiC]
      have hp := gI_pass (i := i) hi (by omega) hg
      by_cases hr : (zPass σ i).1 = 0
      · rw [if_pos hr]
        obtain ⟨w', h1, h2, h3, h4⟩ := gI_down k (w + 1) (by omega) (fun i hi => ho i (by omega)) hp
        exact ⟨w', by omega, by omega, h3, fun h => by rw [h4 h]; omega⟩
      · rw [if_neg hr]
        exact ⟨w + 1, by omega, by omega, hp, fun h => absurd h hr⟩
/-- the places of a path -/
theorem zOrb_in {n w : Nat} {σ : gh_S} (hg : gI n w σ) {p : Int32} (hp : ∃ j : Nat, j < 10 ∧ p = nI j) : ∀ i, zOrb (σ.1 10) p i = -1 ∨ ∃ j : Nat, j < 10 ∧ zOrb (σ.1 10) p i = nI j
  | 0 => Or.inr hp
  | i + 1 => by
    unfold zOrb
    by_cases h : zOrb (σ.1 10) p i = -1
    · rw [if_pos h]; exact Or.inl rfl
    · rw [if_neg h]
      obtain ⟨j, hj, hjE⟩ := (zOrb_in hg hp i).resolve_left h
      rw [hjE, nI_clamp (by omega)]
      exact hg.2.2.2.2.1 j hj
theorem zLen_some {o : Nat → Int32} : ∀ (f i k : Nat), zLen o f i = some k → i ≤ k ∧ k ≤ i + f ∧ o k = -1 ∧ ∀ j, i ≤ j → j < k → o j ≠ -1
  | 0, i, k, h => by
    unfold zLen at h
    by_cases hc : o i = -1
    · rw [if_pos hc] at h
      cases h
      exact ⟨Nat.le_refl _, Nat.le_refl _, hc, fun j h1 h2 => by omega⟩
    · rw [if_neg hc] at h; cases h
  | f + 1, i, k, h => by
    unfold zLen at h
    by_cases hc : o i = -1
    · rw [if_pos hc] at h
      cases h
      exact ⟨Nat.le_refl _, by omega, hc, fun j h1 h2 => by omega⟩
    · rw [if_neg hc] at h
      obtain ⟨h1, h2, h3, h4⟩ := zLen_some f (i + 1) k h
      refine ⟨by omega, by omega, h3, fun j g1 g2 => ?_⟩
      by_cases hj : j = i
      · rw [hj]; exact hc
      · exact h4 j (by omega) g2
theorem zLen_none {o : Nat → Int32} : ∀ (f i : Nat), zLen o f i = none → ∀ j, i ≤ j → j ≤ i + f → o j ≠ -1
  | 0, i, h, j, h1, h2 => by
    unfold zLen at h
    by_cases hc : o i = -1
    · rw [if_pos hc] at h; cases h
    · have : j = i := by omega
      rw [this]; exact hc
  | f + 1, i, h, j, h1, h2 => by
    unfold zLen at h
    by_cases hc : o i = -1
    · rw [if_pos hc] at h; cases h
    · rw [if_neg hc] at h
      by_cases hj : j = i
      · rw [hj]; exact hc
      · exact zLen_none f (i + 1) h j (by omega) (by omega)
theorem zLen_is {o : Nat → Int32} {k : Nat} (hk : k ≤ 10) (h0 : ∀ j, j < k → o j ≠ -1) (h1 : o k = -1) : zLen o 10 0 = some k := by
  cases h : zLen o 10 0 with
  | none => exact absurd h1 (zLen_none 10 0 h k (by omega) (by omega))
  | some m =>
    obtain ⟨g1, g2, g3, g4⟩ := zLen_some 10 0 m h
    rcases Nat.lt_trichotomy k m with hlt | heq | hgt
    · exact absurd h1 (g4 k (by omega) hlt)
    · rw [heq]
    · exact absurd g3 (h0 m hgt)
theorem zLen_no {o : Nat → Int32} (h0 : ∀ j, j ≤ 10 → o j ≠ -1) : zLen o 10 0 = none := by
  cases h : zLen o 10 0 with
  | none => rfl
  | some m =>
    obtain ⟨g1, g2, g3, g4⟩ := zLen_some 10 0 m h
    exact absurd g3 (h0 m (by omega))
theorem gI_go {n w : Nat} {σ : gh_S} {p : Int32} (hw : w + 10 ≤ 30) (hp : ∃ j : Nat, j < 10 ∧ p = nI j) (hg : gI n w σ) : ∃ w', w ≤ w' ∧ w' ≤ w + 10 ∧ gI n w' (zGo σ p).2 ∧ ((zGo σ p).1 = 0 → w < w') := by
  unfold zGo
  have hg1 : gI n w (uS σ 15 (σ.2 15 + 1)) := gI_uS 15 _ (by decide) (by decide) (by decide) hg
  cases h : zLen (zOrb (σ.1 10) p) 10 0 with
  | none => exact ⟨w, Nat.le_refl _, by omega, hg1, fun h => absurd h (show ¬ (8 : Int32) = 0 by decide)⟩
  | some k =>
    obtain ⟨g1, g2, g3, g4⟩ := zLen_some 10 0 k h
    have hk : 0 < k := by
      rcases Nat.eq_zero_or_pos k with h0 | h0
      · subst h0
        obtain ⟨j, hj, hjE⟩ := hp
        have : p = -1 := g3
        rw [hjE] at this
        exact absurd this (by
          have hx : ∀ j, j < 10 → ¬ nI j = -1 := by decide
          exact hx j hj)
      · exact h0
    obtain ⟨w', h1, h2, h3, h4⟩ := gI_down (n := n) (o := zOrb (σ.1 10) p) k w (by omega) (fun i hi => (zOrb_in hg hp i).resolve_left (g4 i (by omega) hi)) hg1
    exact ⟨w', h1, by omega, h3, fun h => by rw [h4 h]; omega⟩
theorem zTen_in (n : Int32) : ∃ j : Nat, j < 10 ∧ zTen n = nI j := by
  have h1 : (zRem n 10).toInt = n.toInt.tmod 10 := rem_toInt n 10
  have h2 := tmod_bounds (a := n.toInt) (M := 10) (by decide)
  rw [← h1] at h2
  unfold zTen
  generalize zRem n 10 = r at h2
  clear h1
  by_cases hc : 0 ≤ r
  · rw [if_pos hc]
    obtain ⟨j, hj, rfl⟩ := nI_of (x := r) (by rw [Int32.lt_iff_toInt_lt]; rw [Int32.le_iff_toInt_le] at hc; omega)
    rw [nI_toInt hj] at h2
    exact ⟨j, by omega, rfl⟩
  · rw [if_neg hc]
    rw [Int32.le_iff_toInt_le] at hc
    have h0 : (0 : Int32).toInt = 0 := by decide
    rw [h0] at hc
    refine ⟨(r.toInt + 10).toNat, by omega, Int32.toInt_inj.mp ?_⟩
    rw [nI_toInt (by omega), Int32.toInt_add]
    have h10 : (10 : Int32).toInt = 10 := by decide
    rw [h10, Int.bmod_eq_of_le (by omega) (by omega)]
    omega
end
section
theorem g_nle {b : Int32} {B j : Nat} (hB : b = nI B) (h : j < B) (hB' : B < 2 ^ 31) : ¬ b ≤ nI j := by
  rw [hB]; exact nI_ge h hB'
theorem g_le {b : Int32} {B j : Nat} (hB : b = nI B) (h : B ≤ j) (hj : j < 2 ^ 31) : b ≤ nI j := by
  rw [hB]; exact nI_le h hj
theorem sCount_out {σ : gh_S} {w : Int32} (h : w.toInt < 0 ∨ 5 < w.toInt) : (-1 : Int32) = sCount σ w := by
  have hk : ∀ k : Int32, ¬ (k.toInt < 0 ∨ 5 < k.toInt) → ¬ w = k := fun k a e => by subst e; exact a h
  unfold sCount
  rw [if_neg (hk 0 (by decide)), if_neg (hk 1 (by decide)), if_neg (hk 2 (by decide)), if_neg (hk 3 (by decide)), if_neg (hk 4 (by decide)), if_neg (hk 5 (by decide))]
set_option maxRecDepth 100000 in
theorem iX2_count_2 : ∀ w ∈ wsX20, w ∈ wsX2_count := by decide +kernel
set_option maxHeartbeats 4000000 in
set_option maxRecDepth 100000 in
theorem c_X2_count (l : Launch) (D : va_G) (cI cH : ClassId) (h : Nat) (q : Nat → Nat) (pf : Nat → Int32) (σ : gh_S) (sz : Nat) (x : Int32) : gMi l yX2_count wsX2_count ({ frames := 0, cells := 0, slots := 0, locals := 0 }) D (wM h q cI pf σ) (gTy cI cH) sz [.ref h, .int (x)] (fun r u => r = sCount σ x ∧ u = wM h q cI pf σ) := by
  refine gEnter (cc := cX2_count) (maxL := 4) (ret := (some .int)) (QF := fun A => va_Qi _ (gPost D A) A) (by decide) rfl (Nat.le_of_ble_eq_true rfl) ?_
  intro p e s m below meth c A ls hX hr hlk hnm hK hN hA hI hl
  have hx := hX.1
  have hb := hX.2.1
  have hts := hX.2.2.2.2
  have hown : s.vm.findClass RX2 = some m.cls := hX.2.2.2.1
  have hin2 := iX2_count_2
  have hl : lv_has ls 4 [(0, .ref h), (1, .int (x))] := hl
  refine lv_iload_n hx hb dX2_count_0 rfl (lv_at hl 1 rfl) ?_
  rcases g_sw05 x with h1 | rfl | rfl | rfl | rfl | rfl | rfl
  · refine lv_tableOut (tgt := 101) hx hb dX2_count_1 h1 (by decide) ?_
    refine lv_iconst (v := (-1)) hx hb dX2_count_101 (by decide) ?_
    exact gIret hX hr hlk hI ⟨sCount_out h1, rfl⟩ dX2_count_102
  · refine lv_tableIn (tgt := 40) (off := 39) hx hb dX2_count_1 (by decide) (by decide) (by decide) (by decide) ?_
    refine lv_aload_n hx hb dX2_count_40 rfl (lv_at hl 0 rfl) ?_
    refine mGet (v := .int (σ.2 11)) hX hin2 hK hI 11 (by decide) (hts (.fieldLink RX2 57 "GateHallsModel" "purse" "I") (by decide +kernel)) rfl dX2_count_41 ?_
    exact gIret hX hr hlk hI ⟨rfl, rfl⟩ dX2_count_44
  · refine lv_tableIn (tgt := 45) (off := 44) hx hb dX2_count_1 (by decide) (by decide) (by decide) (by decide) ?_
    refine lv_aload_n hx hb dX2_count_45 rfl (lv_at hl 0 rfl) ?_
    refine mGet (v := .int (σ.2 0)) hX hin2 hK hI 0 (by decide) (hts (.fieldLink RX2 53 "GateHallsModel" "halls" "I") (by decide +kernel)) rfl dX2_count_46 ?_
    exact gIret hX hr hlk hI ⟨rfl, rfl⟩ dX2_count_49
  · refine lv_tableIn (tgt := 50) (off := 49) hx hb dX2_count_1 (by decide) (by decide) (by decide) (by decide) ?_
    refine lv_iconst (v := 0) hx hb dX2_count_50 (by decide) ?_
    refine lv_istore_n (lv' := [(2, .int (0)), (0, .ref h), (1, .int (2))]) hx hb dX2_count_51 rfl hl (by decide) rfl (fun ls hl => ?_)
    refine lv_iconst (v := 0) hx hb dX2_count_52 (by decide) ?_
    refine lv_istore_n (lv' := [(3, .int (0)), (2, .int (0)), (0, .ref h), (1, .int (2))]) hx hb dX2_count_53 rfl hl (by decide) rfl (fun ls hl => ?_)
    have loop : ∀ (f j : Nat) (a : Int32) (ls : Array Slot), j + f = 10 → a = zCnt (σ.1 9) j → lv_has ls 4 [(0, .ref h), (1, .int (2)), (2, .int (a)), (3, .int (nI (j)))] → W p l e ({ frames := 0, cells := 0, slots := 0, locals := 0 }) s m ([.ref h, .int (2)] : List Value).toArray below meth c s.heap [] 0 0 (MQ below (va_Qi (fun r u => r = sCount σ 2 ∧ u = wM h q cI pf σ) (gPost D A) A) ([.ref h, .int (2)] : List Value).toArray s 0 0 A) (F0 m 54 ls []) := by
      intro f
      induction f with
      | zero =>
        intro j a ls hj ha hl
        refine lv_iload_n hx hb dX2_count_54 rfl (lv_at hl 3 rfl) ?_
        refine lv_bipush (v := 10) hx hb dX2_count_55 (by decide) ?_
        refine lv_icmp_ge (tgt := 84) hx hb dX2_count_57 (by decide) (fun c2 => ?_) (fun c2 => absurd (g_le (B := 10) rfl (by omega) (by omega)) c2)
        refine lv_iload_n hx hb dX2_count_84 rfl (lv_at hl 2 rfl) ?_
        exact gIret hX hr hlk hI ⟨by rw [sCount, if_neg (by decide), if_neg (by decide), if_pos rfl, ha, show j = 10 by omega], rfl⟩ dX2_count_85
      | succ f ih =>
        intro j a ls hj ha hl
        refine lv_iload_n hx hb dX2_count_54 rfl (lv_at hl 3 rfl) ?_
        refine lv_bipush (v := 10) hx hb dX2_count_55 (by decide) ?_
        refine lv_icmp_ge (tgt := 84) hx hb dX2_count_57 (by decide) (fun c3 => absurd c3 (g_nle (B := 10) rfl (by omega) (by decide))) (fun c3 => ?_)
        refine lv_aload_n hx hb dX2_count_60 rfl (lv_at hl 0 rfl) ?_
        refine mGet (v := .ref (q 9)) hX hin2 hK hI 9 (by decide) (hts (.fieldLink RX2 34 "GateHallsModel" "places" "[I") (by decide +kernel)) rfl dX2_count_61 ?_
        refine lv_iload_n hx hb dX2_count_64 rfl (lv_at hl 3 rfl) ?_
        refine mAld (j := j) hX hK hI 9 rfl rfl (by omega) (by decide) dX2_count_65 ?_
        refine lv_iconst (v := (-1)) hx hb dX2_count_66 (by decide) ?_
        refine lv_icmp_ne (tgt := 74) hx hb dX2_count_67 (by decide) (fun c4 => ?_) (fun c4 => ?_)
        · refine lv_iload_n hx hb dX2_count_74 rfl (lv_at hl 2 rfl) ?_
          refine lv_iconst (v := 1) hx hb dX2_count_75 (by decide) ?_
          refine lv_iadd hx hb dX2_count_76 ?_
          refine lv_istore_n (lv' := [(2, .int (a + 1)), (0, .ref h), (1, .int (2)), (3, .int (nI (j)))]) hx hb dX2_count_77 rfl hl (by decide) rfl (fun ls hl => ?_)
          refine lv_iinc (v := nI (j + 1)) (lv' := [(3, .int (nI (j + 1))), (2, .int (a + 1)), (0, .ref h), (1, .int (2))]) hx hb dX2_count_78 hl (k := 3) rfl (nI_1 _) (by decide) rfl (fun ls hl => ?_)
          refine lv_goto (tgt := 54) hx hb dX2_count_81 (by decide) ?_
          exact ih (j + 1) _ ls (by omega) (by rw [zCnt, if_neg c4, ha]) (lv_sub hl [2, 3, 1, 0] rfl)
        · refine lv_iload_n hx hb dX2_count_70 rfl (lv_at hl 2 rfl) ?_
          refine lv_goto (tgt := 77) hx hb dX2_count_71 (by decide) ?_
          refine lv_istore_n (lv' := [(2, .int (a)), (0, .ref h), (1, .int (2)), (3, .int (nI (j)))]) hx hb dX2_count_77 rfl hl (by decide) rfl (fun ls hl => ?_)
          refine lv_iinc (v := nI (j + 1)) (lv' := [(3, .int (nI (j + 1))), (2, .int (a)), (0, .ref h), (1, .int (2))]) hx hb dX2_count_78 hl (k := 3) rfl (nI_1 _) (by decide) rfl (fun ls hl => ?_)
          refine lv_goto (tgt := 54) hx hb dX2_count_81 (by decide) ?_
          exact ih (j + 1) _ ls (by omega) (by rw [zCnt, if_pos c4, ha]) (lv_sub hl [2, 3, 1, 0] rfl)
    exact loop 10 0 0 ls (by omega) rfl (lv_sub hl [2, 3, 1, 0] rfl)
  · refine lv_tableIn (tgt := 86) (off := 85) hx hb dX2_count_1 (by decide) (by decide) (by decide) (by decide) ?_
    refine lv_aload_n hx hb dX2_count_86 rfl (lv_at hl 0 rfl) ?_
    refine mGet (v := .int (σ.2 14)) hX hin2 hK hI 14 (by decide) (hts (.fieldLink RX2 102 "GateHallsModel" "failure" "I") (by decide +kernel)) rfl dX2_count_87 ?_
    exact gIret hX hr hlk hI ⟨rfl, rfl⟩ dX2_count_90
  · refine lv_tableIn (tgt := 91) (off := 90) hx hb dX2_count_1 (by decide) (by decide) (by decide) (by decide) ?_
    refine lv_aload_n hx hb dX2_count_91 rfl (lv_at hl 0 rfl) ?_
    refine mGet (v := .int (σ.2 15)) hX hin2 hK hI 15 (by decide) (hts (.fieldLink RX2 78 "GateHallsModel" "walks" "I") (by decide +kernel)) rfl dX2_count_92 ?_
    exact gIret hX hr hlk hI ⟨rfl, rfl⟩ dX2_count_95
  · refine lv_tableIn (tgt := 96) (off := 95) hx hb dX2_count_1 (by decide) (by decide) (by decide) (by decide) ?_
    refine lv_aload_n hx hb dX2_count_96 rfl (lv_at hl 0 rfl) ?_
    refine mGet (v := .int (σ.2 16)) hX hin2 hK hI 16 (by decide) (hts (.fieldLink RX2 71 "GateHallsModel" "deepest" "I") (by decide +kernel)) rfl dX2_count_97 ?_
    exact gIret hX hr hlk hI ⟨rfl, rfl⟩ dX2_count_100
set_option maxRecDepth 100000 in
theorem iX2_pass_2 : ∀ w ∈ wsX20, w ∈ wsX2_pass := by decide +kernel
set_option maxHeartbeats 4000000 in
set_option maxRecDepth 100000 in
theorem c_X2_pass (l : Launch) (D : va_G) (cI cH : ClassId) (h : Nat) (q : Nat → Nat) (pf : Nat → Int32) (σ : gh_S) (sz : Nat) (i n w : Nat) (hi : i < n) (hg : gI n w σ) : gMi l yX2_pass wsX2_pass ({ frames := 1, cells := 0, slots := 0, locals := 21 }) D (wM h q cI pf σ) (gTy cI cH) sz [.ref h, .int (nI i)] (fun r u => r = (zPass σ i).1 ∧ u = wM h q cI pf (zPass σ i).2) := by
  refine gEnter (cc := cX2_pass) (maxL := 2) (ret := (some .int)) (QF := fun A => va_Qi _ (gPost D A) A) (by decide) rfl (Nat.le_of_ble_eq_true rfl) ?_
  intro p e s m below meth c A ls hX hr hlk hnm hK hN hA hI hl
  have hx := hX.1
  have hb := hX.2.1
  have hts := hX.2.2.2.2
  have hown : s.vm.findClass RX2 = some m.cls := hX.2.2.2.1
  have hin2 := iX2_pass_2
  have hl : lv_has ls 2 [(0, .ref h), (1, .int (nI i))] := hl
  obtain ⟨hn, hw, ⟨t, ht, htE⟩, hpl, hpar, hrow, hn4, hw30, hz⟩ := id hg
  refine lv_aload_n hx hb dX2_pass_0 rfl (lv_at hl 0 rfl) ?_
  refine mGet (v := .ref (q 4)) hX hin2 hK hI 4 (by decide) (hts (.fieldLink RX2 19 "GateHallsModel" "passes" "[I") (by decide +kernel)) rfl dX2_pass_1 ?_
  refine lv_iload_n hx hb dX2_pass_4 rfl (lv_at hl 1 rfl) ?_
  refine lv_dup2_11 hx hb dX2_pass_5 rfl rfl ?_
  refine mAld (j := i) hX hK hI 4 rfl rfl (by omega) (by decide) dX2_pass_6 ?_
  refine lv_iconst (v := 1) hx hb dX2_pass_7 (by decide) ?_
  refine lv_iadd hx hb dX2_pass_8 ?_
  refine mAst (j := i) (pf' := pf) (σ' := (uA σ 4 (i) ((σ.1 4 (i)) + (1)))) hX hK hI 4 rfl rfl (by omega) (by decide) rfl dX2_pass_9 (fun H locs hI => ?_)
  refine lv_aload_n hx hb dX2_pass_10 rfl (lv_at hl 0 rfl) ?_
  refine mGet (v := .ref (q 7)) hX hin2 hK hI 7 (by decide) (hts (.fieldLink RX2 28 "GateHallsModel" "inside" "[I") (by decide +kernel)) rfl dX2_pass_11 ?_
  refine lv_iload_n hx hb dX2_pass_14 rfl (lv_at hl 1 rfl) ?_
  refine lv_dup2_11 hx hb dX2_pass_15 rfl rfl ?_
  refine mAld (j := i) hX hK hI 7 rfl rfl (by omega) (by decide) dX2_pass_16 ?_
  refine gTop (y := σ.1 7 (i)) (by simp [uA, uS, upd]) ?_
  refine lv_iconst (v := 1) hx hb dX2_pass_17 (by decide) ?_
  refine lv_iadd hx hb dX2_pass_18 ?_
  refine mAst (j := i) (pf' := pf) (σ' := (uA (uA σ 4 (i) ((σ.1 4 (i)) + (1))) 7 (i) ((σ.1 7 (i)) + (1)))) hX hK hI 7 rfl rfl (by omega) (by decide) rfl dX2_pass_19 (fun H locs hI => ?_)
  refine lv_aload_n hx hb dX2_pass_20 rfl (lv_at hl 0 rfl) ?_
  refine mGet (v := .ref (q 8)) hX hin2 hK hI 8 (by decide) (hts (.fieldLink RX2 31 "GateHallsModel" "mosts" "[I") (by decide +kernel)) rfl dX2_pass_21 ?_
  refine lv_iload_n hx hb dX2_pass_24 rfl (lv_at hl 1 rfl) ?_
  refine lv_aload_n hx hb dX2_pass_25 rfl (lv_at hl 0 rfl) ?_
  refine mGet (v := .ref (q 7)) hX hin2 hK hI 7 (by decide) (hts (.fieldLink RX2 28 "GateHallsModel" "inside" "[I") (by decide +kernel)) rfl dX2_pass_26 ?_
  refine lv_iload_n hx hb dX2_pass_29 rfl (lv_at hl 1 rfl) ?_
  refine mAld (j := i) hX hK hI 7 rfl rfl (by omega) (by decide) dX2_pass_30 ?_
  refine gTop (y := (σ.1 7 (i)) + (1)) (by simp [uA, uS, upd]) ?_
  refine lv_aload_n hx hb dX2_pass_31 rfl (lv_at hl 0 rfl) ?_
  refine mGet (v := .ref (q 8)) hX hin2 hK hI 8 (by decide) (hts (.fieldLink RX2 31 "GateHallsModel" "mosts" "[I") (by decide +kernel)) rfl dX2_pass_32 ?_
  refine lv_iload_n hx hb dX2_pass_35 rfl (lv_at hl 1 rfl) ?_
  refine mAld (j := i) hX hK hI 8 rfl rfl (by omega) (by decide) dX2_pass_36 ?_
  refine gTop (y := σ.1 8 (i)) (by simp [uA, uS, upd]) ?_
  have key1 : ∀ V : Int32, (V = if σ.1 7 i + 1 ≤ σ.1 8 i then σ.1 8 i else σ.1 7 i + 1) → W p l e ({ frames := 1, cells := 0, slots := 0, locals := 21 }) s m ([.ref h, .int (nI i)] : List Value).toArray below meth c H locs 0 0 (MQ below (va_Qi (fun r u => r = (zPass σ i).1 ∧ u = wM h q cI pf (zPass σ i).2) (gPost D A) A) ([.ref h, .int (nI i)] : List Value).toArray s 0 0 A) (F0 m 55 ls [.int (V), .int (nI i), .ref (q 8)]) := by
    intro V hV
    refine mAst (j := i) (pf' := pf) (σ' := (uA (uA (uA σ 4 (i) ((σ.1 4 (i)) + (1))) 7 (i) ((σ.1 7 (i)) + (1))) 8 (i) (V))) hX hK hI 8 rfl rfl (by omega) (by decide) rfl dX2_pass_55 (fun H locs hI => ?_)
    have hI : InW D A s.heap (wM h q cI pf (zEnter σ i)) H locs := by subst hV; exact hI
    have hgE := gI_enter hi hg
    refine lv_aload_n hx hb dX2_pass_56 rfl (lv_at hl 0 rfl) ?_
    refine lv_iload_n hx hb dX2_pass_57 rfl (lv_at hl 1 rfl) ?_
    refine lv_bipush (v := 100) hx hb dX2_pass_58 (by decide) ?_
    refine lv_irem hx hb dX2_pass_60 (by decide) ?_
    refine gCallv (va_runV (As := [.int ((nI i) - (nI i) / (100) * (100))]) (rest := []) hX (c_X2_leave l D cI cH h q pf (zEnter σ i) H.size ((nI i) - (nI i) / (100) * (100)) n w hgE) (cwV 1 hts gX2_pass_X2_leave rfl rfl rfl (by decide +kernel) ⟨Nat.le_of_ble_eq_true rfl, Nat.le_of_ble_eq_true rfl⟩) ⟨gPre_blind, gRecv hI hK (ci := 2) (q0 := 0) rfl rfl, gPre_ok hI hK hN⟩ rfl rfl hl.1 rfl (lv_room (Nat.le_of_ble_eq_true rfl)) dX2_pass_61 ⟨Nat.zero_le _, Nat.zero_le _⟩) hI hA (fun ur1 H locs hr1 hI => ?_)
    subst hr1
    have hgL := gI_leave (x := zRem (nI i) 100) hgE
    generalize hσ2 : zLeave (zEnter σ i) (zRem (nI i) 100) = σ2 at hgL
    have hI : InW D A s.heap (wM h q cI pf σ2) H locs := by rw [← hσ2]; exact hI
    refine lv_aload_n hx hb dX2_pass_64 rfl (lv_at hl 0 rfl) ?_
    refine mGet (v := .ref (q 18)) hX hin2 hK hI 18 (by decide) (hts (.fieldLink RX2 43 "GateHallsModel" "row" "[I") (by decide +kernel)) rfl dX2_pass_65 ?_
    refine lv_aload_n hx hb dX2_pass_68 rfl (lv_at hl 0 rfl) ?_
    refine mGet (v := .int (σ2.2 17)) hX hin2 hK hI 17 (by decide) (hts (.fieldLink RX2 68 "GateHallsModel" "within" "I") (by decide +kernel)) rfl dX2_pass_69 ?_
    refine lv_iload_n hx hb dX2_pass_72 rfl (lv_at hl 1 rfl) ?_
    refine mAst (j := w) (pf' := pf) (σ' := (uA σ2 18 (w) (nI i))) hX hK hI 12 rfl hgL.2.1 (by omega) (by decide) rfl dX2_pass_73 (fun H locs hI => ?_)
    refine lv_aload_n hx hb dX2_pass_74 rfl (lv_at hl 0 rfl) ?_
    refine lv_dup hx hb dX2_pass_75 rfl ?_
    refine mGet (v := .int (σ2.2 17)) hX hin2 hK hI 17 (by decide) (hts (.fieldLink RX2 68 "GateHallsModel" "within" "I") (by decide +kernel)) rfl dX2_pass_76 ?_
    refine lv_iconst (v := 1) hx hb dX2_pass_79 (by decide) ?_
    refine lv_iadd hx hb dX2_pass_80 ?_
    refine mPut hX hin2 hK hI 17 (by decide) (hts (.fieldLink RX2 68 "GateHallsModel" "within" "I") (by decide +kernel)) rfl rfl rfl dX2_pass_81 (fun H locs hI => ?_)
    refine lv_aload_n hx hb dX2_pass_84 rfl (lv_at hl 0 rfl) ?_
    refine lv_aload_n hx hb dX2_pass_85 rfl (lv_at hl 0 rfl) ?_
    refine mGet (v := .int ((σ2.2 17) + (1))) hX hin2 hK hI 17 (by decide) (hts (.fieldLink RX2 68 "GateHallsModel" "within" "I") (by decide +kernel)) rfl dX2_pass_86 ?_
    refine lv_aload_n hx hb dX2_pass_89 rfl (lv_at hl 0 rfl) ?_
    refine mGet (v := .int (σ2.2 16)) hX hin2 hK hI 16 (by decide) (hts (.fieldLink RX2 71 "GateHallsModel" "deepest" "I") (by decide +kernel)) rfl dX2_pass_90 ?_
    have key2 : ∀ V : Int32, (V = if σ2.2 17 + 1 ≤ σ2.2 16 then σ2.2 16 else σ2.2 17 + 1) → W p l e ({ frames := 1, cells := 0, slots := 0, locals := 21 }) s m ([.ref h, .int (nI i)] : List Value).toArray below meth c H locs 0 0 (MQ below (va_Qi (fun r u => r = (zPass σ i).1 ∧ u = wM h q cI pf (zPass σ i).2) (gPost D A) A) ([.ref h, .int (nI i)] : List Value).toArray s 0 0 A) (F0 m 107 ls [.int (V), .ref h]) := by
      intro V hV
      refine mPut hX hin2 hK hI 16 (by decide) (hts (.fieldLink RX2 71 "GateHallsModel" "deepest" "I") (by decide +kernel)) rfl rfl rfl dX2_pass_107 (fun H locs hI => ?_)
      have hwC : (σ2.2 17).toNatClampNeg = w := by rw [hgL.2.1]; exact nI_clamp (by omega)
      have hI : InW D A s.heap (wM h q cI pf (zIn σ i)) H locs := by
        have e : zIn σ i = zPush σ2 i := by rw [← hσ2]; rfl
        rw [e]
        unfold zPush
        rw [hwC, ← hV]
        exact hI
      generalize hσ3 : zIn σ i = σ3 at hI
      have key3 : (¬ (σ3.1 1 i = 2 ∧ zRem (σ3.1 4 i) 3 = 0)) → W p l e ({ frames := 1, cells := 0, slots := 0, locals := 21 }) s m ([.ref h, .int (nI i)] : List Value).toArray below meth c H locs 0 0 (MQ below (va_Qi (fun r u => r = (zPass σ i).1 ∧ u = wM h q cI pf (zPass σ i).2) (gPost D A) A) ([.ref h, .int (nI i)] : List Value).toArray s 0 0 A) (F0 m 134 ls []) := by
        intro hG
        refine lv_aload_n hx hb dX2_pass_134 rfl (lv_at hl 0 rfl) ?_
        refine mGet (v := .int (σ3.2 11)) hX hin2 hK hI 11 (by decide) (hts (.fieldLink RX2 57 "GateHallsModel" "purse" "I") (by decide +kernel)) rfl dX2_pass_135 ?_
        refine lv_aload_n hx hb dX2_pass_138 rfl (lv_at hl 0 rfl) ?_
        refine lv_iload_n hx hb dX2_pass_139 rfl (lv_at hl 1 rfl) ?_
        refine gCalli (va_runV (As := [.int (nI i)]) (rest := [.int (σ3.2 11)]) hX (c_X2_charge l D cI cH h q pf σ3 H.size i (by omega)) (cwV 1 hts gX2_pass_X2_charge rfl rfl rfl (by decide +kernel) ⟨Nat.le_of_ble_eq_true rfl, Nat.le_of_ble_eq_true rfl⟩) ⟨gPre_blind, gRecv hI hK (ci := 2) (q0 := 0) rfl rfl, gPre_ok hI hK hN⟩ rfl rfl hl.1 rfl (lv_room (Nat.le_of_ble_eq_true rfl)) dX2_pass_140 ⟨Nat.zero_le _, Nat.zero_le _⟩) hI hA (fun r2 ur2 H locs hr2 hI => ?_)
        obtain ⟨hr2, rfl⟩ := hr2
        refine lv_icmp_ge (tgt := 149) hx hb dX2_pass_143 (by decide) (fun c3 => ?_) (fun c3 => ?_)
        · refine lv_aload_n hx hb dX2_pass_149 rfl (lv_at hl 0 rfl) ?_
          refine lv_aload_n hx hb dX2_pass_150 rfl (lv_at hl 0 rfl) ?_
          refine mGet (v := .int (σ3.2 11)) hX hin2 hK hI 11 (by decide) (hts (.fieldLink RX2 57 "GateHallsModel" "purse" "I") (by decide +kernel)) rfl dX2_pass_151 ?_
          refine lv_aload_n hx hb dX2_pass_154 rfl (lv_at hl 0 rfl) ?_
          refine lv_iload_n hx hb dX2_pass_155 rfl (lv_at hl 1 rfl) ?_
          refine gCalli (va_runV (As := [.int (nI i)]) (rest := [.int (σ3.2 11), .ref h]) hX (c_X2_charge l D cI cH h q pf σ3 H.size i (by omega)) (cwV 1 hts gX2_pass_X2_charge rfl rfl rfl (by decide +kernel) ⟨Nat.le_of_ble_eq_true rfl, Nat.le_of_ble_eq_true rfl⟩) ⟨gPre_blind, gRecv hI hK (ci := 2) (q0 := 0) rfl rfl, gPre_ok hI hK hN⟩ rfl rfl hl.1 rfl (lv_room (Nat.le_of_ble_eq_true rfl)) dX2_pass_156 ⟨Nat.zero_le _, Nat.zero_le _⟩) hI hA (fun r4 ur4 H locs hr4 hI => ?_)
          obtain ⟨hr4, rfl⟩ := hr4
          refine lv_isub hx hb dX2_pass_159 ?_
          refine mPut hX hin2 hK hI 11 (by decide) (hts (.fieldLink RX2 57 "GateHallsModel" "purse" "I") (by decide +kernel)) rfl rfl rfl dX2_pass_160 (fun H locs hI => ?_)
          refine lv_aload_n hx hb dX2_pass_163 rfl (lv_at hl 0 rfl) ?_
          refine mGet (v := .ref (q 6)) hX hin2 hK hI 6 (by decide) (hts (.fieldLink RX2 25 "GateHallsModel" "paid" "[I") (by decide +kernel)) rfl dX2_pass_164 ?_
          refine lv_iload_n hx hb dX2_pass_167 rfl (lv_at hl 1 rfl) ?_
          refine lv_aload_n hx hb dX2_pass_168 rfl (lv_at hl 0 rfl) ?_
          refine mGet (v := .ref (q 6)) hX hin2 hK hI 6 (by decide) (hts (.fieldLink RX2 25 "GateHallsModel" "paid" "[I") (by decide +kernel)) rfl dX2_pass_169 ?_
          refine lv_iload_n hx hb dX2_pass_172 rfl (lv_at hl 1 rfl) ?_
          refine mAld (j := i) hX hK hI 6 rfl rfl (by omega) (by decide) dX2_pass_173 ?_
          refine gTop (y := σ3.1 6 (i)) (by simp [uA, uS, upd]) ?_
          refine lv_aload_n hx hb dX2_pass_174 rfl (lv_at hl 0 rfl) ?_
          refine lv_iload_n hx hb dX2_pass_175 rfl (lv_at hl 1 rfl) ?_
          refine gCalli (va_runV (As := [.int (nI i)]) (rest := [.int (σ3.1 6 (i)), .int (nI i), .ref (q 6)]) hX (c_X2_charge l D cI cH h q pf (uS σ3 11 ((σ3.2 11) - (r4))) H.size i (by omega)) (cwV 1 hts gX2_pass_X2_charge rfl rfl rfl (by decide +kernel) ⟨Nat.le_of_ble_eq_true rfl, Nat.le_of_ble_eq_true rfl⟩) ⟨gPre_blind, gRecv hI hK (ci := 2) (q0 := 0) rfl rfl, gPre_ok hI hK hN⟩ rfl rfl hl.1 rfl (lv_room (Nat.le_of_ble_eq_true rfl)) dX2_pass_176 ⟨Nat.zero_le _, Nat.zero_le _⟩) hI hA (fun r5 ur5 H locs hr5 hI => ?_)
          obtain ⟨hr5, rfl⟩ := hr5
          refine lv_iadd hx hb dX2_pass_179 ?_
          refine mAst (j := i) (pf' := pf) (σ' := (uA (uS σ3 11 ((σ3.2 11) - (r4))) 6 (i) ((σ3.1 6 (i)) + (r5)))) hX hK hI 6 rfl rfl (by omega) (by decide) rfl dX2_pass_180 (fun H locs hI => ?_)
          refine lv_iconst (v := 0) hx hb dX2_pass_181 (by decide) ?_
          exact gIret hX hr hlk hI (by rw [zPass, hσ3, zPay, if_neg hG, if_pos (by rw [← hr2]; exact c3), ← hr4]; exact ⟨rfl, by rw [hr5, hr4]; rfl⟩) dX2_pass_182
        · refine lv_bipush (v := 20) hx hb dX2_pass_146 (by decide) ?_
          exact gIret hX hr hlk hI (by rw [zPass, hσ3, zPay, if_neg hG, if_neg (by rw [← hr2]; exact c3)]; exact ⟨rfl, rfl⟩) dX2_pass_148
      refine lv_aload_n hx hb dX2_pass_110 rfl (lv_at hl 0 rfl) ?_
      refine mGet (v := .ref (q 1)) hX hin2 hK hI 1 (by decide) (hts (.fieldLink RX2 7 "GateHallsModel" "kinds" "[I") (by decide +kernel)) rfl dX2_pass_111 ?_
      refine lv_iload_n hx hb dX2_pass_114 rfl (lv_at hl 1 rfl) ?_
      refine mAld (j := i) hX hK hI 1 rfl rfl (by omega) (by decide) dX2_pass_115 ?_
      refine lv_iconst (v := 2) hx hb dX2_pass_116 (by decide) ?_
      refine lv_icmp_ne (tgt := 134) hx hb dX2_pass_117 (by decide) (fun c6 => ?_) (fun c6 => ?_)
      · exact key3 (fun z => c6 z.1)
      · refine lv_aload_n hx hb dX2_pass_120 rfl (lv_at hl 0 rfl) ?_
        refine mGet (v := .ref (q 4)) hX hin2 hK hI 4 (by decide) (hts (.fieldLink RX2 19 "GateHallsModel" "passes" "[I") (by decide +kernel)) rfl dX2_pass_121 ?_
        refine lv_iload_n hx hb dX2_pass_124 rfl (lv_at hl 1 rfl) ?_
        refine mAld (j := i) hX hK hI 4 rfl rfl (by omega) (by decide) dX2_pass_125 ?_
        refine lv_iconst (v := 3) hx hb dX2_pass_126 (by decide) ?_
        refine lv_irem hx hb dX2_pass_127 (by decide) ?_
        refine lv_if_ne (tgt := 134) hx hb dX2_pass_128 (by decide) (fun c7 => ?_) (fun c7 => ?_)
        · exact key3 (fun z => c7 z.2)
        · refine lv_bipush (v := 21) hx hb dX2_pass_131 (by decide) ?_
          exact gIret hX hr hlk hI (by rw [zPass, hσ3, zPay, if_pos ⟨c6, c7⟩]; exact ⟨rfl, rfl⟩) dX2_pass_133
    refine lv_icmp_le (tgt := 103) hx hb dX2_pass_93 (by decide) (fun c8 => ?_) (fun c8 => ?_)
    · refine lv_aload_n hx hb dX2_pass_103 rfl (lv_at hl 0 rfl) ?_
      refine mGet (v := .int (σ2.2 16)) hX hin2 hK hI 16 (by decide) (hts (.fieldLink RX2 71 "GateHallsModel" "deepest" "I") (by decide +kernel)) rfl dX2_pass_104 ?_
      exact key2 _ (by rw [if_pos c8])
    · refine lv_aload_n hx hb dX2_pass_96 rfl (lv_at hl 0 rfl) ?_
      refine mGet (v := .int ((σ2.2 17) + (1))) hX hin2 hK hI 17 (by decide) (hts (.fieldLink RX2 68 "GateHallsModel" "within" "I") (by decide +kernel)) rfl dX2_pass_97 ?_
      refine lv_goto (tgt := 107) hx hb dX2_pass_100 (by decide) ?_
      exact key2 _ (by rw [if_neg c8])
  refine lv_icmp_le (tgt := 49) hx hb dX2_pass_37 (by decide) (fun c9 => ?_) (fun c9 => ?_)
  · refine lv_aload_n hx hb dX2_pass_49 rfl (lv_at hl 0 rfl) ?_
    refine mGet (v := .ref (q 8)) hX hin2 hK hI 8 (by decide) (hts (.fieldLink RX2 31 "GateHallsModel" "mosts" "[I") (by decide +kernel)) rfl dX2_pass_50 ?_
    refine lv_iload_n hx hb dX2_pass_53 rfl (lv_at hl 1 rfl) ?_
    refine mAld (j := i) hX hK hI 8 rfl rfl (by omega) (by decide) dX2_pass_54 ?_
    refine gTop (y := σ.1 8 (i)) (by simp [uA, uS, upd]) ?_
    exact key1 _ (by rw [if_pos c9])
  · refine lv_aload_n hx hb dX2_pass_40 rfl (lv_at hl 0 rfl) ?_
    refine mGet (v := .ref (q 7)) hX hin2 hK hI 7 (by decide) (hts (.fieldLink RX2 28 "GateHallsModel" "inside" "[I") (by decide +kernel)) rfl dX2_pass_41 ?_
    refine lv_iload_n hx hb dX2_pass_44 rfl (lv_at hl 1 rfl) ?_
    refine mAld (j := i) hX hK hI 7 rfl rfl (by omega) (by decide) dX2_pass_45 ?_
    refine gTop (y := (σ.1 7 (i)) + (1)) (by simp [uA, uS, upd]) ?_
    refine lv_goto (tgt := 55) hx hb dX2_pass_46 (by decide) ?_
    exact key1 _ (by rw [if_neg c9])
theorem g_nle2 {a b : Nat} (h : b < a) (hb : a < 2 ^ 31) : ¬ nI a ≤ nI b := nI_ge h hb
theorem gI_dec {n w : Nat} {σ : gh_S} (hg : gI n (w + 1) σ) : gI n w (uS σ 17 (σ.2 17 - 1)) := by
  obtain ⟨a1, a2, a3, a4, a5, a6, a7, a8, a9⟩ := hg
  exact ⟨a1, by rw [uS_eq, a2]; exact nI_pred w, a3, a4, a5, fun j hj => a6 j (by omega), a7, by omega, a9⟩
set_option maxRecDepth 100000 in
theorem iX2_leaveTo_2 : ∀ w ∈ wsX20, w ∈ wsX2_leaveTo := by decide +kernel
set_option maxHeartbeats 4000000 in
set_option maxRecDepth 100000 in
theorem c_X2_leaveTo (l : Launch) (D : va_G) (cI cH : ClassId) (h : Nat) (q : Nat → Nat) (pf : Nat → Int32) (σ : gh_S) (sz : Nat) (d n w : Nat) (hd : d ≤ w) (hg : gI n w σ) : gMv l yX2_leaveTo wsX2_leaveTo ({ frames := 1, cells := 0, slots := 0, locals := 21 }) D (wM h q cI pf σ) (gTy cI cH) sz [.ref h, .int (nI d)] (fun u => u = wM h q cI pf (zPops σ (w - d))) := by
  refine gEnter (cc := cX2_leaveTo) (maxL := 2) (ret := none) (QF := fun A => va_Qv _ (gPost D A) A) (by decide) rfl (Nat.le_of_ble_eq_true rfl) ?_
  intro p e s m below meth c A ls hX hr hlk hnm hK hN hA hI hl
  have hx := hX.1
  have hb := hX.2.1
  have hts := hX.2.2.2.2
  have hown : s.vm.findClass RX2 = some m.cls := hX.2.2.2.1
  have hin2 := iX2_leaveTo_2
  have hl : lv_has ls 2 [(0, .ref h), (1, .int (nI d))] := hl
  obtain ⟨hn, hw, ⟨t, ht, htE⟩, hpl, hpar, hrow, hn4, hw30, hz⟩ := id hg
  have loop : ∀ (k : Nat) (τ : gh_S) (H : Heap) (locs : List Loc) (ls : Array Slot), gI n (d + k) τ → zPops τ k = zPops σ (w - d) → InW D A s.heap (wM h q cI pf τ) H locs → lv_has ls 2 [(0, .ref h), (1, .int (nI d))] → W p l e ({ frames := 1, cells := 0, slots := 0, locals := 21 }) s m ([.ref h, .int (nI d)] : List Value).toArray below meth c H locs 0 0 (MQ below (va_Qv (fun u => u = wM h q cI pf (zPops σ (w - d))) (gPost D A) A) ([.ref h, .int (nI d)] : List Value).toArray s 0 0 A) (F0 m 0 ls []) := by
    intro k
    induction k with
    | zero =>
      intro τ H locs ls hgT hE hI hl
      refine lv_aload_n hx hb dX2_leaveTo_0 rfl (lv_at hl 0 rfl) ?_
      refine mGet (v := .int (τ.2 17)) hX hin2 hK hI 17 (by decide) (hts (.fieldLink RX2 68 "GateHallsModel" "within" "I") (by decide +kernel)) rfl dX2_leaveTo_1 ?_
      refine lv_iload_n hx hb dX2_leaveTo_4 rfl (lv_at hl 1 rfl) ?_
      refine lv_icmp_le (tgt := 58) hx hb dX2_leaveTo_5 (by decide) (fun c1 => ?_) (fun c1 => absurd (by rw [hgT.2.1]; exact nI_le (Nat.le_refl _) (by omega)) c1)
      exact gVret hX hr hlk hI (by rw [← hE]; rfl) dX2_leaveTo_58
    | succ k ih =>
      intro τ H locs ls hgT hE hI hl
      have hT30 := hgT.2.2.2.2.2.2.2.1
      obtain ⟨i, hi, hiE⟩ := hgT.2.2.2.2.2.1 (d + k) (by omega)
      have hp := gI_pop (w := d + k) hgT
      have e1 : τ.2 17 - 1 = nI (d + k) := by rw [hgT.2.1]; exact nI_pred _
      refine lv_aload_n hx hb dX2_leaveTo_0 rfl (lv_at hl 0 rfl) ?_
      refine mGet (v := .int (τ.2 17)) hX hin2 hK hI 17 (by decide) (hts (.fieldLink RX2 68 "GateHallsModel" "within" "I") (by decide +kernel)) rfl dX2_leaveTo_1 ?_
      refine lv_iload_n hx hb dX2_leaveTo_4 rfl (lv_at hl 1 rfl) ?_
      refine lv_icmp_le (tgt := 58) hx hb dX2_leaveTo_5 (by decide) (fun c2 => absurd c2 (by rw [hgT.2.1]; exact nI_ge (by omega) (by omega))) (fun c2 => ?_)
      refine lv_aload_n hx hb dX2_leaveTo_8 rfl (lv_at hl 0 rfl) ?_
      refine lv_dup hx hb dX2_leaveTo_9 rfl ?_
      refine mGet (v := .int (τ.2 17)) hX hin2 hK hI 17 (by decide) (hts (.fieldLink RX2 68 "GateHallsModel" "within" "I") (by decide +kernel)) rfl dX2_leaveTo_10 ?_
      refine lv_iconst (v := 1) hx hb dX2_leaveTo_13 (by decide) ?_
      refine lv_isub hx hb dX2_leaveTo_14 ?_
      refine mPut hX hin2 hK hI 17 (by decide) (hts (.fieldLink RX2 68 "GateHallsModel" "within" "I") (by decide +kernel)) rfl rfl rfl dX2_leaveTo_15 (fun H locs hI => ?_)
      refine lv_aload_n hx hb dX2_leaveTo_18 rfl (lv_at hl 0 rfl) ?_
      refine mGet (v := .ref (q 7)) hX hin2 hK hI 7 (by decide) (hts (.fieldLink RX2 28 "GateHallsModel" "inside" "[I") (by decide +kernel)) rfl dX2_leaveTo_19 ?_
      refine lv_aload_n hx hb dX2_leaveTo_22 rfl (lv_at hl 0 rfl) ?_
      refine mGet (v := .ref (q 18)) hX hin2 hK hI 18 (by decide) (hts (.fieldLink RX2 43 "GateHallsModel" "row" "[I") (by decide +kernel)) rfl dX2_leaveTo_23 ?_
      refine lv_aload_n hx hb dX2_leaveTo_26 rfl (lv_at hl 0 rfl) ?_
      refine mGet (v := .int ((τ.2 17) - (1))) hX hin2 hK hI 17 (by decide) (hts (.fieldLink RX2 68 "GateHallsModel" "within" "I") (by decide +kernel)) rfl dX2_leaveTo_27 ?_
      refine mAld (j := d + k) hX hK hI 12 rfl e1 (by omega) (by decide) dX2_leaveTo_30 ?_
      refine gTop (y := τ.1 18 (d + k)) (by simp [uA, uS, upd]) ?_
      refine lv_dup2_11 hx hb dX2_leaveTo_31 rfl rfl ?_
      refine mAld (j := i) hX hK hI 7 rfl hiE (by omega) (by decide) dX2_leaveTo_32 ?_
      refine gTop (y := τ.1 7 (i)) (by simp [uA, uS, upd]) ?_
      refine lv_iconst (v := 1) hx hb dX2_leaveTo_33 (by decide) ?_
      refine lv_isub hx hb dX2_leaveTo_34 ?_
      refine mAst (j := i) (pf' := pf) (σ' := (uA (uS τ 17 ((τ.2 17) - (1))) 7 (i) ((τ.1 7 (i)) - (1)))) hX hK hI 7 rfl hiE (by omega) (by decide) rfl dX2_leaveTo_35 (fun H locs hI => ?_)
      refine lv_aload_n hx hb dX2_leaveTo_36 rfl (lv_at hl 0 rfl) ?_
      refine lv_bipush (v := 100) hx hb dX2_leaveTo_37 (by decide) ?_
      refine lv_aload_n hx hb dX2_leaveTo_39 rfl (lv_at hl 0 rfl) ?_
      refine mGet (v := .ref (q 18)) hX hin2 hK hI 18 (by decide) (hts (.fieldLink RX2 43 "GateHallsModel" "row" "[I") (by decide +kernel)) rfl dX2_leaveTo_40 ?_
      refine lv_aload_n hx hb dX2_leaveTo_43 rfl (lv_at hl 0 rfl) ?_
      refine mGet (v := .int ((τ.2 17) - (1))) hX hin2 hK hI 17 (by decide) (hts (.fieldLink RX2 68 "GateHallsModel" "within" "I") (by decide +kernel)) rfl dX2_leaveTo_44 ?_
      refine mAld (j := d + k) hX hK hI 12 rfl e1 (by omega) (by decide) dX2_leaveTo_47 ?_
      refine gTop (y := τ.1 18 (d + k)) (by simp [uA, uS, upd]) ?_
      refine lv_bipush (v := 100) hx hb dX2_leaveTo_48 (by decide) ?_
      refine lv_irem hx hb dX2_leaveTo_50 (by decide) ?_
      refine lv_iadd hx hb dX2_leaveTo_51 ?_
      refine gCallv (va_runV (As := [.int ((100) + ((τ.1 18 (d + k)) - (τ.1 18 (d + k)) / (100) * (100)))]) (rest := []) hX (c_X2_leave l D cI cH h q pf (uA (uS τ 17 ((τ.2 17) - (1))) 7 (i) ((τ.1 7 (i)) - (1))) H.size ((100) + ((τ.1 18 (d + k)) - (τ.1 18 (d + k)) / (100) * (100))) n (d + k) (gI_uH 7 i _ hi (by decide) (gI_dec hgT))) (cwV 1 hts gX2_leaveTo_X2_leave rfl rfl rfl (by decide +kernel) ⟨Nat.le_of_ble_eq_true rfl, Nat.le_of_ble_eq_true rfl⟩) ⟨gPre_blind, gRecv hI hK (ci := 2) (q0 := 0) rfl rfl, gPre_ok hI hK hN⟩ rfl rfl hl.1 rfl (lv_room (Nat.le_of_ble_eq_true rfl)) dX2_leaveTo_52 ⟨Nat.zero_le _, Nat.zero_le _⟩) hI hA (fun ur3 H locs hr3 hI => ?_)
      subst hr3
      have hI : InW D A s.heap (wM h q cI pf (zPop τ)) H locs := by
        rw [zPop_eq (w := d + k) (i := i) (by omega) (by omega) hgT.2.1 hiE]
        rw [e1, hiE] at hI
        exact hI
      refine lv_goto (tgt := 0) hx hb dX2_leaveTo_55 (by decide) ?_
      exact ih (zPop τ) _ _ ls hp hE hI (lv_sub hl [0, 1] rfl)
  exact loop (w - d) σ _ _ ls (by rw [show d + (w - d) = w by omega]; exact hg) rfl hI (lv_sub hl [0, 1] rfl)
end
section
/-! PATHS: as many different places as there are, no more; a path that comes twice to a place has no end -/
theorem g_hole : ∀ (N m : Nat) (g : Nat → Nat), (∀ j, j < m → g j < N) → (∀ a b, a < m → b < m → g a = g b → a = b) → m ≤ N
  | 0, m, g, h1, _ => by
    rcases Nat.eq_zero_or_pos m with h | h
    · omega
    · exact absurd (h1 0 h) (by omega)
  | N + 1, m, g, h1, h2 => by
    by_cases hx : ∃ j, j < m ∧ g j = N
    · obtain ⟨j0, hj0, hjN⟩ := hx
      have := g_hole N (m - 1) (fun j => g (if j < j0 then j else j + 1)) (fun j hj => by
        have h3 := h1 (if j < j0 then j else j + 1) (by split <;> omega)
        have h4 : g (if j < j0 then j else j + 1) ≠ N := fun e => by
          have := h2 (if j < j0 then j else j + 1) j0 (by split <;> omega) hj0 (e.trans hjN.symm)
          split at this <;> omega
        show g (if j < j0 then j else j + 1) < N
        omega) (fun a b ha hb e => by
        have := h2 (if a < j0 then a else a + 1) (if b < j0 then b else b + 1) (by split <;> omega) (by split <;> omega) e
        split at this <;> split at this <;> omega)
      omega
    · have := g_hole N m g (fun j hj => by
        have h3 := h1 j hj
        have h4 : g j ≠ N := fun e => hx ⟨j, hj, e⟩
        omega) h2
      omega
theorem zOrb_hole {o : Nat → Int32} {m : Nat} (h1 : ∀ j, j < m → ∃ i : Nat, i < 10 ∧ o j = nI i) (h2 : ∀ a b, a < m → b < m → a ≠ b → o a ≠ o b) : m ≤ 10 := by
  refine g_hole 10 m (fun j => (o j).toNatClampNeg) (fun j hj => ?_) (fun a b ha hb e => ?_)
  · obtain ⟨i, hi, hiE⟩ := h1 j hj
    show (o j).toNatClampNeg < 10
    rw [hiE, nI_clamp (by omega)]; exact hi
  · obtain ⟨i, hi, hiE⟩ := h1 a ha
    obtain ⟨k, hk, hkE⟩ := h1 b hb
    have e' : (o a).toNatClampNeg = (o b).toNatClampNeg := e
    rw [hiE, hkE, nI_clamp (by omega), nI_clamp (by omega)] at e'
    rcases Nat.eq_or_lt_of_le (Nat.le_refl a) with _ | _
    · by_cases hab : a = b
      · exact hab
      · exact absurd (by rw [hiE, hkE, e']) (h2 a b ha hb hab)
    · omega
theorem zOrb_step {par : Nat → Int32} {p : Int32} {a b : Nat} (h : zOrb par p a = zOrb par p b) : ∀ m, zOrb par p (a + m) = zOrb par p (b + m)
  | 0 => h
  | m + 1 => by
    show (if zOrb par p (a + m) = -1 then -1 else par (zOrb par p (a + m)).toNatClampNeg) = (if zOrb par p (b + m) = -1 then -1 else par (zOrb par p (b + m)).toNatClampNeg)
    rw [zOrb_step h m]
theorem zOrb_on {par : Nat → Int32} {p : Int32} {a k : Nat} (hak : a < k) (h : zOrb par p a = zOrb par p k) (h0 : ∀ j, j < k → zOrb par p j ≠ -1) : ∀ j, zOrb par p j ≠ -1 := by
  intro j
  induction j using Nat.strongRecOn with
  | ind j ih =>
    by_cases hj : j < k
    · exact h0 j hj
    · have e := zOrb_step h (j - k)
      rw [show k + (j - k) = j by omega] at e
      rw [← e]
      exact ih (a + (j - k)) (by omega)
theorem zOrb_succ {par : Nat → Int32} {p : Int32} {k j : Nat} (h : zOrb par p k = nI j) (hj : j < 10) : zOrb par p (k + 1) = par j := by
  show (if zOrb par p k = -1 then -1 else par (zOrb par p k).toNatClampNeg) = par j
  have hx : ∀ j, j < 10 → ¬ nI j = -1 := by decide
  rw [h, if_neg (hx j hj), nI_clamp (by omega)]
theorem zGo_none {σ : gh_S} {p : Int32} (h : ∀ j, zOrb (σ.1 10) p j ≠ -1) : zGo σ p = (8, uS σ 15 (σ.2 15 + 1)) := by
  unfold zGo
  rw [zLen_no (fun j _ => h j)]
theorem zGo_some {σ : gh_S} {p : Int32} {k : Nat} (hk : k ≤ 10) (h0 : ∀ j, j < k → zOrb (σ.1 10) p j ≠ -1) (h1 : zOrb (σ.1 10) p k = -1) : zGo σ p = zDown (zOrb (σ.1 10) p) k (uS σ 15 (σ.2 15 + 1)) := by
  unfold zGo
  rw [zLen_is hk h0 h1]
theorem zRich_fail {σ : gh_S} {x : Int64} (h : ¬ (zRich σ x).1 = 0) : zRich σ x = (22, σ) := by
  unfold zRich at h ⊢
  by_cases c1 : lg_cmp ((σ.2 11).toInt64 + x) 0 < 0
  · rw [if_pos c1]
  · rw [if_neg c1] at h ⊢
    by_cases c2 : lg_cmp ((σ.2 11).toInt64 + x) 1000000 ≤ 0
    · rw [if_pos c2] at h; exact absurd rfl h
    · rw [if_neg c2]
end
section
set_option maxRecDepth 100000 in
theorem iX2_goTo_2 : ∀ w ∈ wsX20, w ∈ wsX2_goTo := by decide +kernel
set_option maxHeartbeats 4000000 in
set_option maxRecDepth 100000 in
theorem c_X2_goTo (l : Launch) (D : va_G) (cI cH : ClassId) (h : Nat) (q : Nat → Nat) (pf : Nat → Int32) (σ : gh_S) (sz : Nat) (p0 n w : Nat) (hp : p0 < 10) (hw10 : w + 10 ≤ 30) (hg : gI n w σ) : gMi l yX2_goTo wsX2_goTo ({ frames := 2, cells := 0, slots := 0, locals := 42 }) D (wM h q cI pf σ) (gTy cI cH) sz [.ref h, .int (nI p0)] (fun r u => ∃ pf' : Nat → Int32, r = (zGo σ (nI p0)).1 ∧ u = wM h q cI pf' (zGo σ (nI p0)).2) := by
  refine gEnter (cc := cX2_goTo) (maxL := 7) (ret := (some .int)) (QF := fun A => va_Qi _ (gPost D A) A) (by decide) rfl (Nat.le_of_ble_eq_true rfl) ?_
  intro p e s m below meth c A ls hX hr hlk hnm hK hN hA hI hl
  have hx := hX.1
  have hb := hX.2.1
  have hts := hX.2.2.2.2
  have hown : s.vm.findClass RX2 = some m.cls := hX.2.2.2.1
  have hin2 := iX2_goTo_2
  have hl : lv_has ls 7 [(0, .ref h), (1, .int (nI p0))] := hl
  refine lv_aload_n hx hb dX2_goTo_0 rfl (lv_at hl 0 rfl) ?_
  refine lv_dup hx hb dX2_goTo_1 rfl ?_
  refine mGet (v := .int (σ.2 15)) hX hin2 hK hI 15 (by decide) (hts (.fieldLink RX2 78 "GateHallsModel" "walks" "I") (by decide +kernel)) rfl dX2_goTo_2 ?_
  refine lv_iconst (v := 1) hx hb dX2_goTo_5 (by decide) ?_
  refine lv_iadd hx hb dX2_goTo_6 ?_
  refine mPut hX hin2 hK hI 15 (by decide) (hts (.fieldLink RX2 78 "GateHallsModel" "walks" "I") (by decide +kernel)) rfl rfl rfl dX2_goTo_7 (fun H locs hI => ?_)
  refine lv_iconst (v := 0) hx hb dX2_goTo_10 (by decide) ?_
  refine lv_istore_n (lv' := [(2, .int (0)), (0, .ref h), (1, .int (nI p0))]) hx hb dX2_goTo_11 rfl hl (by decide) rfl (fun ls hl => ?_)
  refine lv_iload_n hx hb dX2_goTo_12 rfl (lv_at hl 2 rfl) ?_
  refine lv_istore_n (lv' := [(3, .int (nI p0)), (2, .int (0)), (0, .ref h), (1, .int (nI p0))]) hx hb dX2_goTo_13 rfl hl (by decide) rfl (fun ls hl => ?_)
  have hp0 : ∃ j : Nat, j < 10 ∧ nI p0 = nI j := ⟨p0, hp, rfl⟩
  obtain ⟨o, ho⟩ : ∃ o, o = zOrb (σ.1 10) (nI p0) := ⟨_, rfl⟩
  have hoin : ∀ j, o j = -1 ∨ ∃ i : Nat, i < 10 ∧ o j = nI i := by rw [ho]; exact zOrb_in hg hp0
  have hg1 : gI n w (uS σ 15 (σ.2 15 + 1)) := gI_uS 15 _ (by decide) (by decide) (by decide) hg
  have loop2 : ∀ (r w' : Nat) (τ : gh_S) (pf : Nat → Int32) (H : Heap) (locs : List Loc) (ls : Array Slot), r ≤ 10 → w' + r ≤ 30 → gI n w' τ → zDown o r τ = zGo σ (nI p0) → (∀ j, j < r → pf j = o j ∧ o j ≠ -1) → InW D A s.heap (wM h q cI pf τ) H locs → lv_has ls 7 [(0, .ref h), (4, .int ((nI r) - 1))] → W p l e ({ frames := 2, cells := 0, slots := 0, locals := 42 }) s m ([.ref h, .int (nI p0)] : List Value).toArray below meth c H locs 0 0 (MQ below (va_Qi (fun r u => ∃ pf' : Nat → Int32, r = (zGo σ (nI p0)).1 ∧ u = wM h q cI pf' (zGo σ (nI p0)).2) (gPost D A) A) ([.ref h, .int (nI p0)] : List Value).toArray s 0 0 A) (F0 m 73 ls []) := by
    intro r
    induction r with
    | zero =>
      intro w' τ pf H locs ls hr10 hr30 hgT hE hpf hI hl
      refine lv_iload hx hb dX2_goTo_73 (lv_at hl 1 rfl) ?_
      refine lv_if_lt (tgt := 124) hx hb dX2_goTo_75 (by decide) (fun c1 => ?_) (fun c1 => absurd (show (nI 0) - 1 < 0 by decide) c1)
      refine lv_iconst (v := 0) hx hb dX2_goTo_124 (by decide) ?_
      exact gIret hX hr hlk hI ⟨pf, by rw [← hE]; rfl, by rw [← hE]; rfl⟩ dX2_goTo_125
    | succ r ih =>
      intro w' τ pf H locs ls hr10 hr30 hgT hE hpf hI hl
      obtain ⟨hpr, hor⟩ := hpf r (by omega)
      obtain ⟨j, hj, hjE⟩ := (hoin r).resolve_left hor
      have hjC : (o r).toNatClampNeg = j := by rw [hjE]; exact nI_clamp (by omega)
      have hTn := hgT.2.2.2.2.2.2.1
      refine lv_iload hx hb dX2_goTo_73 (lv_at hl 1 rfl) ?_
      refine lv_if_lt (tgt := 124) hx hb dX2_goTo_75 (by decide) (fun c2 => absurd c2 (by rw [nI_pred]; exact nI_pos (by omega))) (fun c2 => ?_)
      refine lv_aload_n hx hb dX2_goTo_78 rfl (lv_at hl 0 rfl) ?_
      refine mGet (v := .ref (q 9)) hX hin2 hK hI 9 (by decide) (hts (.fieldLink RX2 34 "GateHallsModel" "places" "[I") (by decide +kernel)) rfl dX2_goTo_79 ?_
      refine lv_aload_n hx hb dX2_goTo_82 rfl (lv_at hl 0 rfl) ?_
      refine mGet (v := .ref (q 19)) hX hin2 hK hI 19 (by decide) (hts (.fieldLink RX2 46 "GateHallsModel" "path" "[I") (by decide +kernel)) rfl dX2_goTo_83 ?_
      refine lv_iload hx hb dX2_goTo_86 (lv_at hl 1 rfl) ?_
      refine mAld (j := r) hX hK hI 13 rfl (nI_pred r) (by omega) (by decide) dX2_goTo_88 ?_
      refine mAld (j := j) hX hK hI 9 rfl (hpr.trans hjE) (by omega) (by decide) dX2_goTo_89 ?_
      refine lv_istore (lv' := [(5, .int (τ.1 9 (j))), (0, .ref h), (4, .int (nI (r + 1) - 1))]) hx hb dX2_goTo_90 hl (by decide) rfl (fun ls hl => ?_)
      refine lv_iload hx hb dX2_goTo_92 (lv_at hl 0 rfl) ?_
      refine lv_iconst (v := (-1)) hx hb dX2_goTo_94 (by decide) ?_
      refine lv_icmp_ne (tgt := 102) hx hb dX2_goTo_95 (by decide) (fun c3 => ?_) (fun c3 => ?_)
      · obtain ⟨i, hi, hiE⟩ := (hgT.2.2.2.1 j hj).resolve_left c3
        have hiC : (τ.1 9 j).toNatClampNeg = i := by rw [hiE]; exact nI_clamp (by omega)
        refine lv_aload_n hx hb dX2_goTo_102 rfl (lv_at hl 1 rfl) ?_
        refine lv_iload hx hb dX2_goTo_103 (lv_at hl 0 rfl) ?_
        refine gTop (y := nI i) hiE ?_
        refine gCalli (va_runV (As := [.int (nI i)]) (rest := []) hX (c_X2_pass l D cI cH h q pf τ H.size i n w' hi hgT) (cwV 1 hts gX2_goTo_X2_pass rfl rfl rfl (by decide +kernel) ⟨Nat.le_of_ble_eq_true rfl, Nat.le_of_ble_eq_true rfl⟩) ⟨gPre_blind, gRecv hI hK (ci := 2) (q0 := 0) rfl rfl, gPre_ok hI hK hN⟩ rfl rfl hl.1 rfl (lv_room (Nat.le_of_ble_eq_true rfl)) dX2_goTo_105 ⟨Nat.zero_le _, Nat.zero_le _⟩) hI hA (fun r4 ur4 H locs hr4 hI => ?_)
        obtain ⟨hr4, rfl⟩ := hr4
        refine lv_istore (lv' := [(6, .int (r4)), (5, .int (τ.1 9 (j))), (0, .ref h), (4, .int (nI (r + 1) - 1))]) hx hb dX2_goTo_108 hl (by decide) rfl (fun ls hl => ?_)
        refine lv_iload hx hb dX2_goTo_110 (lv_at hl 0 rfl) ?_
        refine lv_if_eq (tgt := 118) hx hb dX2_goTo_112 (by decide) (fun c5 => ?_) (fun c5 => ?_)
        · obtain ⟨x6, ex6⟩ : ∃ y : Int32, y = nI (r + 1) - 1 + (-1) := ⟨_, rfl⟩
          refine lv_iinc (v := x6) (lv' := [(4, .int (x6)), (6, .int (r4)), (5, .int (τ.1 9 (j))), (0, .ref h)]) hx hb dX2_goTo_118 hl (k := 3) rfl (by rw [ex6]; rfl) (by decide) rfl (fun ls hl => ?_)
          refine lv_goto (tgt := 73) hx hb dX2_goTo_121 (by decide) ?_
          have hX4 : x6 = (nI r) - 1 := by rw [ex6, nI_pred]; exact (Int32.sub_eq_add_neg _ _).symm
          rw [hX4] at hl
          exact ih (w' + 1) _ pf _ _ ls (by omega) (by omega) (gI_pass hi (by omega) hgT) (by rw [← hE, zDown, hjC, if_neg c3, hiC, if_pos (by rw [← hr4]; exact c5)]) (fun k hk => hpf k (by omega)) hI (lv_sub hl [3, 0] rfl)
        · refine lv_iload hx hb dX2_goTo_115 (lv_at hl 0 rfl) ?_
          exact gIret hX hr hlk hI ⟨pf, by rw [← hE, zDown, hjC, if_neg c3, hiC, if_neg (by rw [← hr4]; exact c5)]; exact hr4, by rw [← hE, zDown, hjC, if_neg c3, hiC, if_neg (by rw [← hr4]; exact c5)]⟩ dX2_goTo_117
      · refine lv_iconst (v := 1) hx hb dX2_goTo_98 (by decide) ?_
        refine lv_goto (tgt := 108) hx hb dX2_goTo_99 (by decide) ?_
        refine lv_istore (lv' := [(6, .int (1)), (5, .int (τ.1 9 (j))), (0, .ref h), (4, .int (nI (r + 1) - 1))]) hx hb dX2_goTo_108 hl (by decide) rfl (fun ls hl => ?_)
        refine lv_iload hx hb dX2_goTo_110 (lv_at hl 0 rfl) ?_
        refine lv_if_eq (tgt := 118) hx hb dX2_goTo_112 (by decide) (fun c7 => False.elim (by revert c7; decide)) (fun c7 => ?_)
        refine lv_iload hx hb dX2_goTo_115 (lv_at hl 0 rfl) ?_
        exact gIret hX hr hlk hI ⟨pf, by rw [← hE, zDown, hjC, if_pos c3], by rw [← hE, zDown, hjC, if_pos c3]⟩ dX2_goTo_117
  have loop1 : ∀ (f k : Nat) (pf : Nat → Int32) (H : Heap) (locs : List Loc) (ls : Array Slot), k + f = 11 → (∀ j, j < k → pf j = o j ∧ o j ≠ -1) → (∀ a b, a < k → b < k → a ≠ b → o a ≠ o b) → InW D A s.heap (wM h q cI pf (uS σ 15 (σ.2 15 + 1))) H locs → lv_has ls 7 [(0, .ref h), (2, .int (nI k)), (3, .int (o k))] → W p l e ({ frames := 2, cells := 0, slots := 0, locals := 42 }) s m ([.ref h, .int (nI p0)] : List Value).toArray below meth c H locs 0 0 (MQ below (va_Qi (fun r u => ∃ pf' : Nat → Int32, r = (zGo σ (nI p0)).1 ∧ u = wM h q cI pf' (zGo σ (nI p0)).2) (gPost D A) A) ([.ref h, .int (nI p0)] : List Value).toArray s 0 0 A) (F0 m 14 ls []) := by
    intro f
    induction f with
    | zero =>
      intro k pf H locs ls hk hpf hne hI hl
      have := zOrb_hole (o := o) (m := k) (fun j hj => (hoin j).resolve_left (hpf j hj).2) hne
      omega
    | succ f ih =>
      intro k pf H locs ls hk hpf hne hI hl
      have hk10 := zOrb_hole (o := o) (m := k) (fun j hj => (hoin j).resolve_left (hpf j hj).2) hne
      refine lv_iload_n hx hb dX2_goTo_14 rfl (lv_at hl 2 rfl) ?_
      refine lv_iconst (v := (-1)) hx hb dX2_goTo_15 (by decide) ?_
      refine lv_icmp_eq (tgt := 68) hx hb dX2_goTo_16 (by decide) (fun c8 => ?_) (fun c8 => ?_)
      · refine lv_iload_n hx hb dX2_goTo_68 rfl (lv_at hl 1 rfl) ?_
        refine lv_iconst (v := 1) hx hb dX2_goTo_69 (by decide) ?_
        refine lv_isub hx hb dX2_goTo_70 ?_
        refine lv_istore (lv' := [(4, .int ((nI k) - (1))), (0, .ref h), (2, .int (nI k)), (3, .int (o k))]) hx hb dX2_goTo_71 hl (by decide) rfl (fun ls hl => ?_)
        exact loop2 k w _ pf _ _ ls hk10 (by omega) hg1 (by rw [ho]; exact (zGo_some hk10 (fun j hj => by rw [← ho]; exact (hpf j hj).2) (by rw [← ho]; exact c8)).symm) (fun j hj => hpf j hj) hI (lv_sub hl [1, 0] rfl)
      · refine lv_iconst (v := 0) hx hb dX2_goTo_19 (by decide) ?_
        refine lv_istore (lv' := [(4, .int (0)), (0, .ref h), (2, .int (nI k)), (3, .int (o k))]) hx hb dX2_goTo_20 hl (by decide) rfl (fun ls hl => ?_)
        obtain ⟨j, hj, hjE⟩ := (hoin k).resolve_left c8
        have loop3 : ∀ (mm a : Nat) (ls : Array Slot), a + mm = k → (∀ b, b < a → o b ≠ o k) → lv_has ls 7 [(0, .ref h), (2, .int (nI k)), (3, .int (o k)), (4, .int (nI a))] → W p l e ({ frames := 2, cells := 0, slots := 0, locals := 42 }) s m ([.ref h, .int (nI p0)] : List Value).toArray below meth c H locs 0 0 (MQ below (va_Qi (fun r u => ∃ pf' : Nat → Int32, r = (zGo σ (nI p0)).1 ∧ u = wM h q cI pf' (zGo σ (nI p0)).2) (gPost D A) A) ([.ref h, .int (nI p0)] : List Value).toArray s 0 0 A) (F0 m 22 ls []) := by
          intro mm
          induction mm with
          | zero =>
            intro a ls ha hb3 hl
            have ha : a = k := by omega
            subst ha
            have hk9 := zOrb_hole (o := o) (m := a + 1) (fun b hb4 => by
              by_cases hba : b = a
              · rw [hba]; exact ⟨j, hj, hjE⟩
              · exact (hoin b).resolve_left (hpf b (by omega)).2) (fun x y hx3 hy3 hxy => by
              by_cases h1 : x = a
              · rw [h1]; exact (hb3 y (by omega)).symm
              · by_cases h2 : y = a
                · rw [h2]; exact hb3 x (by omega)
                · exact hne x y (by omega) (by omega) hxy)
            refine lv_iload hx hb dX2_goTo_22 (lv_at hl 3 rfl) ?_
            refine lv_iload_n hx hb dX2_goTo_24 rfl (lv_at hl 1 rfl) ?_
            refine lv_icmp_ge (tgt := 48) hx hb dX2_goTo_25 (by decide) (fun c9 => ?_) (fun c9 => absurd (nI_le (Nat.le_refl _) (by omega)) c9)
            refine lv_aload_n hx hb dX2_goTo_48 rfl (lv_at hl 0 rfl) ?_
            refine mGet (v := .ref (q 19)) hX hin2 hK hI 19 (by decide) (hts (.fieldLink RX2 46 "GateHallsModel" "path" "[I") (by decide +kernel)) rfl dX2_goTo_49 ?_
            refine lv_iload_n hx hb dX2_goTo_52 rfl (lv_at hl 1 rfl) ?_
            refine lv_iload_n hx hb dX2_goTo_53 rfl (lv_at hl 2 rfl) ?_
            refine mAst (j := a) (pf' := (upd pf (a) (o a))) (σ' := (uS σ 15 (σ.2 15 + 1))) hX hK hI 13 rfl rfl (by omega) (by decide) rfl dX2_goTo_54 (fun H locs hI => ?_)
            refine lv_iinc (v := nI (a + 1)) (lv' := [(2, .int (nI (a + 1))), (0, .ref h), (3, .int (o a)), (4, .int (nI a))]) hx hb dX2_goTo_55 hl (k := 1) rfl (nI_1 _) (by decide) rfl (fun ls hl => ?_)
            refine lv_aload_n hx hb dX2_goTo_58 rfl (lv_at hl 1 rfl) ?_
            refine mGet (v := .ref (q 10)) hX hin2 hK hI 10 (by decide) (hts (.fieldLink RX2 37 "GateHallsModel" "parents" "[I") (by decide +kernel)) rfl dX2_goTo_59 ?_
            refine lv_iload_n hx hb dX2_goTo_62 rfl (lv_at hl 2 rfl) ?_
            refine mAld (j := j) hX hK hI 10 rfl hjE (by omega) (by decide) dX2_goTo_63 ?_
            refine gTop (y := σ.1 10 (j)) (by simp [uA, uS, upd]) ?_
            refine lv_istore_n (lv' := [(3, .int (σ.1 10 (j))), (2, .int (nI (a + 1))), (0, .ref h), (4, .int (nI a))]) hx hb dX2_goTo_64 rfl hl (by decide) rfl (fun ls hl => ?_)
            refine lv_goto (tgt := 14) hx hb dX2_goTo_65 (by decide) ?_
            have hs : o (a + 1) = σ.1 10 j := by rw [ho] at hjE ⊢; exact zOrb_succ hjE hj
            rw [← hs] at hl
            exact ih (a + 1) _ _ _ ls (by omega) (fun b hb4 => by
              by_cases hba : b = a
              · subst hba; exact ⟨by simp [upd], c8⟩
              · exact ⟨by simp [upd, hba]; exact (hpf b (by omega)).1, (hpf b (by omega)).2⟩) (fun x y hx3 hy3 hxy => by
              by_cases h1 : x = a
              · rw [h1]; exact (hb3 y (by omega)).symm
              · by_cases h2 : y = a
                · rw [h2]; exact hb3 x (by omega)
                · exact hne x y (by omega) (by omega) hxy) hI (lv_sub hl [2, 1, 0] rfl)
          | succ mm ih3 =>
            intro a ls ha hb3 hl
            refine lv_iload hx hb dX2_goTo_22 (lv_at hl 3 rfl) ?_
            refine lv_iload_n hx hb dX2_goTo_24 rfl (lv_at hl 1 rfl) ?_
            refine lv_icmp_ge (tgt := 48) hx hb dX2_goTo_25 (by decide) (fun c10 => absurd c10 (nI_ge (by omega) (by omega))) (fun c10 => ?_)
            refine lv_aload_n hx hb dX2_goTo_28 rfl (lv_at hl 0 rfl) ?_
            refine mGet (v := .ref (q 19)) hX hin2 hK hI 19 (by decide) (hts (.fieldLink RX2 46 "GateHallsModel" "path" "[I") (by decide +kernel)) rfl dX2_goTo_29 ?_
            refine lv_iload hx hb dX2_goTo_32 (lv_at hl 3 rfl) ?_
            refine mAld (j := a) hX hK hI 13 rfl rfl (by omega) (by decide) dX2_goTo_34 ?_
            refine lv_iload_n hx hb dX2_goTo_35 rfl (lv_at hl 2 rfl) ?_
            refine lv_icmp_ne (tgt := 42) hx hb dX2_goTo_36 (by decide) (fun c11 => ?_) (fun c11 => ?_)
            · refine lv_iinc (v := nI (a + 1)) (lv' := [(4, .int (nI (a + 1))), (0, .ref h), (2, .int (nI k)), (3, .int (o k))]) hx hb dX2_goTo_42 hl (k := 3) rfl (nI_1 _) (by decide) rfl (fun ls hl => ?_)
              refine lv_goto (tgt := 22) hx hb dX2_goTo_45 (by decide) ?_
              exact ih3 (a + 1) ls (by omega) (fun b hb4 => by
                by_cases hba : b = a
                · rw [hba, ← (hpf a (by omega)).1]; exact c11
                · exact hb3 b (by omega)) (lv_sub hl [1, 2, 3, 0] rfl)
            · refine lv_bipush (v := 8) hx hb dX2_goTo_39 (by decide) ?_
              have hoff : ∀ j, zOrb (σ.1 10) (nI p0) j ≠ -1 := by
                rw [← ho]
                have hpa := (hpf a (by omega)).1
                rw [ho] at hpf hpa ⊢
                exact zOrb_on (a := a) (k := k) (by omega) (by rw [← hpa, c11, ho]) (fun j hj => (hpf j hj).2)
              exact gIret hX hr hlk hI ⟨pf, by rw [zGo_none hoff], by rw [zGo_none hoff]⟩ dX2_goTo_41
        exact loop3 k 0 ls (by omega) (fun b hb4 => absurd hb4 (by omega)) (lv_sub hl [1, 2, 3, 0] rfl)
  rw [show nI p0 = o 0 by rw [ho]; rfl] at hl
  exact loop1 11 0 pf _ _ ls (by omega) (fun j hj => absurd hj (by omega)) (fun a b ha => absurd ha (by omega)) hI (lv_sub hl [2, 1, 0] rfl)
end
section
theorem zDoes_out {σ : gh_S} {x y : Int32} (h : x.toInt < 1 ∨ 7 < x.toInt) : zDoes σ x y = (0, σ) := by
  have hk : ∀ k : Int32, ¬ (k.toInt < 1 ∨ 7 < k.toInt) → ¬ x = k := fun k a e => by subst e; exact a h
  unfold zDoes zDeed
  rw [if_neg (hk 5 (by decide)), if_neg (hk 1 (by decide)), if_neg (hk 2 (by decide)), if_neg (hk 3 (by decide)), if_neg (hk 4 (by decide)), if_neg (hk 6 (by decide)), if_neg (hk 7 (by decide))]
theorem zDoes5 {σ : gh_S} {y : Int32} : zDoes σ 5 y = if (zOn 2 σ y).1 = 0 then (0, zPops (zOn 2 σ y).2 (zW (zOn 2 σ y).2 - zW σ)) else zOn 2 σ y := by
  unfold zDoes
  rw [if_pos rfl]
theorem zDoes_deed {σ : gh_S} {x y : Int32} {i : Nat} (h : ¬ x = 5) (hi : zInner σ = i) : zDoes σ x y = zDeed σ i x y := by
  unfold zDoes
  rw [if_neg h, hi]
def mWalk (σ : gh_S) (p d n : Int32) : Int32 × gh_S := if p < 0 ∨ 9 < p ∨ d < 0 ∨ 7 < d then (-1, σ) else
  let g := zGo (sBegin σ) p
  let r : Int32 × gh_S := if g.1 = 0 then ((zDoes (uS g.2 14 g.1) d n).1, uS (zDoes (uS g.2 14 g.1) d n).2 14 (zDoes (uS g.2 14 g.1) d n).1) else (g.1, uS g.2 14 g.1)
  (if r.1 = 0 then 1 else -10 - r.1, zPops r.2 (zW r.2))
theorem zLeave_S {σ : gh_S} {x : Int32} {k : Nat} (h : k ≠ 12) : (zLeave σ x).2 k = σ.2 k := by
  unfold zLeave
  split
  · rfl
  · rw [uS_ne h]; rfl
theorem zPop_S {σ : gh_S} {k : Nat} (h : k ≠ 12) (h2 : k ≠ 17) : (zPop σ).2 k = σ.2 k := by
  unfold zPop
  rw [zLeave_S h]
  show (uS σ 17 _).2 k = σ.2 k
  rw [uS_ne h2]
theorem zPops_S {k : Nat} (h : k ≠ 12) (h2 : k ≠ 17) : ∀ (j : Nat) (σ : gh_S), (zPops σ j).2 k = σ.2 k
  | 0, _ => rfl
  | j + 1, σ => (zPops_S h h2 j (zPop σ)).trans (zPop_S h h2)
theorem gI_begin {n w : Nat} {σ : gh_S} (hg : gI n w σ) : gI n 0 (sBegin σ) := by
  obtain ⟨a1, a2, a3, a4, a5, a6, a7, a8, a9⟩ := hg
  exact ⟨a1, rfl, ⟨0, by omega, rfl⟩, a4, a5, fun j hj => absurd hj (by omega), a7, by omega, a9⟩
/-- the invariant behind the walks within -/
theorem gI_on {n : Nat} : ∀ (f w : Nat) {σ : gh_S} {m : Int32}, w + 10 * f ≤ 30 → gI n w σ → ∃ w', w ≤ w' ∧ w' ≤ 30 ∧ gI n w' (zOn f σ m).2
  | 0, w, σ, m, h, hg => ⟨w, Nat.le_refl _, by omega, hg⟩
  | f + 1, w, σ, m, h, hg => by
    obtain ⟨w', h1, h2, h3, h4⟩ := gI_go (p := zTen m) (by omega) (zTen_in m) hg
    unfold zOn
    by_cases c1 : (zGo σ (zTen m)).1 = 0
    · rw [if_pos c1]
      by_cases c2 : m / 10 = 0
      · rw [if_pos c2]; exact ⟨w', h1, by omega, h3⟩
      · rw [if_neg c2]
        obtain ⟨w2, g1, g2, g3⟩ := gI_on f w' (m := m / 10) (by omega) h3
        exact ⟨w2, by omega, g2, g3⟩
    · rw [if_neg c1]; exact ⟨w', h1, by omega, h3⟩
theorem gI_rich {n w : Nat} {σ : gh_S} {x : Int64} (hg : gI n w σ) : gI n w (zRich σ x).2 := by
  unfold zRich
  split
  · exact hg
  · split
    · exact gI_uS 11 _ (by decide) (by decide) (by decide) hg
    · exact hg
theorem gI_u9 {n w : Nat} {σ : gh_S} {j : Nat} {v : Int32} (hv : v = -1 ∨ ∃ h : Nat, h < n ∧ v = nI h) (hg : gI n w σ) : gI n w (uA σ 9 j v) := by
  obtain ⟨a1, a2, a3, a4, a5, a6, a7, a8, a9⟩ := hg
  refine ⟨a1, a2, a3, ?_, a5, a6, a7, a8, ?_⟩
  · intro k hk
    rw [uA_ki]
    split
    · exact hv
    · exact a4 k hk
  · intro k' i h3 h8 hi
    rw [uA_k (by omega)]
    exact a9 k' i h3 h8 hi
theorem gI_deed {n w i : Nat} {σ : gh_S} {x y : Int32} (hi : i < n) (hg : gI n w σ) : gI n w (zDeed σ i x y).2 := by
  unfold zDeed
  split
  · exact gI_uH 3 i _ hi (by decide) hg
  · split
    · split
      · exact gI_uH 3 i _ hi (by decide) (gI_rich hg)
      · exact hg
    · split
      · split
        · exact hg
        · exact gI_uH 3 i _ hi (by decide) hg
      · split
        · exact gI_u9 (Or.inl rfl) hg
        · split
          · exact hg
          · split
            · exact gI_rich hg
            · exact hg
theorem zInner_of {n w : Nat} {σ : gh_S} (hw : 0 < w) (hg : gI n w σ) : ∃ i : Nat, i < n ∧ zInner σ = i ∧ σ.1 18 (w - 1) = nI i ∧ σ.2 17 - 1 = nI (w - 1) := by
  obtain ⟨a1, a2, a3, a4, a5, a6, a7, a8, a9⟩ := hg
  obtain ⟨i, hi, hiE⟩ := a6 (w - 1) (by omega)
  have e1 : σ.2 17 - 1 = nI (w - 1) := by rw [a2, show w = (w - 1) + 1 by omega]; exact nI_pred _
  refine ⟨i, hi, ?_, hiE, e1⟩
  unfold zInner
  rw [e1, nI_clamp (by omega), hiE, nI_clamp (by omega)]
theorem gI_does {n w : Nat} {σ : gh_S} {x y : Int32} (hw : 0 < w) (hw10 : w ≤ 10) (hg : gI n w σ) : ∃ w', w ≤ w' ∧ w' ≤ 30 ∧ gI n w' (zDoes σ x y).2 := by
  by_cases c : x = 5
  · subst c
    rw [zDoes5]
    obtain ⟨w', h1, h2, h3⟩ := gI_on 2 w (m := y) (by omega) hg
    split
    · refine ⟨w, Nat.le_refl _, by omega, ?_⟩
      rw [zW_of h3, zW_of hg]
      exact gI_pops (w' - w) (by rw [show w + (w' - w) = w' by omega]; exact h3)
    · exact ⟨w', h1, h2, h3⟩
  · obtain ⟨i, hi, hin, -, -⟩ := zInner_of hw hg
    rw [zDoes_deed c hin]
    exact ⟨w, Nat.le_refl _, by omega, gI_deed hi hg⟩
end
section
set_option maxRecDepth 100000 in
theorem iX2_goesOn_2 : ∀ w ∈ wsX20, w ∈ wsX2_goesOn := by decide +kernel
set_option maxHeartbeats 4000000 in
set_option maxRecDepth 100000 in
theorem c_X2_goesOn (l : Launch) (D : va_G) (cI cH : ClassId) (h : Nat) (q : Nat → Nat) (pf : Nat → Int32) (σ : gh_S) (sz : Nat) (x : Int32) (n w : Nat) (hw20 : w + 20 ≤ 30) (hg : gI n w σ) : gMi l yX2_goesOn wsX2_goesOn ({ frames := 3, cells := 0, slots := 0, locals := 68 }) D (wM h q cI pf σ) (gTy cI cH) sz [.ref h, .int (x)] (fun r u => ∃ pf' : Nat → Int32, r = (zDoes σ 5 x).1 ∧ u = wM h q cI pf' (zDoes σ 5 x).2) := by
  refine gEnter (cc := cX2_goesOn) (maxL := 7) (ret := (some .int)) (QF := fun A => va_Qi _ (gPost D A) A) (by decide) rfl (Nat.le_of_ble_eq_true rfl) ?_
  intro p e s m below meth c A ls hX hr hlk hnm hK hN hA hI hl
  have hx := hX.1
  have hb := hX.2.1
  have hts := hX.2.2.2.2
  have hown : s.vm.findClass RX2 = some m.cls := hX.2.2.2.1
  have hin2 := iX2_goesOn_2
  have hl : lv_has ls 7 [(0, .ref h), (1, .int (x))] := hl
  obtain ⟨hn, hw, ⟨t, ht, htE⟩, hpl, hpar, hrow, hn4, hw30, hz⟩ := id hg
  refine lv_aload_n hx hb dX2_goesOn_0 rfl (lv_at hl 0 rfl) ?_
  refine mGet (v := .int (σ.2 17)) hX hin2 hK hI 17 (by decide) (hts (.fieldLink RX2 68 "GateHallsModel" "within" "I") (by decide +kernel)) rfl dX2_goesOn_1 ?_
  refine gTop (y := nI w) hw ?_
  refine lv_istore_n (lv' := [(2, .int (nI w)), (0, .ref h), (1, .int (x))]) hx hb dX2_goesOn_4 rfl hl (by decide) rfl (fun ls hl => ?_)
  refine lv_iconst (v := 1) hx hb dX2_goesOn_5 (by decide) ?_
  refine lv_istore_n (lv' := [(3, .int (1)), (2, .int (nI w)), (0, .ref h), (1, .int (x))]) hx hb dX2_goesOn_6 rfl hl (by decide) rfl (fun ls hl => ?_)
  refine lv_iload_n hx hb dX2_goesOn_7 rfl (lv_at hl 3 rfl) ?_
  refine lv_istore (lv' := [(4, .int (x)), (3, .int (1)), (2, .int (nI w)), (0, .ref h), (1, .int (x))]) hx hb dX2_goesOn_8 hl (by decide) rfl (fun ls hl => ?_)
  refine lv_iconst (v := 1) hx hb dX2_goesOn_10 (by decide) ?_
  refine lv_istore (lv' := [(5, .int (1)), (4, .int (x)), (3, .int (1)), (2, .int (nI w)), (0, .ref h), (1, .int (x))]) hx hb dX2_goesOn_11 hl (by decide) rfl (fun ls hl => ?_)
  have loop : ∀ (f a w' : Nat) (mm : Int32) (τ : gh_S) (pf : Nat → Int32) (H : Heap) (locs : List Loc) (ls : Array Slot), a + f = 3 → f ≤ 2 → w ≤ w' → w' + 10 * f ≤ 30 → gI n w' τ → zOn f τ mm = zOn 2 σ x → InW D A s.heap (wM h q cI pf τ) H locs → lv_has ls 7 [(0, .ref h), (2, .int (nI w)), (3, .int (nI a)), (4, .int (mm)), (5, .int (1))] → W p l e ({ frames := 3, cells := 0, slots := 0, locals := 68 }) s m ([.ref h, .int (x)] : List Value).toArray below meth c H locs 0 0 (MQ below (va_Qi (fun r u => ∃ pf' : Nat → Int32, r = (zDoes σ 5 x).1 ∧ u = wM h q cI pf' (zDoes σ 5 x).2) (gPost D A) A) ([.ref h, .int (x)] : List Value).toArray s 0 0 A) (F0 m 13 ls []) := by
    intro f
    induction f with
    | zero =>
      intro a w' mm τ pf H locs ls ha hf hww hw30' hgT hE hI hl
      refine lv_iload hx hb dX2_goesOn_13 (lv_at hl 4 rfl) ?_
      refine lv_if_eq (tgt := 69) hx hb dX2_goesOn_15 (by decide) (fun c1 => False.elim (by revert c1; decide)) (fun c1 => ?_)
      refine lv_iload_n hx hb dX2_goesOn_18 rfl (lv_at hl 2 rfl) ?_
      refine lv_iconst (v := 3) hx hb dX2_goesOn_19 (by decide) ?_
      refine lv_icmp_ne (tgt := 25) hx hb dX2_goesOn_20 (by decide) (fun c2 => absurd (show nI a = 3 by rw [show a = 3 by omega]; rfl) c2) (fun c2 => ?_)
      refine lv_iconst (v := 2) hx hb dX2_goesOn_23 (by decide) ?_
      exact gIret hX hr hlk hI ⟨pf, by rw [zDoes5, ← hE, zOn, if_neg (show ¬ (2 : Int32) = 0 by decide)], by rw [zDoes5, ← hE, zOn, if_neg (show ¬ (2 : Int32) = 0 by decide)]⟩ dX2_goesOn_24
    | succ f ih =>
      intro a w' mm τ pf H locs ls ha hf hww hw30' hgT hE hI hl
      refine lv_iload hx hb dX2_goesOn_13 (lv_at hl 4 rfl) ?_
      refine lv_if_eq (tgt := 69) hx hb dX2_goesOn_15 (by decide) (fun c3 => False.elim (by revert c3; decide)) (fun c3 => ?_)
      refine lv_iload_n hx hb dX2_goesOn_18 rfl (lv_at hl 2 rfl) ?_
      refine lv_iconst (v := 3) hx hb dX2_goesOn_19 (by decide) ?_
      refine lv_icmp_ne (tgt := 25) hx hb dX2_goesOn_20 (by decide) (fun c4 => ?_) (fun c4 => absurd c4 (fun z => by have := (nI_eq (a := a) (b := 3) (by omega) (by omega)).mp z; omega))
      refine lv_aload_n hx hb dX2_goesOn_25 rfl (lv_at hl 0 rfl) ?_
      refine lv_iload hx hb dX2_goesOn_26 (lv_at hl 3 rfl) ?_
      refine vp_callSi (W.runS (As := [.int (mm)]) (rest := [.ref h]) hX (c_X2_ten l (mm)) (va_cwS 1 hts gX2_goesOn_X2_ten rfl rfl rfl (by decide +kernel) ⟨Nat.le_of_ble_eq_true rfl, Nat.le_of_ble_eq_true rfl⟩) preEq rfl rfl hl.1 rfl (lv_room (Nat.le_of_ble_eq_true rfl)) dX2_goesOn_28 ⟨Nat.le_of_ble_eq_true rfl, Nat.le_of_ble_eq_true rfl⟩) (fun r5 hr5 => ?_)
      obtain ⟨j, hj, hjE⟩ := zTen_in mm
      refine gTop (y := nI j) (hr5.trans hjE) ?_
      refine gCalli (va_runV (As := [.int (nI j)]) (rest := []) hX (c_X2_goTo l D cI cH h q pf τ H.size j n w' hj (by omega) hgT) (cwV 1 hts gX2_goesOn_X2_goTo rfl rfl rfl (by decide +kernel) ⟨Nat.le_of_ble_eq_true rfl, Nat.le_of_ble_eq_true rfl⟩) ⟨gPre_blind, gRecv hI hK (ci := 2) (q0 := 0) rfl rfl, gPre_ok hI hK hN⟩ rfl rfl hl.1 rfl (lv_room (Nat.le_of_ble_eq_true rfl)) dX2_goesOn_31 ⟨Nat.zero_le _, Nat.zero_le _⟩) hI hA (fun r6 ur6 H locs hr6 hI => ?_)
      obtain ⟨pf', hr6, rfl⟩ := hr6
      obtain ⟨w2, hw21, hw22, hg2, -⟩ := gI_go (n := n) (w := w') (p := nI j) (by omega) ⟨j, hj, rfl⟩ hgT
      rw [← hjE] at hr6 hg2 hI
      refine lv_istore (lv' := [(6, .int (r6)), (0, .ref h), (2, .int (nI w)), (3, .int (nI a)), (4, .int (mm)), (5, .int (1))]) hx hb dX2_goesOn_34 hl (by decide) rfl (fun ls hl => ?_)
      refine lv_iload hx hb dX2_goesOn_36 (lv_at hl 0 rfl) ?_
      refine lv_if_eq (tgt := 44) hx hb dX2_goesOn_38 (by decide) (fun c7 => ?_) (fun c7 => ?_)
      · refine lv_iinc (v := nI (a + 1)) (lv' := [(3, .int (nI (a + 1))), (6, .int (r6)), (0, .ref h), (2, .int (nI w)), (4, .int (mm)), (5, .int (1))]) hx hb dX2_goesOn_44 hl (k := 3) rfl (nI_1 _) (by decide) rfl (fun ls hl => ?_)
        refine lv_iload hx hb dX2_goesOn_47 (lv_at hl 4 rfl) ?_
        refine lv_bipush (v := 10) hx hb dX2_goesOn_49 (by decide) ?_
        refine lv_idiv hx hb dX2_goesOn_51 (by decide) ?_
        refine lv_istore (lv' := [(4, .int ((mm) / (10))), (3, .int (nI (a + 1))), (6, .int (r6)), (0, .ref h), (2, .int (nI w)), (5, .int (1))]) hx hb dX2_goesOn_52 hl (by decide) rfl (fun ls hl => ?_)
        refine lv_iload hx hb dX2_goesOn_54 (lv_at hl 0 rfl) ?_
        refine lv_if_eq (tgt := 63) hx hb dX2_goesOn_56 (by decide) (fun c8 => ?_) (fun c8 => ?_)
        · refine lv_iconst (v := 0) hx hb dX2_goesOn_63 (by decide) ?_
          refine lv_istore (lv' := [(5, .int (0)), (4, .int ((mm) / (10))), (3, .int (nI (a + 1))), (6, .int (r6)), (0, .ref h), (2, .int (nI w))]) hx hb dX2_goesOn_64 hl (by decide) rfl (fun ls hl => ?_)
          refine lv_goto (tgt := 13) hx hb dX2_goesOn_66 (by decide) ?_
          refine lv_iload hx hb dX2_goesOn_13 (lv_at hl 0 rfl) ?_
          refine lv_if_eq (tgt := 69) hx hb dX2_goesOn_15 (by decide) (fun c9 => ?_) (fun c9 => False.elim (by revert c9; decide))
          refine lv_aload_n hx hb dX2_goesOn_69 rfl (lv_at hl 4 rfl) ?_
          refine lv_iload_n hx hb dX2_goesOn_70 rfl (lv_at hl 5 rfl) ?_
          refine gCallv (va_runV (As := [.int (nI w)]) (rest := []) hX (c_X2_leaveTo l D cI cH h q pf' (zGo τ (zTen mm)).2 H.size w n w2 (by omega) hg2) (cwV 1 hts gX2_goesOn_X2_leaveTo rfl rfl rfl (by decide +kernel) ⟨Nat.le_of_ble_eq_true rfl, Nat.le_of_ble_eq_true rfl⟩) ⟨gPre_blind, gRecv hI hK (ci := 2) (q0 := 0) rfl rfl, gPre_ok hI hK hN⟩ rfl rfl hl.1 rfl (lv_room (Nat.le_of_ble_eq_true rfl)) dX2_goesOn_71 ⟨Nat.zero_le _, Nat.zero_le _⟩) hI hA (fun ur10 H locs hr10 hI => ?_)
          subst hr10
          refine lv_iconst (v := 0) hx hb dX2_goesOn_74 (by decide) ?_
          exact gIret hX hr hlk hI ⟨pf', by rw [zDoes5, ← hE, zOn, if_pos (c := (zGo τ (zTen mm)).1 = 0) (by rw [← hr6]; exact c7), if_pos c8, if_pos (by rw [← hr6]; exact c7), zW_of hg2, zW_of hg], by rw [zDoes5, ← hE, zOn, if_pos (c := (zGo τ (zTen mm)).1 = 0) (by rw [← hr6]; exact c7), if_pos c8, if_pos (by rw [← hr6]; exact c7), zW_of hg2, zW_of hg]⟩ dX2_goesOn_75
        · refine lv_iconst (v := 1) hx hb dX2_goesOn_59 (by decide) ?_
          refine lv_goto (tgt := 64) hx hb dX2_goesOn_60 (by decide) ?_
          refine lv_istore (lv' := [(5, .int (1)), (4, .int ((mm) / (10))), (3, .int (nI (a + 1))), (6, .int (r6)), (0, .ref h), (2, .int (nI w))]) hx hb dX2_goesOn_64 hl (by decide) rfl (fun ls hl => ?_)
          refine lv_goto (tgt := 13) hx hb dX2_goesOn_66 (by decide) ?_
          exact ih (a + 1) w2 _ _ pf' _ _ ls (by omega) (by omega) (by omega) (by omega) hg2 (by rw [← hE, zOn, if_pos (c := (zGo τ (zTen mm)).1 = 0) (by rw [← hr6]; exact c7), if_neg c8]) hI (lv_sub hl [4, 5, 2, 1, 0] rfl)
      · refine lv_iload hx hb dX2_goesOn_41 (lv_at hl 0 rfl) ?_
        exact gIret hX hr hlk hI ⟨pf', by rw [zDoes5, ← hE, zOn, if_neg (c := (zGo τ (zTen mm)).1 = 0) (by rw [← hr6]; exact c7), if_neg (by rw [← hr6]; exact c7)]; exact hr6, by rw [zDoes5, ← hE, zOn, if_neg (c := (zGo τ (zTen mm)).1 = 0) (by rw [← hr6]; exact c7), if_neg (by rw [← hr6]; exact c7)]⟩ dX2_goesOn_43
  exact loop 2 1 w x σ pf _ _ ls (by omega) (by omega) (Nat.le_refl _) (by omega) hg rfl hI (lv_sub hl [4, 3, 2, 1, 0] rfl)
set_option maxRecDepth 100000 in
theorem iX2_does_2 : ∀ w ∈ wsX20, w ∈ wsX2_does := by decide +kernel
set_option maxHeartbeats 4000000 in
set_option maxRecDepth 100000 in
theorem c_X2_does (l : Launch) (D : va_G) (cI cH : ClassId) (h : Nat) (q : Nat → Nat) (pf : Nat → Int32) (σ : gh_S) (sz : Nat) (x y : Int32) (n w : Nat) (hw1 : 0 < w) (hw10 : w ≤ 10) (hg : gI n w σ) : gMi l yX2_does wsX2_does ({ frames := 4, cells := 0, slots := 0, locals := 94 }) D (wM h q cI pf σ) (gTy cI cH) sz [.ref h, .int (x), .int (y)] (fun r u => ∃ pf' : Nat → Int32, r = (zDoes σ x y).1 ∧ u = wM h q cI pf' (zDoes σ x y).2) := by
  refine gEnter (cc := cX2_does) (maxL := 4) (ret := (some .int)) (QF := fun A => va_Qi _ (gPost D A) A) (by decide) rfl (Nat.le_of_ble_eq_true rfl) ?_
  intro p e s m below meth c A ls hX hr hlk hnm hK hN hA hI hl
  have hx := hX.1
  have hb := hX.2.1
  have hts := hX.2.2.2.2
  have hown : s.vm.findClass RX2 = some m.cls := hX.2.2.2.1
  have hin2 := iX2_does_2
  have hl : lv_has ls 4 [(0, .ref h), (1, .int (x)), (2, .int (y))] := hl
  obtain ⟨hn, hw, ⟨t, ht, htE⟩, hpl, hpar, hrow, hn4, hw30, hz⟩ := id hg
  obtain ⟨i, hi, hIn, hiE, e1⟩ := zInner_of hw1 hg
  refine lv_aload_n hx hb dX2_does_0 rfl (lv_at hl 0 rfl) ?_
  refine mGet (v := .ref (q 18)) hX hin2 hK hI 18 (by decide) (hts (.fieldLink RX2 43 "GateHallsModel" "row" "[I") (by decide +kernel)) rfl dX2_does_1 ?_
  refine lv_aload_n hx hb dX2_does_4 rfl (lv_at hl 0 rfl) ?_
  refine mGet (v := .int (σ.2 17)) hX hin2 hK hI 17 (by decide) (hts (.fieldLink RX2 68 "GateHallsModel" "within" "I") (by decide +kernel)) rfl dX2_does_5 ?_
  refine lv_iconst (v := 1) hx hb dX2_does_8 (by decide) ?_
  refine lv_isub hx hb dX2_does_9 ?_
  refine mAld (j := w - 1) hX hK hI 12 rfl e1 (by omega) (by decide) dX2_does_10 ?_
  refine lv_istore_n (lv' := [(3, .int (σ.1 18 (w - 1))), (0, .ref h), (1, .int (x)), (2, .int (y))]) hx hb dX2_does_11 rfl hl (by decide) rfl (fun ls hl => ?_)
  refine lv_iload_n hx hb dX2_does_12 rfl (lv_at hl 2 rfl) ?_
  rcases g_sw17 x with h1 | rfl | rfl | rfl | rfl | rfl | rfl | rfl
  · refine lv_tableOut (tgt := 156) hx hb dX2_does_13 h1 (by decide) ?_
    refine lv_iconst (v := 0) hx hb dX2_does_156 (by decide) ?_
    exact gIret hX hr hlk hI ⟨pf, by rw [zDoes_out h1], by rw [zDoes_out h1]⟩ dX2_does_157
  · refine lv_tableIn (tgt := 56) (off := 43) hx hb dX2_does_13 (by decide) (by decide) (by decide) (by decide) ?_
    refine lv_aload_n hx hb dX2_does_56 rfl (lv_at hl 1 rfl) ?_
    refine mGet (v := .ref (q 3)) hX hin2 hK hI 3 (by decide) (hts (.fieldLink RX2 16 "GateHallsModel" "gifts" "[I") (by decide +kernel)) rfl dX2_does_57 ?_
    refine lv_iload_n hx hb dX2_does_60 rfl (lv_at hl 0 rfl) ?_
    refine lv_aload_n hx hb dX2_does_61 rfl (lv_at hl 1 rfl) ?_
    refine mGet (v := .ref (q 3)) hX hin2 hK hI 3 (by decide) (hts (.fieldLink RX2 16 "GateHallsModel" "gifts" "[I") (by decide +kernel)) rfl dX2_does_62 ?_
    refine lv_iload_n hx hb dX2_does_65 rfl (lv_at hl 0 rfl) ?_
    refine mAld (j := i) hX hK hI 3 rfl hiE (by omega) (by decide) dX2_does_66 ?_
    refine lv_iload_n hx hb dX2_does_67 rfl (lv_at hl 3 rfl) ?_
    refine lv_iadd hx hb dX2_does_68 ?_
    refine mAst (j := i) (pf' := pf) (σ' := (uA σ 3 (i) ((σ.1 3 (i)) + (y)))) hX hK hI 3 rfl hiE (by omega) (by decide) rfl dX2_does_69 (fun H locs hI => ?_)
    refine lv_iconst (v := 0) hx hb dX2_does_70 (by decide) ?_
    exact gIret hX hr hlk hI ⟨pf, by rw [zDoes_deed (by decide) hIn]; rfl, by rw [zDoes_deed (by decide) hIn]; rfl⟩ dX2_does_71
  · refine lv_tableIn (tgt := 72) (off := 59) hx hb dX2_does_13 (by decide) (by decide) (by decide) (by decide) ?_
    refine lv_aload_n hx hb dX2_does_72 rfl (lv_at hl 1 rfl) ?_
    refine lv_aload_n hx hb dX2_does_73 rfl (lv_at hl 1 rfl) ?_
    refine mGet (v := .ref (q 3)) hX hin2 hK hI 3 (by decide) (hts (.fieldLink RX2 16 "GateHallsModel" "gifts" "[I") (by decide +kernel)) rfl dX2_does_74 ?_
    refine lv_iload_n hx hb dX2_does_77 rfl (lv_at hl 0 rfl) ?_
    refine mAld (j := i) hX hK hI 3 rfl hiE (by omega) (by decide) dX2_does_78 ?_
    refine lv_i2l (v := Int32.toInt64 (σ.1 3 (i))) hx hb dX2_does_79 rfl ?_
    refine gCalli (va_runV (As := [.long (Int32.toInt64 (σ.1 3 (i)))]) (rest := []) hX (c_X2_rich l D cI cH h q pf σ _ (Int32.toInt64 (σ.1 3 (i)))) (cwV 1 hts gX2_does_X2_rich rfl rfl rfl (by decide +kernel) ⟨Nat.le_of_ble_eq_true rfl, Nat.le_of_ble_eq_true rfl⟩) ⟨gPre_blind, gRecv hI hK (ci := 2) (q0 := 0) rfl rfl, gPre_ok hI hK hN⟩ rfl rfl hl.1 rfl (lv_room (Nat.le_of_ble_eq_true rfl)) dX2_does_80 ⟨Nat.zero_le _, Nat.zero_le _⟩) hI hA (fun r2 ur2 H locs hr2 hI => ?_)
    obtain ⟨hr2, rfl⟩ := hr2
    refine lv_if_eq (tgt := 89) hx hb dX2_does_83 (by decide) (fun c3 => ?_) (fun c3 => ?_)
    · refine lv_aload_n hx hb dX2_does_89 rfl (lv_at hl 1 rfl) ?_
      refine mGet (v := .ref (q 3)) hX hin2 hK hI 3 (by decide) (hts (.fieldLink RX2 16 "GateHallsModel" "gifts" "[I") (by decide +kernel)) rfl dX2_does_90 ?_
      refine lv_iload_n hx hb dX2_does_93 rfl (lv_at hl 0 rfl) ?_
      refine lv_iconst (v := 0) hx hb dX2_does_94 (by decide) ?_
      refine mAst (j := i) (pf' := pf) (σ' := (uA (zRich σ (Int32.toInt64 (σ.1 3 (i)))).2 3 (i) (0))) hX hK hI 3 rfl hiE (by omega) (by decide) rfl dX2_does_95 (fun H locs hI => ?_)
      refine lv_iconst (v := 0) hx hb dX2_does_96 (by decide) ?_
      exact gIret hX hr hlk hI ⟨pf, by rw [zDoes_deed (by decide) hIn]; unfold zDeed; rw [if_neg (by decide), if_pos rfl, if_pos (show (zRich σ (σ.1 3 i).toInt64).1 = 0 by rw [← hr2]; exact c3)], by rw [zDoes_deed (by decide) hIn]; unfold zDeed; rw [if_neg (by decide), if_pos rfl, if_pos (show (zRich σ (σ.1 3 i).toInt64).1 = 0 by rw [← hr2]; exact c3)]⟩ dX2_does_97
    · refine lv_bipush (v := 22) hx hb dX2_does_86 (by decide) ?_
      exact gIret hX hr hlk hI ⟨pf, by rw [zDoes_deed (by decide) hIn]; unfold zDeed; rw [if_neg (by decide), if_pos rfl, if_neg (show ¬ (zRich σ (σ.1 3 i).toInt64).1 = 0 by rw [← hr2]; exact c3)], by rw [zDoes_deed (by decide) hIn]; unfold zDeed; rw [if_neg (by decide), if_pos rfl, if_neg (show ¬ (zRich σ (σ.1 3 i).toInt64).1 = 0 by rw [← hr2]; exact c3)]; rw [zRich_fail (by rw [← hr2]; exact c3)]⟩ dX2_does_88
  · refine lv_tableIn (tgt := 98) (off := 85) hx hb dX2_does_13 (by decide) (by decide) (by decide) (by decide) ?_
    refine lv_iload_n hx hb dX2_does_98 rfl (lv_at hl 3 rfl) ?_
    refine lv_if_ne (tgt := 105) hx hb dX2_does_99 (by decide) (fun c4 => ?_) (fun c4 => ?_)
    · refine lv_aload_n hx hb dX2_does_105 rfl (lv_at hl 1 rfl) ?_
      refine mGet (v := .ref (q 3)) hX hin2 hK hI 3 (by decide) (hts (.fieldLink RX2 16 "GateHallsModel" "gifts" "[I") (by decide +kernel)) rfl dX2_does_106 ?_
      refine lv_iload_n hx hb dX2_does_109 rfl (lv_at hl 0 rfl) ?_
      refine lv_aload_n hx hb dX2_does_110 rfl (lv_at hl 1 rfl) ?_
      refine mGet (v := .ref (q 3)) hX hin2 hK hI 3 (by decide) (hts (.fieldLink RX2 16 "GateHallsModel" "gifts" "[I") (by decide +kernel)) rfl dX2_does_111 ?_
      refine lv_iload_n hx hb dX2_does_114 rfl (lv_at hl 0 rfl) ?_
      refine mAld (j := i) hX hK hI 3 rfl hiE (by omega) (by decide) dX2_does_115 ?_
      refine lv_iload_n hx hb dX2_does_116 rfl (lv_at hl 3 rfl) ?_
      refine lv_idiv hx hb dX2_does_117 c4 ?_
      refine mAst (j := i) (pf' := pf) (σ' := (uA σ 3 (i) ((σ.1 3 (i)) / (y)))) hX hK hI 3 rfl hiE (by omega) (by decide) rfl dX2_does_118 (fun H locs hI => ?_)
      refine lv_iconst (v := 0) hx hb dX2_does_119 (by decide) ?_
      exact gIret hX hr hlk hI ⟨pf, by rw [zDoes_deed (by decide) hIn]; unfold zDeed; rw [if_neg (by decide), if_neg (by decide), if_pos rfl, if_neg c4], by rw [zDoes_deed (by decide) hIn]; unfold zDeed; rw [if_neg (by decide), if_neg (by decide), if_pos rfl, if_neg c4]⟩ dX2_does_120
    · refine lv_bipush (v := 6) hx hb dX2_does_102 (by decide) ?_
      exact gIret hX hr hlk hI ⟨pf, by rw [zDoes_deed (by decide) hIn]; unfold zDeed; rw [if_neg (by decide), if_neg (by decide), if_pos rfl, if_pos c4], by rw [zDoes_deed (by decide) hIn]; unfold zDeed; rw [if_neg (by decide), if_neg (by decide), if_pos rfl, if_pos c4]⟩ dX2_does_104
  · refine lv_tableIn (tgt := 121) (off := 108) hx hb dX2_does_13 (by decide) (by decide) (by decide) (by decide) ?_
    refine lv_aload_n hx hb dX2_does_121 rfl (lv_at hl 1 rfl) ?_
    refine mGet (v := .ref (q 9)) hX hin2 hK hI 9 (by decide) (hts (.fieldLink RX2 34 "GateHallsModel" "places" "[I") (by decide +kernel)) rfl dX2_does_122 ?_
    refine lv_iload_n hx hb dX2_does_125 rfl (lv_at hl 3 rfl) ?_
    refine vp_callSi (W.runS (As := [.int (y)]) (rest := [.ref (q 9)]) hX (c_X2_ten l (y)) (va_cwS 1 hts gX2_does_X2_ten rfl rfl rfl (by decide +kernel) ⟨Nat.le_of_ble_eq_true rfl, Nat.le_of_ble_eq_true rfl⟩) preEq rfl rfl hl.1 rfl (lv_room (Nat.le_of_ble_eq_true rfl)) dX2_does_126 ⟨Nat.le_of_ble_eq_true rfl, Nat.le_of_ble_eq_true rfl⟩) (fun r5 hr5 => ?_)
    obtain ⟨j, hj, hjE⟩ := zTen_in y
    have hjC : (zTen y).toNatClampNeg = j := by rw [hjE]; exact nI_clamp (by omega)
    refine lv_iconst (v := (-1)) hx hb dX2_does_129 (by decide) ?_
    refine mAst (j := j) (pf' := pf) (σ' := (uA σ 9 (j) ((-1)))) hX hK hI 9 rfl (hr5.trans hjE) (by omega) (by decide) rfl dX2_does_130 (fun H locs hI => ?_)
    refine lv_iconst (v := 0) hx hb dX2_does_131 (by decide) ?_
    exact gIret hX hr hlk hI ⟨pf, by rw [zDoes_deed (by decide) hIn]; unfold zDeed; rw [if_neg (by decide), if_neg (by decide), if_neg (by decide), if_pos rfl], by rw [zDoes_deed (by decide) hIn]; unfold zDeed; rw [if_neg (by decide), if_neg (by decide), if_neg (by decide), if_pos rfl]; rw [hjC]⟩ dX2_does_132
  · refine lv_tableIn (tgt := 133) (off := 120) hx hb dX2_does_13 (by decide) (by decide) (by decide) (by decide) ?_
    refine lv_aload_n hx hb dX2_does_133 rfl (lv_at hl 1 rfl) ?_
    refine lv_iload_n hx hb dX2_does_134 rfl (lv_at hl 3 rfl) ?_
    refine gCalli (va_runV (As := [.int (y)]) (rest := []) hX (c_X2_goesOn l D cI cH h q pf σ _ y n w (by omega) hg) (cwV 1 hts gX2_does_X2_goesOn rfl rfl rfl (by decide +kernel) ⟨Nat.le_of_ble_eq_true rfl, Nat.le_of_ble_eq_true rfl⟩) ⟨gPre_blind, gRecv hI hK (ci := 2) (q0 := 0) rfl rfl, gPre_ok hI hK hN⟩ rfl rfl hl.1 rfl (lv_room (Nat.le_of_ble_eq_true rfl)) dX2_does_135 ⟨Nat.zero_le _, Nat.zero_le _⟩) hI hA (fun r6 ur6 H locs hr6 hI => ?_)
    obtain ⟨pf', hr6, rfl⟩ := hr6
    exact gIret hX hr hlk hI ⟨pf', hr6, rfl⟩ dX2_does_138
  · refine lv_tableIn (tgt := 139) (off := 126) hx hb dX2_does_13 (by decide) (by decide) (by decide) (by decide) ?_
    refine lv_bipush (v := 20) hx hb dX2_does_139 (by decide) ?_
    refine lv_iload_n hx hb dX2_does_141 rfl (lv_at hl 3 rfl) ?_
    refine lv_iconst (v := 3) hx hb dX2_does_142 (by decide) ?_
    refine lv_iand hx hb dX2_does_143 ?_
    refine lv_iadd hx hb dX2_does_144 ?_
    exact gIret hX hr hlk hI ⟨pf, by rw [zDoes_deed (by decide) hIn]; unfold zDeed; rw [if_neg (by decide), if_neg (by decide), if_neg (by decide), if_neg (by decide), if_pos rfl], by rw [zDoes_deed (by decide) hIn]; unfold zDeed; rw [if_neg (by decide), if_neg (by decide), if_neg (by decide), if_neg (by decide), if_pos rfl]⟩ dX2_does_145
  · refine lv_tableIn (tgt := 146) (off := 133) hx hb dX2_does_13 (by decide) (by decide) (by decide) (by decide) ?_
    refine lv_aload_n hx hb dX2_does_146 rfl (lv_at hl 1 rfl) ?_
    refine lv_aload_n hx hb dX2_does_147 rfl (lv_at hl 1 rfl) ?_
    refine mGet (v := .int (σ.2 17)) hX hin2 hK hI 17 (by decide) (hts (.fieldLink RX2 68 "GateHallsModel" "within" "I") (by decide +kernel)) rfl dX2_does_148 ?_
    refine lv_i2l (v := Int32.toInt64 (σ.2 17)) hx hb dX2_does_151 rfl ?_
    refine gCalli (va_runV (As := [.long (Int32.toInt64 (σ.2 17))]) (rest := []) hX (c_X2_rich l D cI cH h q pf σ _ (Int32.toInt64 (σ.2 17))) (cwV 1 hts gX2_does_X2_rich rfl rfl rfl (by decide +kernel) ⟨Nat.le_of_ble_eq_true rfl, Nat.le_of_ble_eq_true rfl⟩) ⟨gPre_blind, gRecv hI hK (ci := 2) (q0 := 0) rfl rfl, gPre_ok hI hK hN⟩ rfl rfl hl.1 rfl (lv_room (Nat.le_of_ble_eq_true rfl)) dX2_does_152 ⟨Nat.zero_le _, Nat.zero_le _⟩) hI hA (fun r7 ur7 H locs hr7 hI => ?_)
    obtain ⟨hr7, rfl⟩ := hr7
    exact gIret hX hr hlk hI ⟨pf, by rw [zDoes_deed (by decide) hIn]; unfold zDeed; rw [if_neg (by decide), if_neg (by decide), if_neg (by decide), if_neg (by decide), if_neg (by decide), if_pos rfl]; exact hr7, by rw [zDoes_deed (by decide) hIn]; unfold zDeed; rw [if_neg (by decide), if_neg (by decide), if_neg (by decide), if_neg (by decide), if_neg (by decide), if_pos rfl]⟩ dX2_does_155
end
section
set_option maxRecDepth 100000 in
theorem iX2_walk_2 : ∀ w ∈ wsX20, w ∈ wsX2_walk := by decide +kernel
set_option maxHeartbeats 4000000 in
set_option maxRecDepth 100000 in
theorem c_X2_walk (l : Launch) (D : va_G) (cI cH : ClassId) (h : Nat) (q : Nat → Nat) (pf : Nat → Int32) (σ : gh_S) (sz : Nat) (x y z : Int32) (n : Nat) (hg : gI n 0 σ) : gMi l yX2_walk wsX2_walk ({ frames := 5, cells := 0, slots := 0, locals := 117 }) D (wM h q cI pf σ) (gTy cI cH) sz [.ref h, .int (x), .int (y), .int (z)] (fun r u => ∃ pf' : Nat → Int32, r = (mWalk σ x y z).1 ∧ u = wM h q cI pf' (mWalk σ x y z).2) := by
  refine gEnter (cc := cX2_walk) (maxL := 4) (ret := (some .int)) (QF := fun A => va_Qi _ (gPost D A) A) (by decide) rfl (Nat.le_of_ble_eq_true rfl) ?_
  intro p e s m below meth c A ls hX hr hlk hnm hK hN hA hI hl
  have hx := hX.1
  have hb := hX.2.1
  have hts := hX.2.2.2.2
  have hown : s.vm.findClass RX2 = some m.cls := hX.2.2.2.1
  have hin2 := iX2_walk_2
  have hl : lv_has ls 4 [(0, .ref h), (1, .int (x)), (2, .int (y)), (3, .int (z))] := hl
  refine lv_iload_n hx hb dX2_walk_0 rfl (lv_at hl 1 rfl) ?_
  refine lv_iconst (v := 0) hx hb dX2_walk_1 (by decide) ?_
  refine lv_bipush (v := 9) hx hb dX2_walk_2 (by decide) ?_
  refine vp_callSi (W.runS (As := [.int (x), .int (0), .int (9)]) (rest := []) hX (c_X2_in l (x) (0) (9)) (va_cwS 3 hts gX2_walk_X2_in rfl rfl rfl (by decide +kernel) ⟨Nat.le_of_ble_eq_true rfl, Nat.le_of_ble_eq_true rfl⟩) preEq rfl rfl hl.1 rfl (lv_room (Nat.le_of_ble_eq_true rfl)) dX2_walk_4 ⟨Nat.le_of_ble_eq_true rfl, Nat.le_of_ble_eq_true rfl⟩) (fun r1 hr1 => ?_)
  rcases hr1 with ⟨rfl, ha_r1, hb_r1⟩ | ⟨rfl, hc_r1⟩
  · refine lv_if_eq (tgt := 20) hx hb dX2_walk_7 (by decide) (fun c2 => False.elim (by revert c2; decide)) (fun c2 => ?_)
    refine lv_iload_n hx hb dX2_walk_10 rfl (lv_at hl 2 rfl) ?_
    refine lv_iconst (v := 0) hx hb dX2_walk_11 (by decide) ?_
    refine lv_bipush (v := 7) hx hb dX2_walk_12 (by decide) ?_
    refine vp_callSi (W.runS (As := [.int (y), .int (0), .int (7)]) (rest := []) hX (c_X2_in l (y) (0) (7)) (va_cwS 3 hts gX2_walk_X2_in rfl rfl rfl (by decide +kernel) ⟨Nat.le_of_ble_eq_true rfl, Nat.le_of_ble_eq_true rfl⟩) preEq rfl rfl hl.1 rfl (lv_room (Nat.le_of_ble_eq_true rfl)) dX2_walk_14 ⟨Nat.le_of_ble_eq_true rfl, Nat.le_of_ble_eq_true rfl⟩) (fun r3 hr3 => ?_)
    rcases hr3 with ⟨rfl, ha_r3, hb_r3⟩ | ⟨rfl, hc_r3⟩
    · refine lv_if_ne (tgt := 22) hx hb dX2_walk_17 (by decide) (fun c4 => ?_) (fun c4 => False.elim (by revert c4; decide))
      refine lv_aload_n hx hb dX2_walk_22 rfl (lv_at hl 0 rfl) ?_
      refine lv_iconst (v := 0) hx hb dX2_walk_23 (by decide) ?_
      refine mPut hX hin2 hK hI 12 (by decide) (hts (.fieldLink RX2 61 "GateHallsModel" "traces" "I") (by decide +kernel)) rfl rfl rfl dX2_walk_24 (fun H locs hI => ?_)
      refine lv_aload_n hx hb dX2_walk_27 rfl (lv_at hl 0 rfl) ?_
      refine lv_iconst (v := 0) hx hb dX2_walk_28 (by decide) ?_
      refine mPut hX hin2 hK hI 16 (by decide) (hts (.fieldLink RX2 71 "GateHallsModel" "deepest" "I") (by decide +kernel)) rfl rfl rfl dX2_walk_29 (fun H locs hI => ?_)
      refine lv_aload_n hx hb dX2_walk_32 rfl (lv_at hl 0 rfl) ?_
      refine lv_iconst (v := 0) hx hb dX2_walk_33 (by decide) ?_
      refine mPut hX hin2 hK hI 17 (by decide) (hts (.fieldLink RX2 68 "GateHallsModel" "within" "I") (by decide +kernel)) rfl rfl rfl dX2_walk_34 (fun H locs hI => ?_)
      obtain ⟨j, hj, hjE, hjC⟩ := g_pl ha_r1 hb_r1
      have hgB := gI_begin hg
      have hI : InW D A s.heap (wM h q cI pf (sBegin σ)) H locs := hI
      refine lv_aload_n hx hb dX2_walk_37 rfl (lv_at hl 0 rfl) ?_
      refine lv_aload_n hx hb dX2_walk_38 rfl (lv_at hl 0 rfl) ?_
      refine lv_iload_n hx hb dX2_walk_39 rfl (lv_at hl 1 rfl) ?_
      refine gTop (y := nI j) hjE ?_
      refine gCalli (va_runV (As := [.int (nI j)]) (rest := [.ref h]) hX (c_X2_goTo l D cI cH h q pf (sBegin σ) H.size j n 0 hj (by omega) hgB) (cwV 1 hts gX2_walk_X2_goTo rfl rfl rfl (by decide +kernel) ⟨Nat.le_of_ble_eq_true rfl, Nat.le_of_ble_eq_true rfl⟩) ⟨gPre_blind, gRecv hI hK (ci := 2) (q0 := 0) rfl rfl, gPre_ok hI hK hN⟩ rfl rfl hl.1 rfl (lv_room (Nat.le_of_ble_eq_true rfl)) dX2_walk_40 ⟨Nat.zero_le _, Nat.zero_le _⟩) hI hA (fun r5 ur5 H locs hr5 hI => ?_)
      obtain ⟨pf', hr5, rfl⟩ := hr5
      obtain ⟨w2, hw21, hw22, hg2, hw23⟩ := gI_go (n := n) (w := 0) (p := nI j) (by omega) ⟨j, hj, rfl⟩ hgB
      rw [← hjE] at hr5 hg2 hw23 hI
      generalize hG : zGo (sBegin σ) x = G at hr5 hg2 hw23 hI
      refine mPut hX hin2 hK hI 14 (by decide) (hts (.fieldLink RX2 102 "GateHallsModel" "failure" "I") (by decide +kernel)) rfl rfl rfl dX2_walk_43 (fun H locs hI => ?_)
      refine lv_aload_n hx hb dX2_walk_46 rfl (lv_at hl 0 rfl) ?_
      refine mGet (v := .int (r5)) hX hin2 hK hI 14 (by decide) (hts (.fieldLink RX2 102 "GateHallsModel" "failure" "I") (by decide +kernel)) rfl dX2_walk_47 ?_
      refine lv_if_ne (tgt := 63) hx hb dX2_walk_50 (by decide) (fun c6 => ?_) (fun c6 => ?_)
      · have hgF := gI_uS 14 r5 (by decide) (by decide) (by decide) hg2
        refine lv_aload_n hx hb dX2_walk_63 rfl (lv_at hl 0 rfl) ?_
        refine lv_iconst (v := 0) hx hb dX2_walk_64 (by decide) ?_
        refine gCallv (va_runV (As := [.int (0)]) (rest := []) hX (c_X2_leaveTo l D cI cH h q pf' (uS G.2 14 (r5)) H.size 0 n w2 (by omega) hgF) (cwV 1 hts gX2_walk_X2_leaveTo rfl rfl rfl (by decide +kernel) ⟨Nat.le_of_ble_eq_true rfl, Nat.le_of_ble_eq_true rfl⟩) ⟨gPre_blind, gRecv hI hK (ci := 2) (q0 := 0) rfl rfl, gPre_ok hI hK hN⟩ rfl rfl hl.1 rfl (lv_room (Nat.le_of_ble_eq_true rfl)) dX2_walk_65 ⟨Nat.zero_le _, Nat.zero_le _⟩) hI hA (fun ur7 H locs hr7 hI => ?_)
        subst hr7
        refine lv_aload_n hx hb dX2_walk_68 rfl (lv_at hl 0 rfl) ?_
        refine mGet (v := .int ((zPops (uS G.2 14 (r5)) (w2 - 0)).2 14)) hX hin2 hK hI 14 (by decide) (hts (.fieldLink RX2 102 "GateHallsModel" "failure" "I") (by decide +kernel)) rfl dX2_walk_69 ?_
        refine gTop (y := r5) (zPops_S (by decide) (by decide) _ _) ?_
        refine lv_if_ne (tgt := 79) hx hb dX2_walk_72 (by decide) (fun c8 => ?_) (fun c8 => ?_)
        · refine lv_bipush (v := (-10)) hx hb dX2_walk_79 (by decide) ?_
          refine lv_aload_n hx hb dX2_walk_81 rfl (lv_at hl 0 rfl) ?_
          refine mGet (v := .int ((zPops (uS G.2 14 (r5)) (w2 - 0)).2 14)) hX hin2 hK hI 14 (by decide) (hts (.fieldLink RX2 102 "GateHallsModel" "failure" "I") (by decide +kernel)) rfl dX2_walk_82 ?_
          refine gTop (y := r5) (zPops_S (by decide) (by decide) _ _) ?_
          refine lv_isub hx hb dX2_walk_85 ?_
          exact gIret hX hr hlk hI ⟨_, by rw [mWalk, if_neg (fun h => h.elim ha_r1 (fun h => h.elim hb_r1 (fun h => h.elim ha_r3 hb_r3))), hG]; dsimp only; rw [if_neg (show ¬ G.1 = 0 by rw [← hr5]; exact c6), ← hr5]; (try dsimp only); rw [if_neg c8], by rw [mWalk, if_neg (fun h => h.elim ha_r1 (fun h => h.elim hb_r1 (fun h => h.elim ha_r3 hb_r3))), hG]; dsimp only; rw [if_neg (show ¬ G.1 = 0 by rw [← hr5]; exact c6), ← hr5]; (try dsimp only); rw [zW_of hgF]; rfl⟩ dX2_walk_86
        · refine lv_iconst (v := 1) hx hb dX2_walk_75 (by decide) ?_
          refine lv_goto (tgt := 86) hx hb dX2_walk_76 (by decide) ?_
          exact gIret hX hr hlk hI ⟨_, by rw [mWalk, if_neg (fun h => h.elim ha_r1 (fun h => h.elim hb_r1 (fun h => h.elim ha_r3 hb_r3))), hG]; dsimp only; rw [if_neg (show ¬ G.1 = 0 by rw [← hr5]; exact c6), ← hr5]; (try dsimp only); rw [if_pos c8], by rw [mWalk, if_neg (fun h => h.elim ha_r1 (fun h => h.elim hb_r1 (fun h => h.elim ha_r3 hb_r3))), hG]; dsimp only; rw [if_neg (show ¬ G.1 = 0 by rw [← hr5]; exact c6), ← hr5]; (try dsimp only); rw [zW_of hgF]; rfl⟩ dX2_walk_86
      · refine lv_aload_n hx hb dX2_walk_53 rfl (lv_at hl 0 rfl) ?_
        refine lv_aload_n hx hb dX2_walk_54 rfl (lv_at hl 0 rfl) ?_
        refine lv_iload_n hx hb dX2_walk_55 rfl (lv_at hl 2 rfl) ?_
        refine lv_iload_n hx hb dX2_walk_56 rfl (lv_at hl 3 rfl) ?_
        refine gCalli (va_runV (As := [.int (y), .int (z)]) (rest := [.ref h]) hX (c_X2_does l D cI cH h q pf' (uS G.2 14 (r5)) H.size y z n w2 (hw23 (by rw [← hr5]; exact c6)) (by omega) (gI_uS 14 r5 (by decide) (by decide) (by decide) hg2)) (cwV 2 hts gX2_walk_X2_does rfl rfl rfl (by decide +kernel) ⟨Nat.le_of_ble_eq_true rfl, Nat.le_of_ble_eq_true rfl⟩) ⟨gPre_blind, gRecv hI hK (ci := 2) (q0 := 0) rfl rfl, gPre_ok hI hK hN⟩ rfl rfl hl.1 rfl (lv_room (Nat.le_of_ble_eq_true rfl)) dX2_walk_57 ⟨Nat.zero_le _, Nat.zero_le _⟩) hI hA (fun r9 ur9 H locs hr9 hI => ?_)
        obtain ⟨pf'', hr9, rfl⟩ := hr9
        obtain ⟨w3, hw31, hw32, hg3⟩ := gI_does (x := y) (y := z) (hw23 (by rw [← hr5]; exact c6)) (by omega) (gI_uS 14 r5 (by decide) (by decide) (by decide) hg2)
        refine mPut hX hin2 hK hI 14 (by decide) (hts (.fieldLink RX2 102 "GateHallsModel" "failure" "I") (by decide +kernel)) rfl rfl rfl dX2_walk_60 (fun H locs hI => ?_)
        have hgF := gI_uS 14 r9 (by decide) (by decide) (by decide) hg3
        refine lv_aload_n hx hb dX2_walk_63 rfl (lv_at hl 0 rfl) ?_
        refine lv_iconst (v := 0) hx hb dX2_walk_64 (by decide) ?_
        refine gCallv (va_runV (As := [.int (0)]) (rest := []) hX (c_X2_leaveTo l D cI cH h q pf'' (uS (zDoes (uS G.2 14 (r5)) y z).2 14 (r9)) H.size 0 n w3 (by omega) hgF) (cwV 1 hts gX2_walk_X2_leaveTo rfl rfl rfl (by decide +kernel) ⟨Nat.le_of_ble_eq_true rfl, Nat.le_of_ble_eq_true rfl⟩) ⟨gPre_blind, gRecv hI hK (ci := 2) (q0 := 0) rfl rfl, gPre_ok hI hK hN⟩ rfl rfl hl.1 rfl (lv_room (Nat.le_of_ble_eq_true rfl)) dX2_walk_65 ⟨Nat.zero_le _, Nat.zero_le _⟩) hI hA (fun ur10 H locs hr10 hI => ?_)
        subst hr10
        refine lv_aload_n hx hb dX2_walk_68 rfl (lv_at hl 0 rfl) ?_
        refine mGet (v := .int ((zPops (uS (zDoes (uS G.2 14 (r5)) y z).2 14 (r9)) (w3 - 0)).2 14)) hX hin2 hK hI 14 (by decide) (hts (.fieldLink RX2 102 "GateHallsModel" "failure" "I") (by decide +kernel)) rfl dX2_walk_69 ?_
        refine gTop (y := r9) (zPops_S (by decide) (by decide) _ _) ?_
        refine lv_if_ne (tgt := 79) hx hb dX2_walk_72 (by decide) (fun c11 => ?_) (fun c11 => ?_)
        · refine lv_bipush (v := (-10)) hx hb dX2_walk_79 (by decide) ?_
          refine lv_aload_n hx hb dX2_walk_81 rfl (lv_at hl 0 rfl) ?_
          refine mGet (v := .int ((zPops (uS (zDoes (uS G.2 14 (r5)) y z).2 14 (r9)) (w3 - 0)).2 14)) hX hin2 hK hI 14 (by decide) (hts (.fieldLink RX2 102 "GateHallsModel" "failure" "I") (by decide +kernel)) rfl dX2_walk_82 ?_
          refine gTop (y := r9) (zPops_S (by decide) (by decide) _ _) ?_
          refine lv_isub hx hb dX2_walk_85 ?_
          exact gIret hX hr hlk hI ⟨_, by rw [mWalk, if_neg (fun h => h.elim ha_r1 (fun h => h.elim hb_r1 (fun h => h.elim ha_r3 hb_r3))), hG]; dsimp only; rw [if_pos (show G.1 = 0 by rw [← hr5]; exact c6), ← hr5, ← hr9]; (try dsimp only); rw [if_neg c11], by rw [mWalk, if_neg (fun h => h.elim ha_r1 (fun h => h.elim hb_r1 (fun h => h.elim ha_r3 hb_r3))), hG]; dsimp only; rw [if_pos (show G.1 = 0 by rw [← hr5]; exact c6), ← hr5, ← hr9]; (try dsimp only); rw [zW_of hgF]; rfl⟩ dX2_walk_86
        · refine lv_iconst (v := 1) hx hb dX2_walk_75 (by decide) ?_
          refine lv_goto (tgt := 86) hx hb dX2_walk_76 (by decide) ?_
          exact gIret hX hr hlk hI ⟨_, by rw [mWalk, if_neg (fun h => h.elim ha_r1 (fun h => h.elim hb_r1 (fun h => h.elim ha_r3 hb_r3))), hG]; dsimp only; rw [if_pos (show G.1 = 0 by rw [← hr5]; exact c6), ← hr5, ← hr9]; (try dsimp only); rw [if_pos c11], by rw [mWalk, if_neg (fun h => h.elim ha_r1 (fun h => h.elim hb_r1 (fun h => h.elim ha_r3 hb_r3))), hG]; dsimp only; rw [if_pos (show G.1 = 0 by rw [← hr5]; exact c6), ← hr5, ← hr9]; (try dsimp only); rw [zW_of hgF]; rfl⟩ dX2_walk_86
    · refine lv_if_ne (tgt := 22) hx hb dX2_walk_17 (by decide) (fun c12 => False.elim (by revert c12; decide)) (fun c12 => ?_)
      refine lv_iconst (v := (-1)) hx hb dX2_walk_20 (by decide) ?_
      exact gIret hX hr hlk hI ⟨pf, by rw [mWalk, if_pos (Or.inr (Or.inr hc_r3))], by rw [mWalk, if_pos (Or.inr (Or.inr hc_r3))]⟩ dX2_walk_21
  · refine lv_if_eq (tgt := 20) hx hb dX2_walk_7 (by decide) (fun c13 => ?_) (fun c13 => False.elim (by revert c13; decide))
    refine lv_iconst (v := (-1)) hx hb dX2_walk_20 (by decide) ?_
    exact gIret hX hr hlk hI ⟨pf, by rw [mWalk, if_pos (hc_r1.elim Or.inl (fun h => Or.inr (Or.inl h)))], by rw [mWalk, if_pos (hc_r1.elim Or.inl (fun h => Or.inr (Or.inl h)))]⟩ dX2_walk_21
theorem gI_ask {n w i : Nat} {σ : gh_S} (hi : i < n) (hg : gI n w σ) : gI n w (uA σ 5 i (σ.1 5 i + 1)) := gI_uH 5 i _ hi (by decide) hg
theorem nI_m1 {b : Nat} (h : b < 10) : ¬ nI b = -1 := by
  have hx : ∀ j, j < 10 → ¬ nI j = -1 := by decide
  exact hx b h
set_option maxRecDepth 100000 in
theorem iX2_seek_2 : ∀ w ∈ wsX20, w ∈ wsX2_seek := by decide +kernel
set_option maxHeartbeats 4000000 in
set_option maxRecDepth 100000 in
theorem c_X2_seek (l : Launch) (D : va_G) (cI cH : ClassId) (h : Nat) (q : Nat → Nat) (pf : Nat → Int32) (σ : gh_S) (sz : Nat) (sum : Int64) (n w : Nat) (hg : gI n w σ) : gMi l yX2_seek wsX2_seek ({ frames := 0, cells := 0, slots := 0, locals := 0 }) D (wM h q cI pf σ) (gTy cI cH) sz [.ref h, .long (sum)] (fun r u => r = (sSeek σ sum).1 ∧ u = wM h q cI pf (sSeek σ sum).2) := by
  refine gEnter (cc := cX2_seek) (maxL := 8) (ret := (some .int)) (QF := fun A => va_Qi _ (gPost D A) A) (by decide) rfl (Nat.le_of_ble_eq_true rfl) ?_
  intro p e s m below meth c A ls hX hr hlk hnm hK hN hA hI hl
  have hx := hX.1
  have hb := hX.2.1
  have hts := hX.2.2.2.2
  have hown : s.vm.findClass RX2 = some m.cls := hX.2.2.2.1
  have hin2 := iX2_seek_2
  have hl : lv_has ls 8 [(0, .ref h), (1, .long (sum))] := hl
  refine lv_iconst (v := 0) hx hb dX2_seek_0 (by decide) ?_
  refine lv_istore_n (lv' := [(3, .int (0)), (0, .ref h), (1, .long (sum))]) hx hb dX2_seek_1 rfl hl (by decide) rfl (fun ls hl => ?_)
  have loopA : ∀ (f a : Nat) (τ : gh_S) (H : Heap) (locs : List Loc) (ls : Array Slot), a + f = 10 → gI n w τ → zSA sum f a τ = sSeek σ sum → InW D A s.heap (wM h q cI pf τ) H locs → lv_has ls 8 [(0, .ref h), (1, .long (sum)), (3, .int (nI a))] → W p l e ({ frames := 0, cells := 0, slots := 0, locals := 0 }) s m ([.ref h, .long (sum)] : List Value).toArray below meth c H locs 0 0 (MQ below (va_Qi (fun r u => r = (sSeek σ sum).1 ∧ u = wM h q cI pf (sSeek σ sum).2) (gPost D A) A) ([.ref h, .long (sum)] : List Value).toArray s 0 0 A) (F0 m 2 ls []) := by
    intro f
    induction f with
    | zero =>
      intro a τ H locs ls ha hgT hE hI hl
      refine lv_iload_n hx hb dX2_seek_2 rfl (lv_at hl 2 rfl) ?_
      refine lv_bipush (v := 10) hx hb dX2_seek_3 (by decide) ?_
      refine lv_icmp_ge (tgt := 144) hx hb dX2_seek_5 (by decide) (fun c1 => ?_) (fun c1 => absurd (g_le (B := 10) rfl (by omega) (by omega)) c1)
      refine lv_iconst (v := (-1)) hx hb dX2_seek_144 (by decide) ?_
      exact gIret hX hr hlk hI ⟨by rw [← hE]; rfl, by rw [← hE]; rfl⟩ dX2_seek_145
    | succ f ih =>
      intro a τ H locs ls ha hgT hE hI hl
      have hTn := hgT.2.2.2.2.2.2.1
      refine lv_iload_n hx hb dX2_seek_2 rfl (lv_at hl 2 rfl) ?_
      refine lv_bipush (v := 10) hx hb dX2_seek_3 (by decide) ?_
      refine lv_icmp_ge (tgt := 144) hx hb dX2_seek_5 (by decide) (fun c2 => absurd c2 (g_nle (B := 10) rfl (by omega) (by decide))) (fun c2 => ?_)
      refine lv_aload_n hx hb dX2_seek_8 rfl (lv_at hl 0 rfl) ?_
      refine mGet (v := .ref (q 9)) hX hin2 hK hI 9 (by decide) (hts (.fieldLink RX2 34 "GateHallsModel" "places" "[I") (by decide +kernel)) rfl dX2_seek_9 ?_
      refine lv_iload_n hx hb dX2_seek_12 rfl (lv_at hl 2 rfl) ?_
      refine mAld (j := a) hX hK hI 9 rfl rfl (by omega) (by decide) dX2_seek_13 ?_
      refine lv_istore (lv' := [(4, .int (τ.1 9 (a))), (0, .ref h), (1, .long (sum)), (3, .int (nI a))]) hx hb dX2_seek_14 hl (by decide) rfl (fun ls hl => ?_)
      refine lv_iload hx hb dX2_seek_16 (lv_at hl 0 rfl) ?_
      refine lv_iconst (v := (-1)) hx hb dX2_seek_18 (by decide) ?_
      refine lv_icmp_ne (tgt := 25) hx hb dX2_seek_19 (by decide) (fun c3 => ?_) (fun c3 => ?_)
      · obtain ⟨i, hi, hiE⟩ := (hgT.2.2.2.1 a (by omega)).resolve_left c3
        have hiC : (τ.1 9 a).toNatClampNeg = i := by rw [hiE]; exact nI_clamp (by omega)
        rw [hiE] at hl
        refine lv_aload_n hx hb dX2_seek_25 rfl (lv_at hl 1 rfl) ?_
        refine mGet (v := .ref (q 5)) hX hin2 hK hI 5 (by decide) (hts (.fieldLink RX2 22 "GateHallsModel" "asks" "[I") (by decide +kernel)) rfl dX2_seek_26 ?_
        refine lv_iload hx hb dX2_seek_29 (lv_at hl 0 rfl) ?_
        refine lv_dup2_11 hx hb dX2_seek_31 rfl rfl ?_
        refine mAld (j := i) hX hK hI 5 rfl rfl (by omega) (by decide) dX2_seek_32 ?_
        refine lv_iconst (v := 1) hx hb dX2_seek_33 (by decide) ?_
        refine lv_iadd hx hb dX2_seek_34 ?_
        refine mAst (j := i) (pf' := pf) (σ' := (uA τ 5 (i) ((τ.1 5 (i)) + (1)))) hX hK hI 5 rfl rfl (by omega) (by decide) rfl dX2_seek_35 (fun H locs hI => ?_)
        refine lv_iconst (v := 1) hx hb dX2_seek_36 (by decide) ?_
        refine lv_istore (lv' := [(5, .int (1)), (4, .int (nI i)), (0, .ref h), (1, .long (sum)), (3, .int (nI a))]) hx hb dX2_seek_37 hl (by decide) rfl (fun ls hl => ?_)
        refine lv_iload_n hx hb dX2_seek_39 rfl (lv_at hl 4 rfl) ?_
        refine lv_iconst (v := 1) hx hb dX2_seek_40 (by decide) ?_
        refine lv_iadd hx hb dX2_seek_41 ?_
        refine gTop (y := nI (a + 1)) (nI_1 a) ?_
        refine lv_istore (lv' := [(6, .int (nI (a + 1))), (5, .int (1)), (4, .int (nI i)), (0, .ref h), (1, .long (sum)), (3, .int (nI a))]) hx hb dX2_seek_42 hl (by decide) rfl (fun ls hl => ?_)
        have hE2 : zSA sum (f + 1) a τ = (if (zSB i sum (9 - a) (a + 1) (uA τ 5 (i) (τ.1 5 (i) + 1))).1 = -1 then zSA sum f (a + 1) (zSB i sum (9 - a) (a + 1) (uA τ 5 (i) (τ.1 5 (i) + 1))).2 else (10 * nI a + (zSB i sum (9 - a) (a + 1) (uA τ 5 (i) (τ.1 5 (i) + 1))).1, (zSB i sum (9 - a) (a + 1) (uA τ 5 (i) (τ.1 5 (i) + 1))).2)) := by
          rw [zSA, if_neg c3]; dsimp only; rw [hiC]
        rw [hE] at hE2
        generalize hGB : zSB i sum (9 - a) (a + 1) (uA τ 5 (i) (τ.1 5 (i) + 1)) = GB at hE2
        have cont : ∀ (τ2 : gh_S) (H : Heap) (locs : List Loc) (ls : Array Slot), gI n w τ2 → GB = (-1, τ2) → InW D A s.heap (wM h q cI pf τ2) H locs → lv_has ls 8 [(0, .ref h), (1, .long (sum)), (3, .int (nI a))] → W p l e ({ frames := 0, cells := 0, slots := 0, locals := 0 }) s m ([.ref h, .long (sum)] : List Value).toArray below meth c H locs 0 0 (MQ below (va_Qi (fun r u => r = (sSeek σ sum).1 ∧ u = wM h q cI pf (sSeek σ sum).2) (gPost D A) A) ([.ref h, .long (sum)] : List Value).toArray s 0 0 A) (F0 m 138 ls []) := by
          intro τ2 H locs ls hg2 hB hI hl
          refine lv_iinc (v := nI (a + 1)) (lv' := [(3, .int (nI (a + 1))), (0, .ref h), (1, .long (sum))]) hx hb dX2_seek_138 hl (k := 2) rfl (nI_1 _) (by decide) rfl (fun ls hl => ?_)
          refine lv_goto (tgt := 2) hx hb dX2_seek_141 (by decide) ?_
          exact ih (a + 1) τ2 _ _ ls (by omega) hg2 (by rw [hE2, hB]; rfl) hI (lv_sub hl [1, 2, 0] rfl)
        have loopB : ∀ (k b : Nat) (τ2 : gh_S) (H : Heap) (locs : List Loc) (ls : Array Slot), b + k = 10 → gI n w τ2 → zSB i sum k b τ2 = GB → InW D A s.heap (wM h q cI pf τ2) H locs → lv_has ls 8 [(0, .ref h), (1, .long (sum)), (3, .int (nI a)), (4, .int (nI i)), (5, .int (1)), (6, .int (nI b))] → W p l e ({ frames := 0, cells := 0, slots := 0, locals := 0 }) s m ([.ref h, .long (sum)] : List Value).toArray below meth c H locs 0 0 (MQ below (va_Qi (fun r u => r = (sSeek σ sum).1 ∧ u = wM h q cI pf (sSeek σ sum).2) (gPost D A) A) ([.ref h, .long (sum)] : List Value).toArray s 0 0 A) (F0 m 44 ls []) := by
          intro k
          induction k with
          | zero =>
            intro b τ2 H locs ls hb2 hg2 hB hI hl
            refine lv_iload hx hb dX2_seek_44 (lv_at hl 5 rfl) ?_
            refine lv_bipush (v := 10) hx hb dX2_seek_46 (by decide) ?_
            refine lv_icmp_ge (tgt := 138) hx hb dX2_seek_48 (by decide) (fun c4 => ?_) (fun c4 => absurd (g_le (B := 10) rfl (by omega) (by omega)) c4)
            exact cont τ2 _ _ ls hg2 (by rw [← hB]; rfl) hI (lv_sub hl [0, 1, 2] rfl)
          | succ k ihb =>
            intro b τ2 H locs ls hb2 hg2 hB hI hl
            refine lv_iload hx hb dX2_seek_44 (lv_at hl 5 rfl) ?_
            refine lv_bipush (v := 10) hx hb dX2_seek_46 (by decide) ?_
            refine lv_icmp_ge (tgt := 138) hx hb dX2_seek_48 (by decide) (fun c5 => absurd c5 (g_nle (B := 10) rfl (by omega) (by decide))) (fun c5 => ?_)
            refine lv_iload hx hb dX2_seek_51 (lv_at hl 4 rfl) ?_
            refine lv_if_eq (tgt := 138) hx hb dX2_seek_53 (by decide) (fun c6 => False.elim (by revert c6; decide)) (fun c6 => ?_)
            refine lv_aload_n hx hb dX2_seek_56 rfl (lv_at hl 0 rfl) ?_
            refine mGet (v := .ref (q 9)) hX hin2 hK hI 9 (by decide) (hts (.fieldLink RX2 34 "GateHallsModel" "places" "[I") (by decide +kernel)) rfl dX2_seek_57 ?_
            refine lv_iload hx hb dX2_seek_60 (lv_at hl 5 rfl) ?_
            refine mAld (j := b) hX hK hI 9 rfl rfl (by omega) (by decide) dX2_seek_62 ?_
            refine lv_istore (lv' := [(7, .int (τ2.1 9 (b))), (0, .ref h), (1, .long (sum)), (3, .int (nI a)), (4, .int (nI i)), (5, .int (1)), (6, .int (nI b))]) hx hb dX2_seek_63 hl (by decide) rfl (fun ls hl => ?_)
            refine lv_iload hx hb dX2_seek_65 (lv_at hl 0 rfl) ?_
            refine lv_iconst (v := (-1)) hx hb dX2_seek_67 (by decide) ?_
            refine lv_icmp_ne (tgt := 74) hx hb dX2_seek_68 (by decide) (fun c7 => ?_) (fun c7 => ?_)
            · obtain ⟨y, hy, hyE⟩ := (hg2.2.2.2.1 b (by omega)).resolve_left c7
              have hyC : (τ2.1 9 b).toNatClampNeg = y := by rw [hyE]; exact nI_clamp (by omega)
              rw [hyE] at hl
              refine lv_aload_n hx hb dX2_seek_74 rfl (lv_at hl 1 rfl) ?_
              refine mGet (v := .ref (q 5)) hX hin2 hK hI 5 (by decide) (hts (.fieldLink RX2 22 "GateHallsModel" "asks" "[I") (by decide +kernel)) rfl dX2_seek_75 ?_
              refine lv_iload hx hb dX2_seek_78 (lv_at hl 0 rfl) ?_
              refine lv_dup2_11 hx hb dX2_seek_80 rfl rfl ?_
              refine mAld (j := y) hX hK hI 5 rfl rfl (by omega) (by decide) dX2_seek_81 ?_
              refine lv_iconst (v := 1) hx hb dX2_seek_82 (by decide) ?_
              refine lv_iadd hx hb dX2_seek_83 ?_
              refine mAst (j := y) (pf' := pf) (σ' := (uA τ2 5 (y) ((τ2.1 5 (y)) + (1)))) hX hK hI 5 rfl rfl (by omega) (by decide) rfl dX2_seek_84 (fun H locs hI => ?_)
              refine lv_aload_n hx hb dX2_seek_85 rfl (lv_at hl 1 rfl) ?_
              refine mGet (v := .ref (q 3)) hX hin2 hK hI 3 (by decide) (hts (.fieldLink RX2 16 "GateHallsModel" "gifts" "[I") (by decide +kernel)) rfl dX2_seek_86 ?_
              refine lv_iload hx hb dX2_seek_89 (lv_at hl 4 rfl) ?_
              refine mAld (j := i) hX hK hI 3 rfl rfl (by omega) (by decide) dX2_seek_91 ?_
              refine gTop (y := τ2.1 3 (i)) (by simp [uA, uS, upd]) ?_
              refine lv_i2l (v := Int32.toInt64 (τ2.1 3 (i))) hx hb dX2_seek_92 rfl ?_
              refine lv_aload_n hx hb dX2_seek_93 rfl (lv_at hl 1 rfl) ?_
              refine mGet (v := .ref (q 3)) hX hin2 hK hI 3 (by decide) (hts (.fieldLink RX2 16 "GateHallsModel" "gifts" "[I") (by decide +kernel)) rfl dX2_seek_94 ?_
              refine lv_iload hx hb dX2_seek_97 (lv_at hl 0 rfl) ?_
              refine mAld (j := y) hX hK hI 3 rfl rfl (by omega) (by decide) dX2_seek_99 ?_
              refine gTop (y := τ2.1 3 (y)) (by simp [uA, uS, upd]) ?_
              refine lv_i2l (v := Int32.toInt64 (τ2.1 3 (y))) hx hb dX2_seek_100 rfl ?_
              refine lv_ladd hx hb dX2_seek_101 ?_
              refine lv_lload_n hx hb dX2_seek_102 rfl (lv_at hl 2 rfl) ?_
              refine W.lcmp hx hb dX2_seek_103 ?_
              refine lv_if_ne (tgt := 115) hx hb dX2_seek_104 (by decide) (fun c8 => ?_) (fun c8 => ?_)
              · refine lv_aload_n hx hb dX2_seek_115 rfl (lv_at hl 1 rfl) ?_
                refine mGet (v := .ref (q 3)) hX hin2 hK hI 3 (by decide) (hts (.fieldLink RX2 16 "GateHallsModel" "gifts" "[I") (by decide +kernel)) rfl dX2_seek_116 ?_
                refine lv_iload hx hb dX2_seek_119 (lv_at hl 0 rfl) ?_
                refine mAld (j := y) hX hK hI 3 rfl rfl (by omega) (by decide) dX2_seek_121 ?_
                refine gTop (y := τ2.1 3 (y)) (by simp [uA, uS, upd]) ?_
                refine lv_if_lt (tgt := 129) hx hb dX2_seek_122 (by decide) (fun c9 => ?_) (fun c9 => ?_)
                · refine lv_iconst (v := 0) hx hb dX2_seek_129 (by decide) ?_
                  refine lv_istore (lv' := [(5, .int (0)), (7, .int (nI y)), (0, .ref h), (1, .long (sum)), (3, .int (nI a)), (4, .int (nI i)), (6, .int (nI b))]) hx hb dX2_seek_130 hl (by decide) rfl (fun ls hl => ?_)
                  refine lv_iinc (v := nI (b + 1)) (lv' := [(6, .int (nI (b + 1))), (5, .int (0)), (7, .int (nI y)), (0, .ref h), (1, .long (sum)), (3, .int (nI a)), (4, .int (nI i))]) hx hb dX2_seek_132 hl (k := 6) rfl (nI_1 _) (by decide) rfl (fun ls hl => ?_)
                  refine lv_goto (tgt := 44) hx hb dX2_seek_135 (by decide) ?_
                  rw [zSB, if_neg c7] at hB; dsimp only at hB; rw [hyC, if_neg c8, if_pos c9] at hB
                  refine lv_iload hx hb dX2_seek_44 (lv_at hl 0 rfl) ?_
                  refine lv_bipush (v := 10) hx hb dX2_seek_46 (by decide) ?_
                  refine lv_icmp_ge (tgt := 138) hx hb dX2_seek_48 (by decide) (fun c10 => ?_) (fun c10 => ?_)
                  · exact cont _ _ _ ls (gI_ask hy hg2) hB.symm hI (lv_sub hl [3, 4, 5] rfl)
                  · refine lv_iload hx hb dX2_seek_51 (lv_at hl 1 rfl) ?_
                    refine lv_if_eq (tgt := 138) hx hb dX2_seek_53 (by decide) (fun c11 => ?_) (fun c11 => False.elim (by revert c11; decide))
                    exact cont _ _ _ ls (gI_ask hy hg2) hB.symm hI (lv_sub hl [3, 4, 5] rfl)
                · refine lv_iconst (v := 1) hx hb dX2_seek_125 (by decide) ?_
                  refine lv_goto (tgt := 130) hx hb dX2_seek_126 (by decide) ?_
                  refine lv_istore (lv' := [(5, .int (1)), (7, .int (nI y)), (0, .ref h), (1, .long (sum)), (3, .int (nI a)), (4, .int (nI i)), (6, .int (nI b))]) hx hb dX2_seek_130 hl (by decide) rfl (fun ls hl => ?_)
                  refine lv_iinc (v := nI (b + 1)) (lv' := [(6, .int (nI (b + 1))), (5, .int (1)), (7, .int (nI y)), (0, .ref h), (1, .long (sum)), (3, .int (nI a)), (4, .int (nI i))]) hx hb dX2_seek_132 hl (k := 6) rfl (nI_1 _) (by decide) rfl (fun ls hl => ?_)
                  refine lv_goto (tgt := 44) hx hb dX2_seek_135 (by decide) ?_
                  rw [zSB, if_neg c7] at hB; dsimp only at hB; rw [hyC, if_neg c8, if_neg c9] at hB
                  exact ihb (b + 1) _ _ _ ls (by omega) (gI_ask hy hg2) hB hI (lv_sub hl [3, 4, 5, 6, 1, 0] rfl)
              · refine lv_bipush (v := 10) hx hb dX2_seek_107 (by decide) ?_
                refine lv_iload_n hx hb dX2_seek_109 rfl (lv_at hl 3 rfl) ?_
                refine lv_imul hx hb dX2_seek_110 ?_
                refine lv_iload hx hb dX2_seek_111 (lv_at hl 6 rfl) ?_
                refine lv_iadd hx hb dX2_seek_113 ?_
                rw [zSB, if_neg c7] at hB; dsimp only at hB; rw [hyC, if_pos c8] at hB
                rw [← hB] at hE2
                rw [if_neg (nI_m1 (by omega))] at hE2
                exact gIret hX hr hlk hI ⟨by rw [hE2], by rw [hE2]⟩ dX2_seek_114
            · refine lv_goto (tgt := 132) hx hb dX2_seek_71 (by decide) ?_
              refine lv_iinc (v := nI (b + 1)) (lv' := [(6, .int (nI (b + 1))), (7, .int (τ2.1 9 (b))), (0, .ref h), (1, .long (sum)), (3, .int (nI a)), (4, .int (nI i)), (5, .int (1))]) hx hb dX2_seek_132 hl (k := 6) rfl (nI_1 _) (by decide) rfl (fun ls hl => ?_)
              refine lv_goto (tgt := 44) hx hb dX2_seek_135 (by decide) ?_
              exact ihb (b + 1) τ2 _ _ ls (by omega) hg2 (by rw [← hB, zSB, if_pos c7]) hI (lv_sub hl [2, 3, 4, 5, 6, 0] rfl)
        exact loopB (9 - a) (a + 1) _ _ _ ls (by omega) (gI_ask hi hgT) hGB hI (lv_sub hl [3, 4, 5, 2, 1, 0] rfl)
      · refine lv_goto (tgt := 138) hx hb dX2_seek_22 (by decide) ?_
        refine lv_iinc (v := nI (a + 1)) (lv' := [(3, .int (nI (a + 1))), (4, .int (τ.1 9 (a))), (0, .ref h), (1, .long (sum))]) hx hb dX2_seek_138 hl (k := 3) rfl (nI_1 _) (by decide) rfl (fun ls hl => ?_)
        refine lv_goto (tgt := 2) hx hb dX2_seek_141 (by decide) ?_
        exact ih (a + 1) τ _ _ ls (by omega) hgT (by rw [← hE, zSA, if_pos c3]) hI (lv_sub hl [2, 3, 0] rfl)
  exact loopA 10 0 σ _ _ ls (by omega) hg rfl hI (lv_sub hl [1, 2, 0] rfl)
end
section
set_option maxRecDepth 100000 in
theorem iX0_init_0 : ∀ w ∈ wsX00, w ∈ wsX0_init := by decide +kernel
set_option maxHeartbeats 4000000 in
set_option maxRecDepth 100000 in
theorem c_X0_init (l : Launch) (D : va_G) (cI cH : ClassId) (w : va_W) (a q0 : Nat) (f0 f1 f2 f3 f4 f5 f6 f7 f8 : Int32) (sz : Nat) (x y z : Int32) (he : w[q0]? = some (a, .inr (0, [.int (f0), .int (f1), .int (f2), .int (f3), .int (f4), .int (f5), .int (f6), .int (f7), .int (f8)]))) : gMv l yX0_init wsX0_init ({ frames := 1, cells := 0, slots := 0, locals := 20 }) D w (gTy cI cH) sz [.ref a, .int (x), .int (y), .int (z)] (fun u => u = w.set q0 (a, .inr (0, [.int (x), .int (y), .int (z), .int (f3), .int (f4), .int (f5), .int (f6), .int (f7), .int (f8)]))) := by
  refine gEnter (cc := cX0_init) (maxL := 4) (ret := none) (QF := fun A => va_Qv _ (gPost D A) A) (by decide) rfl (Nat.le_of_ble_eq_true rfl) ?_
  intro p e s m below meth c A ls hX hr hlk hnm hK hN hA hI hl
  have hx := hX.1
  have hb := hX.2.1
  have hts := hX.2.2.2.2
  have hown : s.vm.findClass RX0 = some m.cls := hX.2.2.2.1
  have hin0 := iX0_init_0
  have he0 := he
  have hl : lv_has ls 4 [(0, .ref a), (1, .int (x)), (2, .int (y)), (3, .int (z))] := hl
  refine lv_aload_n hx hb dX0_init_0 rfl (lv_at hl 0 rfl) ?_
  refine W.objInit hx hb hown (hts (.methodLink RX0 3 objectInit) (by decide +kernel)) (hts (.instanceMethod objectInit) (by decide +kernel)) (hts _ (List.mem_cons_of_mem _ (List.mem_append_left _ (List.mem_of_getElem? (i := 2) rfl)))) rfl (by rw [hX.2.2.1]; exact hl.1) rfl dX0_init_1 (Nat.le_of_ble_eq_true rfl) (Nat.le_of_ble_eq_true rfl) ?_
  refine W.eq (g2 := F0 m 4 ls []) rfl ?_
  refine lv_aload_n hx hb dX0_init_4 rfl (lv_at hl 0 rfl) ?_
  refine lv_iload_n hx hb dX0_init_5 rfl (lv_at hl 1 rfl) ?_
  refine gPutF (ci := 0) hX hin0 tyX0 tyX0_ok nmX0 hK hI q0 he rfl 0 (by decide) (hts (.fieldLink RX0 9 "GateHalls$Hall" "number" "I") (by decide +kernel)) rfl hnm rfl rfl rfl (Nat.le_of_ble_eq_true rfl) (w' := w.set q0 (a, .inr (0, [.int (x), .int (f1), .int (f2), .int (f3), .int (f4), .int (f5), .int (f6), .int (f7), .int (f8)]))) rfl dX0_init_6 (fun H locs hI => ?_)
  have he := g_set_get he0 (v := (a, .inr (0, [.int (x), .int (f1), .int (f2), .int (f3), .int (f4), .int (f5), .int (f6), .int (f7), .int (f8)])))
  refine lv_aload_n hx hb dX0_init_9 rfl (lv_at hl 0 rfl) ?_
  refine lv_iload_n hx hb dX0_init_10 rfl (lv_at hl 2 rfl) ?_
  refine gPutF (ci := 0) hX hin0 tyX0 tyX0_ok nmX0 hK hI q0 he rfl 1 (by decide) (hts (.fieldLink RX0 15 "GateHalls$Hall" "kind" "I") (by decide +kernel)) rfl hnm rfl rfl rfl (Nat.le_of_ble_eq_true rfl) (w' := w.set q0 (a, .inr (0, [.int (x), .int (y), .int (f2), .int (f3), .int (f4), .int (f5), .int (f6), .int (f7), .int (f8)]))) (by rw [List.set_set]; rfl) dX0_init_11 (fun H locs hI => ?_)
  have he := g_set_get he0 (v := (a, .inr (0, [.int (x), .int (y), .int (f2), .int (f3), .int (f4), .int (f5), .int (f6), .int (f7), .int (f8)])))
  refine lv_aload_n hx hb dX0_init_14 rfl (lv_at hl 0 rfl) ?_
  refine lv_iload_n hx hb dX0_init_15 rfl (lv_at hl 3 rfl) ?_
  refine gPutF (ci := 0) hX hin0 tyX0 tyX0_ok nmX0 hK hI q0 he rfl 2 (by decide) (hts (.fieldLink RX0 18 "GateHalls$Hall" "fee" "I") (by decide +kernel)) rfl hnm rfl rfl rfl (Nat.le_of_ble_eq_true rfl) (w' := w.set q0 (a, .inr (0, [.int (x), .int (y), .int (z), .int (f3), .int (f4), .int (f5), .int (f6), .int (f7), .int (f8)]))) (by rw [List.set_set]; rfl) dX0_init_16 (fun H locs hI => ?_)
  have he := g_set_get he0 (v := (a, .inr (0, [.int (x), .int (y), .int (z), .int (f3), .int (f4), .int (f5), .int (f6), .int (f7), .int (f8)])))
  exact gVret hX hr hlk hI rfl dX0_init_19
set_option maxRecDepth 100000 in
theorem iX0_enter_0 : ∀ w ∈ wsX00, w ∈ wsX0_enter := by decide +kernel
set_option maxHeartbeats 4000000 in
set_option maxRecDepth 100000 in
theorem c_X0_enter (l : Launch) (D : va_G) (cI cH : ClassId) (w : va_W) (a q0 : Nat) (f0 f1 f2 f3 f4 f5 f6 f7 f8 : Int32) (sz : Nat)  (he : w[q0]? = some (a, .inr (0, [.int (f0), .int (f1), .int (f2), .int (f3), .int (f4), .int (f5), .int (f6), .int (f7), .int (f8)]))) : gMv l yX0_enter wsX0_enter ({ frames := 1, cells := 0, slots := 0, locals := 24 }) D w (gTy cI cH) sz [.ref a] (fun u => u = w.set q0 (a, .inr (0, [.int (f0), .int (f1), .int (f2), .int (f3), .int (f4 + 1), .int (f5), .int (f6), .int (f7 + 1), .int (if f8 < f7 + 1 then f7 + 1 else f8)]))) := by
  refine gEnter (cc := cX0_enter) (maxL := 1) (ret := none) (QF := fun A => va_Qv _ (gPost D A) A) (by decide) rfl (Nat.le_of_ble_eq_true rfl) ?_
  intro p e s m below meth c A ls hX hr hlk hnm hK hN hA hI hl
  have hx := hX.1
  have hb := hX.2.1
  have hts := hX.2.2.2.2
  have hown : s.vm.findClass RX0 = some m.cls := hX.2.2.2.1
  have hin0 := iX0_enter_0
  have he0 := he
  have hl : lv_has ls 1 [(0, .ref a)] := hl
  refine lv_aload_n hx hb dX0_enter_0 rfl (lv_at hl 0 rfl) ?_
  refine lv_dup hx hb dX0_enter_1 rfl ?_
  refine gGet (ci := 0) (v := .int (f4)) hX hin0 hK hI q0 he rfl 4 (by decide) (hts (.fieldLink RX0 21 "GateHalls$Hall" "passes" "I") (by decide +kernel)) rfl dX0_enter_2 ?_
  refine lv_iconst (v := 1) hx hb dX0_enter_5 (by decide) ?_
  refine lv_iadd hx hb dX0_enter_6 ?_
  refine gPut (ci := 0) hX hin0 tyX0 tyX0_ok nmX0 hK hI q0 he rfl 4 (by decide) (hts (.fieldLink RX0 21 "GateHalls$Hall" "passes" "I") (by decide +kernel)) rfl rfl (Nat.le_of_ble_eq_true rfl) (w' := w.set q0 (a, .inr (0, [.int (f0), .int (f1), .int (f2), .int (f3), .int (f4 + 1), .int (f5), .int (f6), .int (f7), .int (f8)]))) rfl dX0_enter_7 (fun H locs hI => ?_)
  have he := g_set_get he0 (v := (a, .inr (0, [.int (f0), .int (f1), .int (f2), .int (f3), .int (f4 + 1), .int (f5), .int (f6), .int (f7), .int (f8)])))
  refine lv_aload_n hx hb dX0_enter_10 rfl (lv_at hl 0 rfl) ?_
  refine lv_dup hx hb dX0_enter_11 rfl ?_
  refine gGet (ci := 0) (v := .int (f7)) hX hin0 hK hI q0 he rfl 7 (by decide) (hts (.fieldLink RX0 24 "GateHalls$Hall" "inside" "I") (by decide +kernel)) rfl dX0_enter_12 ?_
  refine lv_iconst (v := 1) hx hb dX0_enter_15 (by decide) ?_
  refine lv_iadd hx hb dX0_enter_16 ?_
  refine gPut (ci := 0) hX hin0 tyX0 tyX0_ok nmX0 hK hI q0 he rfl 7 (by decide) (hts (.fieldLink RX0 24 "GateHalls$Hall" "inside" "I") (by decide +kernel)) rfl rfl (Nat.le_of_ble_eq_true rfl) (w' := w.set q0 (a, .inr (0, [.int (f0), .int (f1), .int (f2), .int (f3), .int (f4 + 1), .int (f5), .int (f6), .int (f7 + 1), .int (f8)]))) (by rw [List.set_set]; rfl) dX0_enter_17 (fun H locs hI => ?_)
  have he := g_set_get he0 (v := (a, .inr (0, [.int (f0), .int (f1), .int (f2), .int (f3), .int (f4 + 1), .int (f5), .int (f6), .int (f7 + 1), .int (f8)])))
  refine lv_aload_n hx hb dX0_enter_20 rfl (lv_at hl 0 rfl) ?_
  refine lv_aload_n hx hb dX0_enter_21 rfl (lv_at hl 0 rfl) ?_
  refine gGet (ci := 0) (v := .int (f8)) hX hin0 hK hI q0 he rfl 8 (by decide) (hts (.fieldLink RX0 27 "GateHalls$Hall" "most" "I") (by decide +kernel)) rfl dX0_enter_22 ?_
  refine lv_aload_n hx hb dX0_enter_25 rfl (lv_at hl 0 rfl) ?_
  refine gGet (ci := 0) (v := .int (f7 + 1)) hX hin0 hK hI q0 he rfl 7 (by decide) (hts (.fieldLink RX0 24 "GateHalls$Hall" "inside" "I") (by decide +kernel)) rfl dX0_enter_26 ?_
  refine va_mmax hx hb (hX.2.2.1.trans hl.1.symm) hown (hts (.methodLink RX0 30 Lib.Math.max.name) (by decide +kernel)) (hts (.static Lib.Math.max.name) (by decide +kernel)) (hts (.initialized "java/lang/Math") (by decide +kernel)) (hts (.code Lib.Math.max.name Lib.Math.max.code 2 (some .int)) (by decide +kernel)) (Nat.le_of_ble_eq_true rfl) (Nat.le_of_ble_eq_true rfl) (Nat.le_of_ble_eq_true rfl) (Nat.le_of_ble_eq_true rfl) dX0_enter_29 ?_
  refine gPut (ci := 0) hX hin0 tyX0 tyX0_ok nmX0 hK hI q0 he rfl 8 (by decide) (hts (.fieldLink RX0 27 "GateHalls$Hall" "most" "I") (by decide +kernel)) rfl rfl (Nat.le_of_ble_eq_true rfl) (w' := w.set q0 (a, .inr (0, [.int (f0), .int (f1), .int (f2), .int (f3), .int (f4 + 1), .int (f5), .int (f6), .int (f7 + 1), .int (if (f8) < (f7 + 1) then (f7 + 1) else (f8))]))) (by rw [List.set_set]; rfl) dX0_enter_32 (fun H locs hI => ?_)
  have he := g_set_get he0 (v := (a, .inr (0, [.int (f0), .int (f1), .int (f2), .int (f3), .int (f4 + 1), .int (f5), .int (f6), .int (f7 + 1), .int (if (f8) < (f7 + 1) then (f7 + 1) else (f8))])))
  exact gVret hX hr hlk hI rfl dX0_enter_35
set_option maxRecDepth 100000 in
theorem iX0_guardIsInTheWay_0 : ∀ w ∈ wsX00, w ∈ wsX0_guardIsInTheWay := by decide +kernel
set_option maxHeartbeats 4000000 in
set_option maxRecDepth 100000 in
theorem c_X0_guardIsInTheWay (l : Launch) (D : va_G) (cI cH : ClassId) (w : va_W) (a q0 : Nat) (f0 f1 f2 f3 f4 f5 f6 f7 f8 : Int32) (sz : Nat)  (he : w[q0]? = some (a, .inr (0, [.int (f0), .int (f1), .int (f2), .int (f3), .int (f4), .int (f5), .int (f6), .int (f7), .int (f8)]))) : gMi l yX0_guardIsInTheWay wsX0_guardIsInTheWay ({ frames := 0, cells := 0, slots := 0, locals := 0 }) D w (gTy cI cH) sz [.ref a] (fun r u => ((r = 1 ∧ f1 = 2 ∧ zRem f4 3 = 0) ∨ (r = 0 ∧ ¬ (f1 = 2 ∧ zRem f4 3 = 0))) ∧ u = w) := by
  refine gEnter (cc := cX0_guardIsInTheWay) (maxL := 1) (ret := (some .boolean)) (QF := fun A => va_Qi _ (gPost D A) A) (by decide) rfl (Nat.le_of_ble_eq_true rfl) ?_
  intro p e s m below meth c A ls hX hr hlk hnm hK hN hA hI hl
  have hx := hX.1
  have hb := hX.2.1
  have hts := hX.2.2.2.2
  have hown : s.vm.findClass RX0 = some m.cls := hX.2.2.2.1
  have hin0 := iX0_guardIsInTheWay_0
  have he0 := he
  have hl : lv_has ls 1 [(0, .ref a)] := hl
  refine lv_aload_n hx hb dX0_guardIsInTheWay_0 rfl (lv_at hl 0 rfl) ?_
  refine gGet (ci := 0) (v := .int (f1)) hX hin0 hK hI q0 he rfl 1 (by decide) (hts (.fieldLink RX0 15 "GateHalls$Hall" "kind" "I") (by decide +kernel)) rfl dX0_guardIsInTheWay_1 ?_
  refine lv_iconst (v := 2) hx hb dX0_guardIsInTheWay_4 (by decide) ?_
  refine lv_icmp_ne (tgt := 21) hx hb dX0_guardIsInTheWay_5 (by decide) (fun c1 => ?_) (fun c1 => ?_)
  · refine lv_iconst (v := 0) hx hb dX0_guardIsInTheWay_21 (by decide) ?_
    exact gZret hX hr (Or.inl rfl) hlk hI ⟨Or.inr ⟨rfl, fun z => c1 z.1⟩, rfl⟩ dX0_guardIsInTheWay_22
  · refine lv_aload_n hx hb dX0_guardIsInTheWay_8 rfl (lv_at hl 0 rfl) ?_
    refine gGet (ci := 0) (v := .int (f4)) hX hin0 hK hI q0 he rfl 4 (by decide) (hts (.fieldLink RX0 21 "GateHalls$Hall" "passes" "I") (by decide +kernel)) rfl dX0_guardIsInTheWay_9 ?_
    refine lv_iconst (v := 3) hx hb dX0_guardIsInTheWay_12 (by decide) ?_
    refine lv_irem hx hb dX0_guardIsInTheWay_13 (by decide) ?_
    refine lv_if_ne (tgt := 21) hx hb dX0_guardIsInTheWay_14 (by decide) (fun c2 => ?_) (fun c2 => ?_)
    · refine lv_iconst (v := 0) hx hb dX0_guardIsInTheWay_21 (by decide) ?_
      exact gZret hX hr (Or.inl rfl) hlk hI ⟨Or.inr ⟨rfl, fun z => c2 z.2⟩, rfl⟩ dX0_guardIsInTheWay_22
    · refine lv_iconst (v := 1) hx hb dX0_guardIsInTheWay_17 (by decide) ?_
      refine lv_goto (tgt := 22) hx hb dX0_guardIsInTheWay_18 (by decide) ?_
      exact gZret hX hr (Or.inr rfl) hlk hI ⟨Or.inl ⟨rfl, c1, c2⟩, rfl⟩ dX0_guardIsInTheWay_22
set_option maxRecDepth 100000 in
theorem iX0_charge_0 : ∀ w ∈ wsX00, w ∈ wsX0_charge := by decide +kernel
set_option maxHeartbeats 4000000 in
set_option maxRecDepth 100000 in
theorem c_X0_charge (l : Launch) (D : va_G) (cI cH : ClassId) (w : va_W) (a q0 : Nat) (f0 f1 f2 f3 f4 f5 f6 f7 f8 : Int32) (sz : Nat)  (he : w[q0]? = some (a, .inr (0, [.int (f0), .int (f1), .int (f2), .int (f3), .int (f4), .int (f5), .int (f6), .int (f7), .int (f8)]))) : gMi l yX0_charge wsX0_charge ({ frames := 0, cells := 0, slots := 0, locals := 0 }) D w (gTy cI cH) sz [.ref a] (fun r u => (r = if f1 = 0 then f2 else if f1 = 2 then 2 * (f2 + f4) else f2 + f4) ∧ u = w) := by
  refine gEnter (cc := cX0_charge) (maxL := 2) (ret := (some .int)) (QF := fun A => va_Qi _ (gPost D A) A) (by decide) rfl (Nat.le_of_ble_eq_true rfl) ?_
  intro p e s m below meth c A ls hX hr hlk hnm hK hN hA hI hl
  have hx := hX.1
  have hb := hX.2.1
  have hts := hX.2.2.2.2
  have hown : s.vm.findClass RX0 = some m.cls := hX.2.2.2.1
  have hin0 := iX0_charge_0
  have he0 := he
  have hl : lv_has ls 2 [(0, .ref a)] := hl
  refine lv_aload_n hx hb dX0_charge_0 rfl (lv_at hl 0 rfl) ?_
  refine gGet (ci := 0) (v := .int (f1)) hX hin0 hK hI q0 he rfl 1 (by decide) (hts (.fieldLink RX0 15 "GateHalls$Hall" "kind" "I") (by decide +kernel)) rfl dX0_charge_1 ?_
  refine lv_if_ne (tgt := 12) hx hb dX0_charge_4 (by decide) (fun c1 => ?_) (fun c1 => ?_)
  · refine lv_aload_n hx hb dX0_charge_12 rfl (lv_at hl 0 rfl) ?_
    refine gGet (ci := 0) (v := .int (f2)) hX hin0 hK hI q0 he rfl 2 (by decide) (hts (.fieldLink RX0 18 "GateHalls$Hall" "fee" "I") (by decide +kernel)) rfl dX0_charge_13 ?_
    refine lv_aload_n hx hb dX0_charge_16 rfl (lv_at hl 0 rfl) ?_
    refine gGet (ci := 0) (v := .int (f4)) hX hin0 hK hI q0 he rfl 4 (by decide) (hts (.fieldLink RX0 21 "GateHalls$Hall" "passes" "I") (by decide +kernel)) rfl dX0_charge_17 ?_
    refine lv_iadd hx hb dX0_charge_20 ?_
    refine lv_istore_n (lv' := [(1, .int (f2 + f4)), (0, .ref a)]) hx hb dX0_charge_21 rfl hl (by decide) rfl (fun ls hl => ?_)
    refine lv_aload_n hx hb dX0_charge_22 rfl (lv_at hl 1 rfl) ?_
    refine gGet (ci := 0) (v := .int (f1)) hX hin0 hK hI q0 he rfl 1 (by decide) (hts (.fieldLink RX0 15 "GateHalls$Hall" "kind" "I") (by decide +kernel)) rfl dX0_charge_23 ?_
    refine lv_iconst (v := 2) hx hb dX0_charge_26 (by decide) ?_
    refine lv_icmp_ne (tgt := 36) hx hb dX0_charge_27 (by decide) (fun c2 => ?_) (fun c2 => ?_)
    · refine lv_iload_n hx hb dX0_charge_36 rfl (lv_at hl 0 rfl) ?_
      exact gIret hX hr hlk hI ⟨by rw [if_neg c1, if_neg c2], rfl⟩ dX0_charge_37
    · refine lv_iconst (v := 2) hx hb dX0_charge_30 (by decide) ?_
      refine lv_iload_n hx hb dX0_charge_31 rfl (lv_at hl 0 rfl) ?_
      refine lv_imul hx hb dX0_charge_32 ?_
      refine lv_goto (tgt := 37) hx hb dX0_charge_33 (by decide) ?_
      exact gIret hX hr hlk hI ⟨by rw [if_neg c1, if_pos c2], rfl⟩ dX0_charge_37
  · refine lv_aload_n hx hb dX0_charge_7 rfl (lv_at hl 0 rfl) ?_
    refine gGet (ci := 0) (v := .int (f2)) hX hin0 hK hI q0 he rfl 2 (by decide) (hts (.fieldLink RX0 18 "GateHalls$Hall" "fee" "I") (by decide +kernel)) rfl dX0_charge_8 ?_
    exact gIret hX hr hlk hI ⟨by rw [if_pos c1], rfl⟩ dX0_charge_11
set_option maxRecDepth 100000 in
theorem iX0_mark_0 : ∀ w ∈ wsX00, w ∈ wsX0_mark := by decide +kernel
set_option maxHeartbeats 4000000 in
set_option maxRecDepth 100000 in
theorem c_X0_mark (l : Launch) (D : va_G) (cI cH : ClassId) (w : va_W) (a q0 : Nat) (f0 f1 f2 f3 f4 f5 f6 f7 f8 : Int32) (sz : Nat)  (he : w[q0]? = some (a, .inr (0, [.int (f0), .int (f1), .int (f2), .int (f3), .int (f4), .int (f5), .int (f6), .int (f7), .int (f8)]))) : gMi l yX0_mark wsX0_mark ({ frames := 0, cells := 0, slots := 0, locals := 0 }) D w (gTy cI cH) sz [.ref a] (fun r u => r = zRem f0 100 ∧ u = w) := by
  refine gEnter (cc := cX0_mark) (maxL := 1) (ret := (some .int)) (QF := fun A => va_Qi _ (gPost D A) A) (by decide) rfl (Nat.le_of_ble_eq_true rfl) ?_
  intro p e s m below meth c A ls hX hr hlk hnm hK hN hA hI hl
  have hx := hX.1
  have hb := hX.2.1
  have hts := hX.2.2.2.2
  have hown : s.vm.findClass RX0 = some m.cls := hX.2.2.2.1
  have hin0 := iX0_mark_0
  have he0 := he
  have hl : lv_has ls 1 [(0, .ref a)] := hl
  refine lv_aload_n hx hb dX0_mark_0 rfl (lv_at hl 0 rfl) ?_
  refine gGet (ci := 0) (v := .int (f0)) hX hin0 hK hI q0 he rfl 0 (by decide) (hts (.fieldLink RX0 9 "GateHalls$Hall" "number" "I") (by decide +kernel)) rfl dX0_mark_1 ?_
  refine lv_bipush (v := 100) hx hb dX0_mark_4 (by decide) ?_
  refine lv_irem hx hb dX0_mark_6 (by decide) ?_
  exact gIret hX hr hlk hI ⟨rfl, rfl⟩ dX0_mark_7
def zFa (f0 f1 f2 f4 f5 f6 f7 f8 w : Int32) : Int32 := if w = 0 then f0 else if w = 1 then f1 else if w = 2 then f2 else if w = 3 then f4 else if w = 4 then f5 else if w = 5 then f6 else if w = 6 then f7 else if w = 7 then f8 else -1
theorem zFa_out {f0 f1 f2 f4 f5 f6 f7 f8 w : Int32} (h : w.toInt < 0 ∨ 7 < w.toInt) : (-1 : Int32) = zFa f0 f1 f2 f4 f5 f6 f7 f8 w := by
  have hk : ∀ k : Int32, ¬ (k.toInt < 0 ∨ 7 < k.toInt) → ¬ w = k := fun k a e => by subst e; exact a h
  unfold zFa
  rw [if_neg (hk 0 (by decide)), if_neg (hk 1 (by decide)), if_neg (hk 2 (by decide)), if_neg (hk 3 (by decide)), if_neg (hk 4 (by decide)), if_neg (hk 5 (by decide)), if_neg (hk 6 (by decide)), if_neg (hk 7 (by decide))]
set_option maxRecDepth 100000 in
theorem iX0_fact_0 : ∀ w ∈ wsX00, w ∈ wsX0_fact := by decide +kernel
set_option maxHeartbeats 4000000 in
set_option maxRecDepth 100000 in
theorem c_X0_fact (l : Launch) (D : va_G) (cI cH : ClassId) (w : va_W) (a q0 : Nat) (f0 f1 f2 f3 f4 f5 f6 f7 f8 : Int32) (sz : Nat) (x : Int32) (he : w[q0]? = some (a, .inr (0, [.int (f0), .int (f1), .int (f2), .int (f3), .int (f4), .int (f5), .int (f6), .int (f7), .int (f8)]))) : gMi l yX0_fact wsX0_fact ({ frames := 0, cells := 0, slots := 0, locals := 0 }) D w (gTy cI cH) sz [.ref a, .int (x)] (fun r u => r = zFa f0 f1 f2 f4 f5 f6 f7 f8 x ∧ u = w) := by
  refine gEnter (cc := cX0_fact) (maxL := 2) (ret := (some .int)) (QF := fun A => va_Qi _ (gPost D A) A) (by decide) rfl (Nat.le_of_ble_eq_true rfl) ?_
  intro p e s m below meth c A ls hX hr hlk hnm hK hN hA hI hl
  have hx := hX.1
  have hb := hX.2.1
  have hts := hX.2.2.2.2
  have hown : s.vm.findClass RX0 = some m.cls := hX.2.2.2.1
  have hin0 := iX0_fact_0
  have he0 := he
  have hl : lv_has ls 2 [(0, .ref a), (1, .int (x))] := hl
  refine lv_iload_n hx hb dX0_fact_0 rfl (lv_at hl 1 rfl) ?_
  rcases g_sw07 x with h1 | rfl | rfl | rfl | rfl | rfl | rfl | rfl | rfl
  · refine lv_tableOut (tgt := 88) hx hb dX0_fact_1 h1 (by decide) ?_
    refine lv_iconst (v := (-1)) hx hb dX0_fact_88 (by decide) ?_
    exact gIret hX hr hlk hI ⟨zFa_out h1, rfl⟩ dX0_fact_89
  · refine lv_tableIn (tgt := 48) (off := 47) hx hb dX0_fact_1 (by decide) (by decide) (by decide) (by decide) ?_
    refine lv_aload_n hx hb dX0_fact_48 rfl (lv_at hl 0 rfl) ?_
    refine gGet (ci := 0) (v := .int (f0)) hX hin0 hK hI q0 he rfl 0 (by decide) (hts (.fieldLink RX0 9 "GateHalls$Hall" "number" "I") (by decide +kernel)) rfl dX0_fact_49 ?_
    exact gIret hX hr hlk hI ⟨rfl, rfl⟩ dX0_fact_52
  · refine lv_tableIn (tgt := 53) (off := 52) hx hb dX0_fact_1 (by decide) (by decide) (by decide) (by decide) ?_
    refine lv_aload_n hx hb dX0_fact_53 rfl (lv_at hl 0 rfl) ?_
    refine gGet (ci := 0) (v := .int (f1)) hX hin0 hK hI q0 he rfl 1 (by decide) (hts (.fieldLink RX0 15 "GateHalls$Hall" "kind" "I") (by decide +kernel)) rfl dX0_fact_54 ?_
    exact gIret hX hr hlk hI ⟨rfl, rfl⟩ dX0_fact_57
  · refine lv_tableIn (tgt := 58) (off := 57) hx hb dX0_fact_1 (by decide) (by decide) (by decide) (by decide) ?_
    refine lv_aload_n hx hb dX0_fact_58 rfl (lv_at hl 0 rfl) ?_
    refine gGet (ci := 0) (v := .int (f2)) hX hin0 hK hI q0 he rfl 2 (by decide) (hts (.fieldLink RX0 18 "GateHalls$Hall" "fee" "I") (by decide +kernel)) rfl dX0_fact_59 ?_
    exact gIret hX hr hlk hI ⟨rfl, rfl⟩ dX0_fact_62
  · refine lv_tableIn (tgt := 63) (off := 62) hx hb dX0_fact_1 (by decide) (by decide) (by decide) (by decide) ?_
    refine lv_aload_n hx hb dX0_fact_63 rfl (lv_at hl 0 rfl) ?_
    refine gGet (ci := 0) (v := .int (f4)) hX hin0 hK hI q0 he rfl 4 (by decide) (hts (.fieldLink RX0 21 "GateHalls$Hall" "passes" "I") (by decide +kernel)) rfl dX0_fact_64 ?_
    exact gIret hX hr hlk hI ⟨rfl, rfl⟩ dX0_fact_67
  · refine lv_tableIn (tgt := 68) (off := 67) hx hb dX0_fact_1 (by decide) (by decide) (by decide) (by decide) ?_
    refine lv_aload_n hx hb dX0_fact_68 rfl (lv_at hl 0 rfl) ?_
    refine gGet (ci := 0) (v := .int (f5)) hX hin0 hK hI q0 he rfl 5 (by decide) (hts (.fieldLink RX0 36 "GateHalls$Hall" "asks" "I") (by decide +kernel)) rfl dX0_fact_69 ?_
    exact gIret hX hr hlk hI ⟨rfl, rfl⟩ dX0_fact_72
  · refine lv_tableIn (tgt := 73) (off := 72) hx hb dX0_fact_1 (by decide) (by decide) (by decide) (by decide) ?_
    refine lv_aload_n hx hb dX0_fact_73 rfl (lv_at hl 0 rfl) ?_
    refine gGet (ci := 0) (v := .int (f6)) hX hin0 hK hI q0 he rfl 6 (by decide) (hts (.fieldLink RX0 39 "GateHalls$Hall" "paid" "I") (by decide +kernel)) rfl dX0_fact_74 ?_
    exact gIret hX hr hlk hI ⟨rfl, rfl⟩ dX0_fact_77
  · refine lv_tableIn (tgt := 78) (off := 77) hx hb dX0_fact_1 (by decide) (by decide) (by decide) (by decide) ?_
    refine lv_aload_n hx hb dX0_fact_78 rfl (lv_at hl 0 rfl) ?_
    refine gGet (ci := 0) (v := .int (f7)) hX hin0 hK hI q0 he rfl 7 (by decide) (hts (.fieldLink RX0 24 "GateHalls$Hall" "inside" "I") (by decide +kernel)) rfl dX0_fact_79 ?_
    exact gIret hX hr hlk hI ⟨rfl, rfl⟩ dX0_fact_82
  · refine lv_tableIn (tgt := 83) (off := 82) hx hb dX0_fact_1 (by decide) (by decide) (by decide) (by decide) ?_
    refine lv_aload_n hx hb dX0_fact_83 rfl (lv_at hl 0 rfl) ?_
    refine gGet (ci := 0) (v := .int (f8)) hX hin0 hK hI q0 he rfl 8 (by decide) (hts (.fieldLink RX0 27 "GateHalls$Hall" "most" "I") (by decide +kernel)) rfl dX0_fact_84 ?_
    exact gIret hX hr hlk hI ⟨rfl, rfl⟩ dX0_fact_87
theorem gEnterF {l : Launch} {y : MethodName} {ws ws' : List Cond} {rm : Room} {cc : ByteArray} {maxL mc ms : Nat} {ret : Option FieldType} {D : va_G} {w : va_W} {tys : List (ClassId × FieldType)} {sz : Nat} {av : List Value} {QF : (Nat → Prop) → Array Value → State → Outcome → State → Prop} (hy : plainFor y = true) (hw : ws = Cond.code y cc maxL ret :: ws') (hn : (lg_sl av).length ≤ maxL)
    (body : ∀ (p : Program) (e : Env) (s : State) (m : MethodId) (below : List Frame) (meth : Method) (c : Code) (A : Nat → Prop) (ls : Array Slot), CallFix p m c cc maxL s av.toArray ws y.cls → meth.sig.returnType = ret → meth.locks = false → meth.name = y.name → va_K D vwCl tys s → gNw s → (∀ q, s.heap.size ≤ q → A q) → InW D A s.heap w s.heap [] → lv_has ls maxL (lv_args 0 av) → W p l e rm s m av.toArray below meth c s.heap [] 0 0 (MQ below (QF A) av.toArray s mc ms A) (F0 m 0 ls [])) :
    Met l y ws rm (va_Pc av (gPre D w tys sz)) (QF (va_A w sz)) mc ms (va_A w sz) := by
  refine va_MetF hy hw ?_
  intro p e s m args below meth c s₁ B hml hv
  obtain ⟨rfl, hsz, hP, hK, hD0, hN⟩ := hv
  subst hsz
  have hl := lv_entry av (n := maxL) hn
  rw [lg_entry_eq]
  exact body p e s m below meth c _ _ ⟨B.exec, B.bytes, hml, findClass_of_methodNamed B.named, atoms_spec (ws := ws) B.pre⟩ B.returns B.notSynchronized (name_of_methodNamed B.named B.method).1 hK hN (fun q h => Or.inr h) ⟨hP, hD0.self, va_S.rf⟩ hl
theorem gEnterSF {l : Launch} {y : MethodName} {ws ws' : List Cond} {rm : Room} {cc : ByteArray} {maxL : Nat} {ret : Option FieldType} {av : List Value} {Qc : Array Value → State → Outcome → State → Prop} (hy : plainFor y = true) (hw : ws = Cond.code y cc maxL ret :: ws') (hn : (lg_sl av).length ≤ maxL)
    (body : ∀ (p : Program) (e : Env) (s : State) (m : MethodId) (below : List Frame) (meth : Method) (c : Code) (ls : Array Slot), CallFix p m c cc maxL s av.toArray ws y.cls → meth.sig.returnType = ret → meth.locks = false → lv_has ls maxL (lv_args 0 av) → W p l e rm s m av.toArray below meth c s.heap [] 0 0 (MQ below Qc av.toArray s 0 0 (fun _ => False)) (F0 m 0 ls [])) :
    Met l y ws rm (fun v _ => v = av.toArray) Qc 0 0 (fun _ => False) := by
  refine va_MetF hy hw ?_
  intro p e s m args below meth c s₁ B hml hv
  subst hv
  have hl := lv_entry av (n := maxL) hn
  rw [lg_entry_eq]
  exact body p e s m below meth c _ ⟨B.exec, B.bytes, hml, findClass_of_methodNamed B.named, atoms_spec (ws := ws) B.pre⟩ B.returns B.notSynchronized hl
theorem g_xor {x k : Int32} (hk : k.toBitVec.msb = false) : 0 ≤ x ^^^ k ↔ 0 ≤ x := by
  rw [Int32.le_iff_toInt_le, Int32.le_iff_toInt_le]
  have h0 : (0 : Int32).toInt = 0 := by decide
  rw [h0]
  have key : ∀ y : Int32, 0 ≤ y.toInt ↔ y.toBitVec.msb = false := fun y => by
    show 0 ≤ y.toBitVec.toInt ↔ _
    rw [BitVec.toInt_eq_msb_cond]
    have hlt := y.toBitVec.isLt
    cases h : y.toBitVec.msb with
    | false => simp
    | true => simp; omega
  rw [key, key]
  show (x.toBitVec ^^^ k.toBitVec).msb = false ↔ _
  rw [BitVec.msb_xor, hk, Bool.xor_false]
theorem g_tmod (x : Int) : (0 ≤ x → 0 ≤ x.tmod 10) ∧ (x < 0 → x.tmod 10 ≤ 0) ∧ (0 ≤ x → 0 ≤ x.tmod 4) ∧ (x < 0 → x.tmod 4 ≤ 0) := by
  refine ⟨fun h => Int.tmod_nonneg _ h, fun h => ?_, fun h => Int.tmod_nonneg _ h, fun h => ?_⟩
  · have := Int.tmod_nonneg 10 (a := -x) (by omega)
    rw [Int.neg_tmod] at this
    omega
  · have := Int.tmod_nonneg 4 (a := -x) (by omega)
    rw [Int.neg_tmod] at this
    omega
theorem zTen_a {x : Int32} (h : 0 ≤ x ^^^ 10) : zRem x 10 = zTen x := by
  have h1 := (g_xor (k := 10) (by decide)).mp h
  unfold zTen
  rw [if_pos]
  rw [Int32.le_iff_toInt_le] at h1 ⊢
  have e : (zRem x 10).toInt = x.toInt.tmod 10 := rem_toInt x 10
  have h0 : (0 : Int32).toInt = 0 := by decide
  rw [e, h0]; rw [h0] at h1
  exact (g_tmod x.toInt).1 h1
theorem zTen_b {x : Int32} (h : zRem x 10 = 0) : zRem x 10 = zTen x := by
  unfold zTen
  rw [if_pos]
  rw [h]; decide
theorem zTen_c {x : Int32} (h : ¬ 0 ≤ x ^^^ 10) (h2 : ¬ zRem x 10 = 0) : zRem x 10 + 10 = zTen x := by
  have h1 : ¬ 0 ≤ x := fun z => h ((g_xor (k := 10) (by decide)).mpr z)
  unfold zTen
  rw [if_neg]
  intro z
  apply h2
  rw [Int32.le_iff_toInt_le] at h1 z
  have e : (zRem x 10).toInt = x.toInt.tmod 10 := rem_toInt x 10
  have h0 : (0 : Int32).toInt = 0 := by decide
  rw [h0] at h1 z
  have := (g_tmod x.toInt).2.1 (by omega)
  rw [← e] at this
  apply Int32.toInt_inj.mp
  rw [h0]; omega
set_option maxHeartbeats 4000000 in
set_option maxRecDepth 100000 in
theorem c_fm10 (l : Launch) (x : Int32) : gMs l yJ9_floorMod_7cf53 wsJ9_floorMod_7cf53 ({ frames := 0, cells := 0, slots := 0, locals := 0 }) [.int x, .int 10] (fun r => r = zTen x) := by
  refine gEnterSF (cc := cJ9_floorMod_7cf53) (maxL := 3) (ret := (some .int)) (by decide +kernel) rfl (Nat.le_of_ble_eq_true rfl) ?_
  intro p e s m below meth c ls hX hr hlk hl
  have hx := hX.1
  have hb := hX.2.1
  have hts := hX.2.2.2.2
  have hl : lv_has ls 3 [(0, .int (x)), (1, .int (10))] := hl
  refine lv_iload_n hx hb dJ9_floorMod_7cf53_0 rfl (lv_at hl 0 rfl) ?_
  refine lv_iload_n hx hb dJ9_floorMod_7cf53_1 rfl (lv_at hl 1 rfl) ?_
  refine lv_irem hx hb dJ9_floorMod_7cf53_2 (by decide) ?_
  refine lv_istore_n (lv' := [(2, .int ((x) - (x) / (10) * (10))), (0, .int (x)), (1, .int (10))]) hx hb dJ9_floorMod_7cf53_3 rfl hl (by decide) rfl (fun ls hl => ?_)
  refine lv_iload_n hx hb dJ9_floorMod_7cf53_4 rfl (lv_at hl 1 rfl) ?_
  refine lv_iload_n hx hb dJ9_floorMod_7cf53_5 rfl (lv_at hl 2 rfl) ?_
  refine lv_ixor hx hb dJ9_floorMod_7cf53_6 ?_
  refine lv_if_ge (tgt := 18) hx hb dJ9_floorMod_7cf53_7 (by decide) (fun c1 => ?_) (fun c1 => ?_)
  · refine lv_iload_n hx hb dJ9_floorMod_7cf53_18 rfl (lv_at hl 0 rfl) ?_
    exact gSiret hX hr hlk (zTen_a c1) dJ9_floorMod_7cf53_19
  · refine lv_iload_n hx hb dJ9_floorMod_7cf53_10 rfl (lv_at hl 0 rfl) ?_
    refine lv_if_eq (tgt := 18) hx hb dJ9_floorMod_7cf53_11 (by decide) (fun c2 => ?_) (fun c2 => ?_)
    · refine lv_iload_n hx hb dJ9_floorMod_7cf53_18 rfl (lv_at hl 0 rfl) ?_
      exact gSiret hX hr hlk (zTen_b c2) dJ9_floorMod_7cf53_19
    · refine lv_iload_n hx hb dJ9_floorMod_7cf53_14 rfl (lv_at hl 0 rfl) ?_
      refine lv_iload_n hx hb dJ9_floorMod_7cf53_15 rfl (lv_at hl 2 rfl) ?_
      refine lv_iadd hx hb dJ9_floorMod_7cf53_16 ?_
      exact gSiret hX hr hlk (zTen_c c1 c2) dJ9_floorMod_7cf53_17
theorem z_and3 (x : Int32) : (x &&& 3).toInt = x.toInt % 4 := by
  rw [pk_and x (m := 3) 2 (by decide)]
  have hlt := x.toBitVec.isLt
  rw [nI_toInt (by omega)]
  show _ = x.toBitVec.toInt % 4
  rw [BitVec.toInt_eq_msb_cond]
  cases h : x.toBitVec.msb with
  | false => simp
  | true => simp; omega
theorem zAnd_a {x : Int32} (h : 0 ≤ x ^^^ 4) : zRem x 4 = x &&& 3 := by
  have h1 := (g_xor (k := 4) (by decide)).mp h
  apply Int32.toInt_inj.mp
  have e : (zRem x 4).toInt = x.toInt.tmod 4 := rem_toInt x 4
  rw [Int32.le_iff_toInt_le] at h1
  have h0 : (0 : Int32).toInt = 0 := by decide
  rw [h0] at h1
  rw [e, z_and3, Int.tmod_eq_emod_of_nonneg h1]
theorem zAnd_n {x : Int} (h : x < 0) : x.tmod 4 = -((-x) % 4) := by
  have := Int.neg_tmod (-x) 4
  rw [Int.neg_neg] at this
  rw [this, Int.tmod_eq_emod_of_nonneg (by omega)]
theorem zAnd_b {x : Int32} (h : ¬ 0 ≤ x ^^^ 4) (h2 : zRem x 4 = 0) : zRem x 4 = x &&& 3 := by
  have h1 : ¬ 0 ≤ x := fun z => h ((g_xor (k := 4) (by decide)).mpr z)
  apply Int32.toInt_inj.mp
  have e : (zRem x 4).toInt = x.toInt.tmod 4 := rem_toInt x 4
  rw [Int32.le_iff_toInt_le] at h1
  have h0 : (0 : Int32).toInt = 0 := by decide
  rw [h0] at h1
  rw [zAnd_n (by omega)] at e
  rw [h2, h0] at e
  rw [h2, h0, z_and3]
  omega
theorem zAnd_c {x : Int32} (h : ¬ 0 ≤ x ^^^ 4) (h2 : ¬ zRem x 4 = 0) : zRem x 4 + 4 = x &&& 3 := by
  have h1 : ¬ 0 ≤ x := fun z => h ((g_xor (k := 4) (by decide)).mpr z)
  apply Int32.toInt_inj.mp
  have e : (zRem x 4).toInt = x.toInt.tmod 4 := rem_toInt x 4
  rw [Int32.le_iff_toInt_le] at h1
  have h0 : (0 : Int32).toInt = 0 := by decide
  have h4 : (4 : Int32).toInt = 4 := by decide
  rw [h0] at h1
  rw [zAnd_n (by omega)] at e
  have h3 : (zRem x 4).toInt ≠ 0 := fun z => h2 (Int32.toInt_inj.mp (z.trans h0.symm))
  rw [Int32.toInt_add, h4, e, Int.bmod_eq_of_le (by omega) (by omega), z_and3]
  omega
set_option maxHeartbeats 4000000 in
set_option maxRecDepth 100000 in
theorem c_fm4 (l : Launch) (x : Int32) : gMs l yJ9_floorMod_7cf53 wsJ9_floorMod_7cf53 ({ frames := 0, cells := 0, slots := 0, locals := 0 }) [.int x, .int 4] (fun r => r = x &&& 3) := by
  refine gEnterSF (cc := cJ9_floorMod_7cf53) (maxL := 3) (ret := (some .int)) (by decide +kernel) rfl (Nat.le_of_ble_eq_true rfl) ?_
  intro p e s m below meth c ls hX hr hlk hl
  have hx := hX.1
  have hb := hX.2.1
  have hts := hX.2.2.2.2
  have hl : lv_has ls 3 [(0, .int (x)), (1, .int (4))] := hl
  refine lv_iload_n hx hb dJ9_floorMod_7cf53_0 rfl (lv_at hl 0 rfl) ?_
  refine lv_iload_n hx hb dJ9_floorMod_7cf53_1 rfl (lv_at hl 1 rfl) ?_
  refine lv_irem hx hb dJ9_floorMod_7cf53_2 (by decide) ?_
  refine lv_istore_n (lv' := [(2, .int ((x) - (x) / (4) * (4))), (0, .int (x)), (1, .int (4))]) hx hb dJ9_floorMod_7cf53_3 rfl hl (by decide) rfl (fun ls hl => ?_)
  refine lv_iload_n hx hb dJ9_floorMod_7cf53_4 rfl (lv_at hl 1 rfl) ?_
  refine lv_iload_n hx hb dJ9_floorMod_7cf53_5 rfl (lv_at hl 2 rfl) ?_
  refine lv_ixor hx hb dJ9_floorMod_7cf53_6 ?_
  refine lv_if_ge (tgt := 18) hx hb dJ9_floorMod_7cf53_7 (by decide) (fun c1 => ?_) (fun c1 => ?_)
  · refine lv_iload_n hx hb dJ9_floorMod_7cf53_18 rfl (lv_at hl 0 rfl) ?_
    exact gSiret hX hr hlk (zAnd_a c1) dJ9_floorMod_7cf53_19
  · refine lv_iload_n hx hb dJ9_floorMod_7cf53_10 rfl (lv_at hl 0 rfl) ?_
    refine lv_if_eq (tgt := 18) hx hb dJ9_floorMod_7cf53_11 (by decide) (fun c2 => ?_) (fun c2 => ?_)
    · refine lv_iload_n hx hb dJ9_floorMod_7cf53_18 rfl (lv_at hl 0 rfl) ?_
      exact gSiret hX hr hlk (zAnd_b c1 c2) dJ9_floorMod_7cf53_19
    · refine lv_iload_n hx hb dJ9_floorMod_7cf53_14 rfl (lv_at hl 0 rfl) ?_
      refine lv_iload_n hx hb dJ9_floorMod_7cf53_15 rfl (lv_at hl 2 rfl) ?_
      refine lv_iadd hx hb dJ9_floorMod_7cf53_16 ?_
      exact gSiret hX hr hlk (zAnd_c c1 c2) dJ9_floorMod_7cf53_17
end
section
/-! THE CLASS'S WORLD: what its rows hold behind each change -/
abbrev wCn (g : Nat) (q : Nat → Nat) (cI cH : ClassId) (ad : Nat → Nat) (pf : Nat → Int32) (n : Nat) (σ : gh_S) : va_W := wCr g q cI cH ad pf (gfh ad σ) (gfp ad σ) n σ
theorem nI_ne_m1 {i : Nat} (h : i < 2 ^ 31) : ¬ nI i = -1 := by
  intro e
  have h1 : (nI i).toInt = (-1 : Int32).toInt := by rw [e]
  rw [nI_toInt h] at h1
  have h2 : (-1 : Int32).toInt = -1 := by decide
  rw [h2] at h1
  omega
theorem gfh_no {ad : Nat → Nat} {σ : gh_S} {j : Nat} (h : σ.1 9 j = -1) : gfh ad σ j = none := by
  unfold gfh
  rw [if_pos h]
  split <;> rfl
theorem gfh_at {ad : Nat → Nat} {σ : gh_S} {j i : Nat} (hj : j < 10) (hi : i < 2 ^ 31) (h : σ.1 9 j = nI i) : gfh ad σ j = some (ad i) := by
  unfold gfh
  rw [if_pos hj, h, if_neg (nI_ne_m1 hi), nI_clamp hi]
theorem gfh_set {ad : Nat → Nat} {σ : gh_S} {j : Nat} (hj : j < 10) {v : Int32} : va_up (gfh ad σ) j (if v = -1 then none else some (ad v.toNatClampNeg)) = gfh ad (uA σ 9 j v) := by
  funext k
  unfold va_up gfh
  rw [uA_ki]
  by_cases hk : k = j
  · subst hk
    rw [if_pos rfl, if_pos hj, if_pos rfl]
  · rw [if_neg hk, if_neg hk]
theorem gfh_some {ad : Nat → Nat} {σ : gh_S} {j i : Nat} (hj : j < 10) (hi : i < 2 ^ 31) : va_up (gfh ad σ) j (some (ad i)) = gfh ad (uA σ 9 j (nI i)) := by
  rw [← gfh_set hj, if_neg (nI_ne_m1 hi), nI_clamp hi]
theorem gfh_none {ad : Nat → Nat} {σ : gh_S} {j : Nat} (hj : j < 10) : va_up (gfh ad σ) j none = gfh ad (uA σ 9 j (-1)) := by
  rw [← gfh_set hj, if_pos rfl]
theorem gfp_at {ad : Nat → Nat} {σ : gh_S} {w j i : Nat} (hw : σ.2 17 = nI w) (hw2 : w < 2 ^ 31) (hj : j < w) (hi : i < 2 ^ 31) (h : σ.1 18 j = nI i) : gfp ad σ j = some (ad i) := by
  unfold gfp
  rw [hw, nI_clamp hw2, if_pos hj, h, nI_clamp hi]
theorem gfp_push {ad : Nat → Nat} {σ : gh_S} {w i : Nat} (hw : σ.2 17 = nI w) (hw2 : w < 1000) (hi : i < 2 ^ 31) : va_up (gfp ad σ) w (some (ad i)) = gfp ad (uS (uA σ 18 w (nI i)) 17 (σ.2 17 + 1)) := by
  funext j
  unfold va_up gfp
  show _ = (if j < (σ.2 17 + 1).toNatClampNeg then some (ad (upd (σ.1 18) w (nI i) j).toNatClampNeg) else none)
  rw [hw, nI_1, nI_clamp (by omega), nI_clamp (by omega)]
  by_cases hj : j = w
  · subst hj
    rw [if_pos rfl, if_pos (by omega)]
    simp [upd, nI_clamp hi]
  · rw [if_neg hj]
    by_cases hjw : j < w
    · rw [if_pos hjw, if_pos (by omega)]
      simp [upd, hj]
    · rw [if_neg hjw, if_neg (by omega)]
theorem gfp_pop {ad : Nat → Nat} {σ : gh_S} {w : Nat} (hw : σ.2 17 = nI (w + 1)) (hw2 : w < 1000) : va_up (gfp ad σ) w none = gfp ad (uS σ 17 (σ.2 17 - 1)) := by
  funext j
  unfold va_up gfp
  show _ = (if j < (σ.2 17 - 1).toNatClampNeg then some (ad (σ.1 18 j).toNatClampNeg) else none)
  rw [hw, nI_pred, nI_clamp (by omega), nI_clamp (by omega)]
  by_cases hj : j = w
  · subst hj
    rw [if_pos rfl, if_neg (by omega)]
  · rw [if_neg hj]
    by_cases hjw : j < w
    · rw [if_pos (by omega), if_pos hjw]
    · rw [if_neg (by omega), if_neg hjw]
theorem wCr_enter {g : Nat} {q : Nat → Nat} {cI cH : ClassId} {ad : Nat → Nat} {pf : Nat → Int32} {fh fp : Nat → Option Nat} {n i : Nat} {σ : gh_S} (h : i < n) : (wCr g q cI cH ad pf fh fp n σ).set (6 + i) (ad i, .inr (0, [.int (nI i), .int (σ.1 1 i), .int (σ.1 2 i), .int (σ.1 3 i), .int (σ.1 4 i + 1), .int (σ.1 5 i), .int (σ.1 6 i), .int (σ.1 7 i + 1), .int (if σ.1 8 i < σ.1 7 i + 1 then σ.1 7 i + 1 else σ.1 8 i)])) = wCr g q cI cH ad pf fh fp n (zEnter σ i) := by
  refine wCr_set h ?_ (fun j hj => ?_) rfl rfl rfl
  · have e : (if σ.1 8 i < σ.1 7 i + 1 then σ.1 7 i + 1 else σ.1 8 i) = (if σ.1 7 i + 1 ≤ σ.1 8 i then σ.1 8 i else σ.1 7 i + 1) := by
      by_cases c : σ.1 8 i < σ.1 7 i + 1
      · rw [if_pos c, if_neg]
        rw [Int32.lt_iff_toInt_lt] at c
        rw [Int32.le_iff_toInt_le]
        omega
      · rw [if_neg c, if_pos]
        rw [Int32.lt_iff_toInt_lt] at c
        rw [Int32.le_iff_toInt_le]
        omega
    rw [e]
    simp [gHf, zEnter, uA, upd]
  · unfold zEnter
    rw [gHf_ne hj, gHf_ne hj, gHf_ne hj]
/-- the kinds -/
def gKd (n : Nat) (σ : gh_S) : Prop := ∀ i : Nat, i < n → σ.1 1 i = 0 ∨ σ.1 1 i = 1 ∨ σ.1 1 i = 2
theorem zCharge_eq {n i : Nat} {σ : gh_S} (hk : gKd n σ) (hi : i < n) : (if σ.1 1 i = 0 then σ.1 2 i else if σ.1 1 i = 2 then 2 * (σ.1 2 i + σ.1 4 i) else σ.1 2 i + σ.1 4 i) = zCharge σ i := by
  unfold zCharge
  rcases hk i hi with h | h | h
  · rw [if_pos h, if_pos h]
  · rw [if_neg (by rw [h]; decide), if_neg (by rw [h]; decide), if_neg (by rw [h]; decide), if_pos h]
  · rw [if_neg (by rw [h]; decide), if_pos h, if_neg (by rw [h]; decide), if_neg (by rw [h]; decide)]
theorem k_leave {σ : gh_S} {x : Int32} : (zLeave σ x).1 1 = σ.1 1 := by
  unfold zLeave
  split
  · rfl
  · rfl
theorem k_in {σ : gh_S} {i : Nat} : (zIn σ i).1 1 = σ.1 1 := by
  show (zLeave (zEnter σ i) _).1 1 = σ.1 1
  rw [k_leave]
  rfl
theorem k_pay {σ : gh_S} {i : Nat} : (zPay σ i).2.1 1 = σ.1 1 := by
  unfold zPay
  split
  · rfl
  · split
    · rfl
    · rfl
theorem k_pass {σ : gh_S} {i : Nat} : (zPass σ i).2.1 1 = σ.1 1 := k_pay.trans k_in
theorem k_pop {σ : gh_S} : (zPop σ).1 1 = σ.1 1 := k_leave
theorem k_pops : ∀ (k : Nat) {σ : gh_S}, (zPops σ k).1 1 = σ.1 1
  | 0, _ => rfl
  | k + 1, _ => (k_pops k).trans k_pop
theorem k_down {o : Nat → Int32} : ∀ (k : Nat) {σ : gh_S}, (zDown o k σ).2.1 1 = σ.1 1
  | 0, _ => rfl
  | k + 1, σ => by
    unfold zDown
    split
    · rfl
    · split
      · exact (k_down k).trans k_pass
      · exact k_pass
theorem k_go {σ : gh_S} {p : Int32} : (zGo σ p).2.1 1 = σ.1 1 := by
  unfold zGo
  split
  · rfl
  · exact k_down _
theorem k_rich {σ : gh_S} {x : Int64} : (zRich σ x).2.1 1 = σ.1 1 := by
  unfold zRich
  split
  · rfl
  · split
    · rfl
    · rfl
theorem k_deed {σ : gh_S} {i : Nat} {x y : Int32} : (zDeed σ i x y).2.1 1 = σ.1 1 := by
  unfold zDeed
  split
  · rfl
  · split
    · split
      · exact k_rich
      · rfl
    · split
      · split
        · rfl
        · rfl
      · split
        · rfl
        · split
          · rfl
          · split
            · exact k_rich
            · rfl
theorem k_wt : ∀ (f : Nat) {σ : gh_S} {p d n : Int32}, (zWT f σ p d n).2.1 1 = σ.1 1
  | 0, _, _, _, _ => rfl
  | f + 1, σ, p, d, n => by
    show (zPops _ _).1 1 = σ.1 1
    rw [k_pops]
    split
    · split
      · exact (k_wt f).trans k_go
      · exact k_deed.trans k_go
    · exact k_go
theorem gKd_of {n : Nat} {σ τ : gh_S} (h : τ.1 1 = σ.1 1) (hk : gKd n σ) : gKd n τ := fun i hi => by rw [h]; exact hk i hi
end
section
set_option maxRecDepth 100000 in
theorem iX1_leaveMark_1 : ∀ w ∈ wsX10, w ∈ wsX1_leaveMark := by decide +kernel
set_option maxHeartbeats 4000000 in
set_option maxRecDepth 100000 in
theorem c_X1_leaveMark (l : Launch) (D : va_G) (cI cH : ClassId) (g : Nat) (q : Nat → Nat) (ad : Nat → Nat) (pf : Nat → Int32) (n : Nat) (σ : gh_S) (sz : Nat) (x : Int32) (w : Nat) (hg : gI n w σ) : gMv l yX1_leaveMark wsX1_leaveMark ({ frames := 0, cells := 0, slots := 0, locals := 0 }) D (wCn g q cI cH ad pf n σ) (gTy cI cH) sz [.ref g, .int (x)] (fun u => u = wCn g q cI cH ad pf n (zLeave σ x)) := by
  refine gEnter (cc := cX1_leaveMark) (maxL := 2) (ret := none) (QF := fun A => va_Qv _ (gPost D A) A) (by decide) rfl (Nat.le_of_ble_eq_true rfl) ?_
  intro p e s m below meth c A ls hX hr hlk hnm hK hN hA hI hl
  have hx := hX.1
  have hb := hX.2.1
  have hts := hX.2.2.2.2
  have hown : s.vm.findClass RX1 = some m.cls := hX.2.2.2.1
  have hin1 := iX1_leaveMark_1
  have hl : lv_has ls 2 [(0, .ref g), (1, .int (x))] := hl
  have hI : InW D A s.heap (wCr g q cI cH ad pf (gfh ad σ) (gfp ad σ) n σ) s.heap [] := hI
  obtain ⟨hn, hw, ⟨t, ht, htE⟩, hpl, hpar, hrow, hn4, hw30, hz⟩ := id hg
  refine lv_aload_n hx hb dX1_leaveMark_0 rfl (lv_at hl 0 rfl) ?_
  refine cGet (v := .int (σ.2 12)) hX hin1 hK hI 9 (by decide) (hts (.fieldLink RX1 55 "GateHalls" "marksLeft" "I") (by decide +kernel)) rfl dX1_leaveMark_1 ?_
  refine lv_if_lt (tgt := 36) hx hb dX1_leaveMark_4 (by decide) (fun c1 => absurd c1 (by rw [htE]; exact nI_pos (by omega))) (fun c1 => ?_)
  refine lv_aload_n hx hb dX1_leaveMark_7 rfl (lv_at hl 0 rfl) ?_
  refine cGet (v := .int (σ.2 12)) hX hin1 hK hI 9 (by decide) (hts (.fieldLink RX1 55 "GateHalls" "marksLeft" "I") (by decide +kernel)) rfl dX1_leaveMark_8 ?_
  refine lv_bipush (v := 100) hx hb dX1_leaveMark_11 (by decide) ?_
  refine lv_icmp_ge (tgt := 36) hx hb dX1_leaveMark_13 (by decide) (fun c2 => ?_) (fun c2 => ?_)
  · exact gVret hX hr hlk hI (by rw [zLeave, if_pos c2]) dX1_leaveMark_36
  · have ht' := g_lt100 htE ht c2
    refine lv_aload_n hx hb dX1_leaveMark_16 rfl (lv_at hl 0 rfl) ?_
    refine cGet (v := .ref (q 8)) hX hin1 hK hI 8 (by decide) (hts (.fieldLink RX1 25 "GateHalls" "marks" "[I") (by decide +kernel)) rfl dX1_leaveMark_17 ?_
    refine lv_aload_n hx hb dX1_leaveMark_20 rfl (lv_at hl 0 rfl) ?_
    refine cGet (v := .int (σ.2 12)) hX hin1 hK hI 9 (by decide) (hts (.fieldLink RX1 55 "GateHalls" "marksLeft" "I") (by decide +kernel)) rfl dX1_leaveMark_21 ?_
    refine lv_iload_n hx hb dX1_leaveMark_24 rfl (lv_at hl 1 rfl) ?_
    refine gAst (j := t) (w' := wCr g q cI cH ad pf (gfh ad σ) (gfp ad σ) n (uA σ 13 (t) (x))) hX hK hI 5 0 rfl rfl htE (by omega) (by decide) rfl dX1_leaveMark_25 (fun H locs hI => ?_)
    refine lv_aload_n hx hb dX1_leaveMark_26 rfl (lv_at hl 0 rfl) ?_
    refine lv_dup hx hb dX1_leaveMark_27 rfl ?_
    refine cGet (v := .int (σ.2 12)) hX hin1 hK hI 9 (by decide) (hts (.fieldLink RX1 55 "GateHalls" "marksLeft" "I") (by decide +kernel)) rfl dX1_leaveMark_28 ?_
    refine lv_iconst (v := 1) hx hb dX1_leaveMark_31 (by decide) ?_
    refine lv_iadd hx hb dX1_leaveMark_32 ?_
    refine cPut (σ' := (uS (uA σ 13 (t) (x)) 12 ((σ.2 12) + (1)))) hX hin1 hK hI 9 (by decide) (hts (.fieldLink RX1 55 "GateHalls" "marksLeft" "I") (by decide +kernel)) rfl rfl rfl dX1_leaveMark_33 (fun H locs hI => ?_)
    exact gVret hX hr hlk hI (by rw [zLeave, if_neg c2, htE, nI_clamp (by omega)]; rfl) dX1_leaveMark_36
set_option maxRecDepth 100000 in
theorem iX1_addToPurse_1 : ∀ w ∈ wsX10, w ∈ wsX1_addToPurse := by decide +kernel
set_option maxHeartbeats 4000000 in
set_option maxRecDepth 100000 in
theorem c_X1_addToPurse (l : Launch) (D : va_G) (cI cH : ClassId) (g : Nat) (q : Nat → Nat) (ad : Nat → Nat) (pf : Nat → Int32) (n : Nat) (σ : gh_S) (sz : Nat) (x : Int32) : gMi l yX1_addToPurse wsX1_addToPurse ({ frames := 0, cells := 0, slots := 0, locals := 0 }) D (wCn g q cI cH ad pf n σ) (gTy cI cH) sz [.ref g, .int (x)] (fun r u => r = (zRich σ x.toInt64).1 ∧ u = wCn g q cI cH ad pf n (zRich σ x.toInt64).2) := by
  refine gEnter (cc := cX1_addToPurse) (maxL := 4) (ret := (some .int)) (QF := fun A => va_Qi _ (gPost D A) A) (by decide) rfl (Nat.le_of_ble_eq_true rfl) ?_
  intro p e s m below meth c A ls hX hr hlk hnm hK hN hA hI hl
  have hx := hX.1
  have hb := hX.2.1
  have hts := hX.2.2.2.2
  have hown : s.vm.findClass RX1 = some m.cls := hX.2.2.2.1
  have hin1 := iX1_addToPurse_1
  have hl : lv_has ls 4 [(0, .ref g), (1, .int (x))] := hl
  have hI : InW D A s.heap (wCr g q cI cH ad pf (gfh ad σ) (gfp ad σ) n σ) s.heap [] := hI
  refine lv_aload_n hx hb dX1_addToPurse_0 rfl (lv_at hl 0 rfl) ?_
  refine cGet (v := .int (σ.2 11)) hX hin1 hK hI 2 (by decide) (hts (.fieldLink RX1 45 "GateHalls" "purse" "I") (by decide +kernel)) rfl dX1_addToPurse_1 ?_
  refine lv_i2l (v := Int32.toInt64 (σ.2 11)) hx hb dX1_addToPurse_4 rfl ?_
  refine lv_iload_n hx hb dX1_addToPurse_5 rfl (lv_at hl 1 rfl) ?_
  refine lv_i2l (v := Int32.toInt64 (x)) hx hb dX1_addToPurse_6 rfl ?_
  refine lv_ladd hx hb dX1_addToPurse_7 ?_
  refine lv_lstore_n (lv' := [(2, .long ((Int32.toInt64 (σ.2 11)) + (Int32.toInt64 (x)))), (0, .ref g), (1, .int (x))]) hx hb dX1_addToPurse_8 rfl hl (by decide) rfl (fun ls hl => ?_)
  refine lv_lload_n hx hb dX1_addToPurse_9 rfl (lv_at hl 0 rfl) ?_
  refine lv_lconst (v := 0) hx hb dX1_addToPurse_10 (by decide) ?_
  refine W.lcmp hx hb dX1_addToPurse_11 ?_
  refine lv_if_lt (tgt := 23) hx hb dX1_addToPurse_12 (by decide) (fun c1 => ?_) (fun c1 => ?_)
  · refine lv_bipush (v := 22) hx hb dX1_addToPurse_23 (by decide) ?_
    exact gIret hX hr hlk hI (by rw [zRich, if_pos c1]; exact ⟨rfl, rfl⟩) dX1_addToPurse_25
  · refine lv_lload_n hx hb dX1_addToPurse_15 rfl (lv_at hl 0 rfl) ?_
    refine lv_ldc2 (v := 1000000) hx hb hown (hts (.constantLong RX1 159 (1000000)) (by decide +kernel)) dX1_addToPurse_16 ?_
    refine W.lcmp hx hb dX1_addToPurse_19 ?_
    refine lv_if_le (tgt := 26) hx hb dX1_addToPurse_20 (by decide) (fun c2 => ?_) (fun c2 => ?_)
    · refine lv_aload_n hx hb dX1_addToPurse_26 rfl (lv_at hl 1 rfl) ?_
      refine lv_lload_n hx hb dX1_addToPurse_27 rfl (lv_at hl 0 rfl) ?_
      refine lv_l2i (v := Int64.toInt32 ((Int32.toInt64 (σ.2 11)) + (Int32.toInt64 (x)))) hx hb dX1_addToPurse_28 rfl ?_
      refine cPut (σ' := (uS σ 11 (Int64.toInt32 ((Int32.toInt64 (σ.2 11)) + (Int32.toInt64 (x)))))) hX hin1 hK hI 2 (by decide) (hts (.fieldLink RX1 45 "GateHalls" "purse" "I") (by decide +kernel)) rfl rfl rfl dX1_addToPurse_29 (fun H locs hI => ?_)
      refine lv_iconst (v := 0) hx hb dX1_addToPurse_32 (by decide) ?_
      exact gIret hX hr hlk hI (by rw [zRich, if_neg c1, if_pos c2]; exact ⟨rfl, rfl⟩) dX1_addToPurse_33
    · refine lv_bipush (v := 22) hx hb dX1_addToPurse_23 (by decide) ?_
      exact gIret hX hr hlk hI (by rw [zRich, if_neg c1, if_neg c2]; exact ⟨rfl, rfl⟩) dX1_addToPurse_25
set_option maxRecDepth 100000 in
theorem iX1_divideGifts_0 : ∀ w ∈ wsX00, w ∈ wsX1_divideGifts := by decide +kernel
set_option maxHeartbeats 4000000 in
set_option maxRecDepth 100000 in
theorem c_X1_divideGifts (l : Launch) (D : va_G) (cI cH : ClassId) (g : Nat) (q : Nat → Nat) (ad : Nat → Nat) (pf : Nat → Int32) (n : Nat) (σ : gh_S) (sz : Nat) (i : Nat) (hi : i < n) (y : Int32) : gMi l yX1_divideGifts wsX1_divideGifts ({ frames := 0, cells := 0, slots := 0, locals := 0 }) D (wCn g q cI cH ad pf n σ) (gTy cI cH) sz [.ref (ad i), .int (y)] (fun r u => r = (if y = 0 then ((6 : Int32), σ) else (0, uA σ 3 i (σ.1 3 i / y))).1 ∧ u = wCn g q cI cH ad pf n (if y = 0 then ((6 : Int32), σ) else (0, uA σ 3 i (σ.1 3 i / y))).2) := by
  refine gEnter (cc := cX1_divideGifts) (maxL := 2) (ret := (some .int)) (QF := fun A => va_Qi _ (gPost D A) A) (by decide) rfl (Nat.le_of_ble_eq_true rfl) ?_
  intro p e s m below meth c A ls hX hr hlk hnm hK hN hA hI hl
  have hx := hX.1
  have hb := hX.2.1
  have hts := hX.2.2.2.2
  have hown : s.vm.findClass RX1 = some m.cls := hX.2.2.2.1
  have hin0 := iX1_divideGifts_0
  have hl : lv_has ls 2 [(0, .ref (ad i)), (1, .int (y))] := hl
  have hI : InW D A s.heap (wCr g q cI cH ad pf (gfh ad σ) (gfp ad σ) n σ) s.heap [] := hI
  refine lv_iload_n hx hb dX1_divideGifts_0 rfl (lv_at hl 1 rfl) ?_
  refine lv_if_ne (tgt := 7) hx hb dX1_divideGifts_1 (by decide) (fun c1 => ?_) (fun c1 => ?_)
  · refine lv_aload_n hx hb dX1_divideGifts_7 rfl (lv_at hl 0 rfl) ?_
    refine lv_dup hx hb dX1_divideGifts_8 rfl ?_
    refine hGet (i := i) (v := .int (σ.1 3 (i))) hX hin0 hK hI hi 3 (by decide) hN.2.1 rfl dX1_divideGifts_9 ?_
    refine lv_iload_n hx hb dX1_divideGifts_12 rfl (lv_at hl 1 rfl) ?_
    refine lv_idiv hx hb dX1_divideGifts_13 c1 ?_
    refine hPut (i := i) hX hin0 hK hI hi 3 (by decide) hN.2.1 rfl rfl gHs3 (by decide) (by decide) dX1_divideGifts_14 (fun H locs hI => ?_)
    refine lv_iconst (v := 0) hx hb dX1_divideGifts_17 (by decide) ?_
    exact gIret hX hr hlk hI (by rw [if_neg c1]; exact ⟨rfl, rfl⟩) dX1_divideGifts_18
  · refine lv_bipush (v := 6) hx hb dX1_divideGifts_4 (by decide) ?_
    exact gIret hX hr hlk hI (by rw [if_pos c1]; exact ⟨rfl, rfl⟩) dX1_divideGifts_6
set_option maxRecDepth 100000 in
theorem iX1_takeGifts_0 : ∀ w ∈ wsX00, w ∈ wsX1_takeGifts := by decide +kernel
set_option maxRecDepth 100000 in
theorem iX1_takeGifts_1 : ∀ w ∈ wsX10, w ∈ wsX1_takeGifts := by decide +kernel
set_option maxHeartbeats 4000000 in
set_option maxRecDepth 100000 in
theorem c_X1_takeGifts (l : Launch) (D : va_G) (cI cH : ClassId) (g : Nat) (q : Nat → Nat) (ad : Nat → Nat) (pf : Nat → Int32) (n : Nat) (σ : gh_S) (sz : Nat) (i : Nat) (hi : i < n) : gMi l yX1_takeGifts wsX1_takeGifts ({ frames := 1, cells := 0, slots := 0, locals := 23 }) D (wCn g q cI cH ad pf n σ) (gTy cI cH) sz [.ref g, .ref (ad i)] (fun r u => r = (if (zRich σ (σ.1 3 i).toInt64).1 = 0 then ((0 : Int32), uA (zRich σ (σ.1 3 i).toInt64).2 3 i 0) else (22, σ)).1 ∧ u = wCn g q cI cH ad pf n (if (zRich σ (σ.1 3 i).toInt64).1 = 0 then ((0 : Int32), uA (zRich σ (σ.1 3 i).toInt64).2 3 i 0) else (22, σ)).2) := by
  refine gEnter (cc := cX1_takeGifts) (maxL := 3) (ret := (some .int)) (QF := fun A => va_Qi _ (gPost D A) A) (by decide) rfl (Nat.le_of_ble_eq_true rfl) ?_
  intro p e s m below meth c A ls hX hr hlk hnm hK hN hA hI hl
  have hx := hX.1
  have hb := hX.2.1
  have hts := hX.2.2.2.2
  have hown : s.vm.findClass RX1 = some m.cls := hX.2.2.2.1
  have hin0 := iX1_takeGifts_0
  have hin1 := iX1_takeGifts_1
  have hl : lv_has ls 3 [(0, .ref g), (1, .ref (ad i))] := hl
  have hI : InW D A s.heap (wCr g q cI cH ad pf (gfh ad σ) (gfp ad σ) n σ) s.heap [] := hI
  refine lv_aload_n hx hb dX1_takeGifts_0 rfl (lv_at hl 0 rfl) ?_
  refine lv_aload_n hx hb dX1_takeGifts_1 rfl (lv_at hl 1 rfl) ?_
  refine hGet (i := i) (v := .int (σ.1 3 (i))) hX hin0 hK hI hi 3 (by decide) hN.2.1 rfl dX1_takeGifts_2 ?_
  have hI : InW D A s.heap (wCn g q cI cH ad pf n σ) s.heap [] := hI
  refine gCalli (va_runV (As := [.int (σ.1 3 (i))]) (rest := []) hX (c_X1_addToPurse l D cI cH g q ad pf n σ _ (σ.1 3 (i))) (cwV 1 hts gX1_takeGifts_X1_addToPurse rfl rfl rfl (by decide +kernel) ⟨Nat.le_of_ble_eq_true rfl, Nat.le_of_ble_eq_true rfl⟩) ⟨gPre_blind, gRecv hI hK (ci := 1) (q0 := 0) rfl rfl, gPre_ok hI hK hN⟩ rfl rfl hl.1 rfl (lv_room (Nat.le_of_ble_eq_true rfl)) dX1_takeGifts_5 ⟨Nat.zero_le _, Nat.zero_le _⟩) hI hA (fun r1 ur1 H locs hr1 hI => ?_)
  obtain ⟨hr1, rfl⟩ := hr1
  refine lv_istore_n (lv' := [(2, .int (r1)), (0, .ref g), (1, .ref (ad i))]) hx hb dX1_takeGifts_8 rfl hl (by decide) rfl (fun ls hl => ?_)
  refine lv_iload_n hx hb dX1_takeGifts_9 rfl (lv_at hl 0 rfl) ?_
  refine lv_if_ne (tgt := 18) hx hb dX1_takeGifts_10 (by decide) (fun c2 => ?_) (fun c2 => ?_)
  · refine lv_iload_n hx hb dX1_takeGifts_18 rfl (lv_at hl 0 rfl) ?_
    exact gIret hX hr hlk hI (by rw [if_neg (by rw [← hr1]; exact c2)]; exact ⟨by rw [hr1, zRich_fail (by rw [← hr1]; exact c2)], by rw [zRich_fail (by rw [← hr1]; exact c2)]⟩) dX1_takeGifts_19
  · refine lv_aload_n hx hb dX1_takeGifts_13 rfl (lv_at hl 2 rfl) ?_
    refine lv_iconst (v := 0) hx hb dX1_takeGifts_14 (by decide) ?_
    refine hPut (i := i) hX hin0 hK hI hi 3 (by decide) hN.2.1 rfl rfl gHs3 (by decide) (by decide) dX1_takeGifts_15 (fun H locs hI => ?_)
    refine lv_iload_n hx hb dX1_takeGifts_18 rfl (lv_at hl 0 rfl) ?_
    exact gIret hX hr hlk hI (by rw [if_pos (by rw [← hr1]; exact c2)]; exact ⟨c2, rfl⟩) dX1_takeGifts_19
set_option maxRecDepth 100000 in
theorem iX1_innermost_1 : ∀ w ∈ wsX10, w ∈ wsX1_innermost := by decide +kernel
set_option maxHeartbeats 4000000 in
set_option maxRecDepth 100000 in
theorem c_X1_innermost (l : Launch) (D : va_G) (cI cH : ClassId) (g : Nat) (q : Nat → Nat) (ad : Nat → Nat) (pf : Nat → Int32) (n : Nat) (σ : gh_S) (sz : Nat) (w i : Nat) (hw1 : 0 < w) (hg : gI n w σ) (hi : i < n) (hiE : σ.1 18 (w - 1) = nI i) : gMq l yX1_innermost wsX1_innermost ({ frames := 0, cells := 0, slots := 0, locals := 0 }) D (wCn g q cI cH ad pf n σ) (gTy cI cH) sz [.ref g] (fun r u => r = some (ad i) ∧ u = wCn g q cI cH ad pf n σ) := by
  refine gEnter (cc := cX1_innermost) (maxL := 1) (ret := (some (.object "GateHalls$Hall"))) (QF := fun A => va_Qq _ (gPost D A) A) (by decide) rfl (Nat.le_of_ble_eq_true rfl) ?_
  intro p e s m below meth c A ls hX hr hlk hnm hK hN hA hI hl
  have hx := hX.1
  have hb := hX.2.1
  have hts := hX.2.2.2.2
  have hown : s.vm.findClass RX1 = some m.cls := hX.2.2.2.1
  have hin1 := iX1_innermost_1
  have hl : lv_has ls 1 [(0, .ref g)] := hl
  have hI : InW D A s.heap (wCr g q cI cH ad pf (gfh ad σ) (gfp ad σ) n σ) s.heap [] := hI
  obtain ⟨hn, hw, ⟨t, ht, htE⟩, hpl, hpar, hrow, hn4, hw30, hz⟩ := id hg
  have e1 : σ.2 17 - 1 = nI (w - 1) := by rw [hw, show w = (w - 1) + 1 by omega]; exact nI_pred _
  refine lv_aload_n hx hb dX1_innermost_0 rfl (lv_at hl 0 rfl) ?_
  refine cGet (v := .int (σ.2 17)) hX hin1 hK hI 6 (by decide) (hts (.fieldLink RX1 96 "GateHalls" "depth" "I") (by decide +kernel)) rfl dX1_innermost_1 ?_
  refine lv_if_le (tgt := 33) hx hb dX1_innermost_4 (by decide) (fun c1 => absurd c1 (by rw [hw]; exact nI_nle (by omega) (by omega))) (fun c1 => ?_)
  refine lv_aload_n hx hb dX1_innermost_7 rfl (lv_at hl 0 rfl) ?_
  refine cGet (v := .int (σ.2 17)) hX hin1 hK hI 6 (by decide) (hts (.fieldLink RX1 96 "GateHalls" "depth" "I") (by decide +kernel)) rfl dX1_innermost_8 ?_
  refine lv_aload_n hx hb dX1_innermost_11 rfl (lv_at hl 0 rfl) ?_
  refine cGet (v := .ref (q 5)) hX hin1 hK hI 5 (by decide) (hts (.fieldLink RX1 22 "GateHalls" "passed" "[LGateHalls$Hall;") (by decide +kernel)) rfl dX1_innermost_12 ?_
  refine gAlen (n := 30) hX hK hI 4 1 rfl rfl rfl dX1_innermost_15 ?_
  refine lv_icmp_gt (tgt := 33) hx hb dX1_innermost_16 (by decide) (fun c2 => absurd c2 (by rw [hw]; exact nI_nlt (by omega) (by omega))) (fun c2 => ?_)
  refine lv_aload_n hx hb dX1_innermost_19 rfl (lv_at hl 0 rfl) ?_
  refine cGet (v := .ref (q 5)) hX hin1 hK hI 5 (by decide) (hts (.fieldLink RX1 22 "GateHalls" "passed" "[LGateHalls$Hall;") (by decide +kernel)) rfl dX1_innermost_20 ?_
  refine lv_aload_n hx hb dX1_innermost_23 rfl (lv_at hl 0 rfl) ?_
  refine cGet (v := .int (σ.2 17)) hX hin1 hK hI 6 (by decide) (hts (.fieldLink RX1 96 "GateHalls" "depth" "I") (by decide +kernel)) rfl dX1_innermost_24 ?_
  refine lv_iconst (v := 1) hx hb dX1_innermost_27 (by decide) ?_
  refine lv_isub hx hb dX1_innermost_28 ?_
  refine gQld (j := w - 1) hX hK hI 4 1 rfl rfl e1 (by omega) (by decide) dX1_innermost_29 ?_
  refine gTopQ (y := some (ad i)) (gfp_at hw (by omega) (by omega) (by omega) hiE) ?_
  refine lv_goto (tgt := 34) hx hb dX1_innermost_30 (by decide) ?_
  exact gQret hX hr hlk hI ⟨rfl, rfl⟩ dX1_innermost_34
set_option maxRecDepth 100000 in
theorem iX1_hallAt_1 : ∀ w ∈ wsX10, w ∈ wsX1_hallAt := by decide +kernel
set_option maxHeartbeats 4000000 in
set_option maxRecDepth 100000 in
theorem c_X1_hallAt (l : Launch) (D : va_G) (cI cH : ClassId) (g : Nat) (q : Nat → Nat) (ad : Nat → Nat) (pf : Nat → Int32) (n : Nat) (σ : gh_S) (sz : Nat) (x : Int32) : gMq l yX1_hallAt wsX1_hallAt ({ frames := 1, cells := 0, slots := 0, locals := 20 }) D (wCn g q cI cH ad pf n σ) (gTy cI cH) sz [.ref g, .int (x)] (fun r u => u = wCn g q cI cH ad pf n σ ∧ ((r = none ∧ (x < 0 ∨ 9 < x)) ∨ (∃ j : Nat, j < 10 ∧ x = nI j ∧ r = gfh ad σ j))) := by
  refine gEnter (cc := cX1_hallAt) (maxL := 2) (ret := (some (.object "GateHalls$Hall"))) (QF := fun A => va_Qq _ (gPost D A) A) (by decide) rfl (Nat.le_of_ble_eq_true rfl) ?_
  intro p e s m below meth c A ls hX hr hlk hnm hK hN hA hI hl
  have hx := hX.1
  have hb := hX.2.1
  have hts := hX.2.2.2.2
  have hown : s.vm.findClass RX1 = some m.cls := hX.2.2.2.1
  have hin1 := iX1_hallAt_1
  have hl : lv_has ls 2 [(0, .ref g), (1, .int (x))] := hl
  have hI : InW D A s.heap (wCr g q cI cH ad pf (gfh ad σ) (gfp ad σ) n σ) s.heap [] := hI
  refine lv_iload_n hx hb dX1_hallAt_0 rfl (lv_at hl 1 rfl) ?_
  refine vp_callSi (W.runS (As := [.int (x)]) (rest := []) hX (c_X1_isPlace l (x)) (va_cwS 1 hts gX1_hallAt_X1_isPlace rfl rfl rfl (by decide +kernel) ⟨Nat.le_of_ble_eq_true rfl, Nat.le_of_ble_eq_true rfl⟩) preEq rfl rfl hl.1 rfl (lv_room (Nat.le_of_ble_eq_true rfl)) dX1_hallAt_1 ⟨Nat.le_of_ble_eq_true rfl, Nat.le_of_ble_eq_true rfl⟩) (fun r1 hr1 => ?_)
  rcases hr1 with ⟨rfl, ha_r1, hb_r1⟩ | ⟨rfl, hc_r1⟩
  · refine lv_if_eq (tgt := 16) hx hb dX1_hallAt_4 (by decide) (fun c2 => False.elim (by revert c2; decide)) (fun c2 => ?_)
    obtain ⟨j, hj, hjE, hjC⟩ := g_pl ha_r1 hb_r1
    refine lv_aload_n hx hb dX1_hallAt_7 rfl (lv_at hl 0 rfl) ?_
    refine cGet (v := .ref (q 0)) hX hin1 hK hI 0 (by decide) (hts (.fieldLink RX1 11 "GateHalls" "halls" "[LGateHalls$Hall;") (by decide +kernel)) rfl dX1_hallAt_8 ?_
    refine lv_iload_n hx hb dX1_hallAt_11 rfl (lv_at hl 1 rfl) ?_
    refine gQld (j := j) hX hK hI 1 1 rfl rfl hjE (by omega) (by decide) dX1_hallAt_12 ?_
    refine lv_goto (tgt := 17) hx hb dX1_hallAt_13 (by decide) ?_
    exact gQret hX hr hlk hI ⟨rfl, Or.inr ⟨j, hj, hjE, rfl⟩⟩ dX1_hallAt_17
  · refine lv_if_eq (tgt := 16) hx hb dX1_hallAt_4 (by decide) (fun c3 => ?_) (fun c3 => False.elim (by revert c3; decide))
    refine lv_null hx hb dX1_hallAt_16 ?_
    exact gQret (r := none) hX hr hlk hI ⟨rfl, Or.inl ⟨rfl, hc_r1⟩⟩ dX1_hallAt_17
set_option maxRecDepth 100000 in
theorem iX1_gifts_0 : ∀ w ∈ wsX00, w ∈ wsX1_gifts := by decide +kernel
set_option maxRecDepth 100000 in
theorem iX1_gifts_1 : ∀ w ∈ wsX10, w ∈ wsX1_gifts := by decide +kernel
set_option maxHeartbeats 4000000 in
set_option maxRecDepth 100000 in
theorem c_X1_gifts (l : Launch) (D : va_G) (cI cH : ClassId) (g : Nat) (q : Nat → Nat) (ad : Nat → Nat) (pf : Nat → Int32) (n : Nat) (σ : gh_S) (sz : Nat) (x : Int32) (w : Nat) (hg : gI n w σ) : gMi l yX1_gifts wsX1_gifts ({ frames := 2, cells := 0, slots := 0, locals := 41 }) D (wCn g q cI cH ad pf n σ) (gTy cI cH) sz [.ref g, .int (x)] (fun r u => r = sGifts σ x ∧ u = wCn g q cI cH ad pf n σ) := by
  refine gEnter (cc := cX1_gifts) (maxL := 3) (ret := (some .int)) (QF := fun A => va_Qi _ (gPost D A) A) (by decide) rfl (Nat.le_of_ble_eq_true rfl) ?_
  intro p e s m below meth c A ls hX hr hlk hnm hK hN hA hI hl
  have hx := hX.1
  have hb := hX.2.1
  have hts := hX.2.2.2.2
  have hown : s.vm.findClass RX1 = some m.cls := hX.2.2.2.1
  have hin0 := iX1_gifts_0
  have hin1 := iX1_gifts_1
  have hl : lv_has ls 3 [(0, .ref g), (1, .int (x))] := hl
  have hI : InW D A s.heap (wCr g q cI cH ad pf (gfh ad σ) (gfp ad σ) n σ) s.heap [] := hI
  obtain ⟨hn, hw, ⟨t, ht, htE⟩, hpl, hpar, hrow, hn4, hw30, hz⟩ := id hg
  refine lv_aload_n hx hb dX1_gifts_0 rfl (lv_at hl 0 rfl) ?_
  refine lv_iload_n hx hb dX1_gifts_1 rfl (lv_at hl 1 rfl) ?_
  have hI : InW D A s.heap (wCn g q cI cH ad pf n σ) s.heap [] := hI
  refine gCallq (va_runV (As := [.int (x)]) (rest := []) hX (c_X1_hallAt l D cI cH g q ad pf n σ _ (x)) (cwV 1 hts gX1_gifts_X1_hallAt rfl rfl rfl (by decide +kernel) ⟨Nat.le_of_ble_eq_true rfl, Nat.le_of_ble_eq_true rfl⟩) ⟨gPre_blind, gRecv hI hK (ci := 1) (q0 := 0) rfl rfl, gPre_ok hI hK hN⟩ rfl rfl hl.1 rfl (lv_room (Nat.le_of_ble_eq_true rfl)) dX1_gifts_2 ⟨Nat.zero_le _, Nat.zero_le _⟩) hI hA (fun r1 ur1 H locs hr1 hI => ?_)
  obtain ⟨rfl, hr1⟩ := hr1
  rcases hr1 with ⟨rfl, hbad⟩ | ⟨j, hj, hjE, hr1E⟩
  · refine gTopN ?_
    refine lv_astore_nN (lv' := [(2, .null), (0, .ref g), (1, .int (x))]) hx hb dX1_gifts_5 rfl hl (by decide) rfl (fun ls hl => ?_)
    refine lv_aload_nN hx hb dX1_gifts_6 rfl (lv_at hl 0 rfl) ?_
    refine lv_ifnonnullN hx hb dX1_gifts_7 ?_
    refine lv_iconst (v := 0) hx hb dX1_gifts_10 (by decide) ?_
    refine lv_goto (tgt := 18) hx hb dX1_gifts_11 (by decide) ?_
    exact gIret hX hr hlk hI ⟨by rw [sGifts, if_pos hbad], rfl⟩ dX1_gifts_18
  · have hjC : (x).toNatClampNeg = j := by rw [hjE]; exact nI_clamp (by omega)
    by_cases hno : σ.1 9 j = -1
    · refine gTopQ (y := none) (hr1E.trans (gfh_no hno)) ?_
      refine gTopN ?_
      refine lv_astore_nN (lv' := [(2, .null), (0, .ref g), (1, .int (x))]) hx hb dX1_gifts_5 rfl hl (by decide) rfl (fun ls hl => ?_)
      refine lv_aload_nN hx hb dX1_gifts_6 rfl (lv_at hl 0 rfl) ?_
      refine lv_ifnonnullN hx hb dX1_gifts_7 ?_
      refine lv_iconst (v := 0) hx hb dX1_gifts_10 (by decide) ?_
      refine lv_goto (tgt := 18) hx hb dX1_gifts_11 (by decide) ?_
      exact gIret hX hr hlk hI ⟨by rw [sGifts, if_neg (fun h => by rw [hjE] at h; exact h.elim (nI_pos (by omega)) (fun h => absurd h (by rw [show (9 : Int32) = nI 9 from rfl]; exact nI_nlt (by omega) (by omega)))), hjC, if_pos hno], rfl⟩ dX1_gifts_18
    · obtain ⟨i, hi, hiE⟩ := (hpl j hj).resolve_left hno
      have hiC : (σ.1 9 j).toNatClampNeg = i := by rw [hiE]; exact nI_clamp (by omega)
      refine gTopQ (y := some (ad i)) (hr1E.trans (gfh_at hj (by omega) hiE)) ?_
      refine gTopR ?_
      refine lv_astore_n (lv' := [(2, .ref (ad i)), (0, .ref g), (1, .int (x))]) hx hb dX1_gifts_5 rfl hl (by decide) rfl (fun ls hl => ?_)
      refine lv_aload_n hx hb dX1_gifts_6 rfl (lv_at hl 0 rfl) ?_
      refine lv_ifnonnull (tgt := 14) hx hb dX1_gifts_7 (by decide) ?_
      refine lv_aload_n hx hb dX1_gifts_14 rfl (lv_at hl 0 rfl) ?_
      refine hGet (i := i) (v := .int (σ.1 3 (i))) hX hin0 hK hI hi 3 (by decide) hN.2.1 rfl dX1_gifts_15 ?_
      exact gIret hX hr hlk hI ⟨by rw [sGifts, if_neg (fun h => by rw [hjE] at h; exact h.elim (nI_pos (by omega)) (fun h => absurd h (by rw [show (9 : Int32) = nI 9 from rfl]; exact nI_nlt (by omega) (by omega)))), hjC, if_neg hno, hiC], rfl⟩ dX1_gifts_18
set_option maxRecDepth 100000 in
theorem iX1_told_0 : ∀ w ∈ wsX00, w ∈ wsX1_told := by decide +kernel
set_option maxRecDepth 100000 in
theorem iX1_told_1 : ∀ w ∈ wsX10, w ∈ wsX1_told := by decide +kernel
set_option maxHeartbeats 4000000 in
set_option maxRecDepth 100000 in
theorem c_X1_told (l : Launch) (D : va_G) (cI cH : ClassId) (g : Nat) (q : Nat → Nat) (ad : Nat → Nat) (pf : Nat → Int32) (n : Nat) (σ : gh_S) (sz : Nat) (x y : Int32) (w : Nat) (hg : gI n w σ) : gMi l yX1_told wsX1_told ({ frames := 2, cells := 0, slots := 0, locals := 41 }) D (wCn g q cI cH ad pf n σ) (gTy cI cH) sz [.ref g, .int (x), .int (y)] (fun r u => r = sTold σ x y ∧ u = wCn g q cI cH ad pf n σ) := by
  refine gEnter (cc := cX1_told) (maxL := 4) (ret := (some .int)) (QF := fun A => va_Qi _ (gPost D A) A) (by decide) rfl (Nat.le_of_ble_eq_true rfl) ?_
  intro p e s m below meth c A ls hX hr hlk hnm hK hN hA hI hl
  have hx := hX.1
  have hb := hX.2.1
  have hts := hX.2.2.2.2
  have hown : s.vm.findClass RX1 = some m.cls := hX.2.2.2.1
  have hin0 := iX1_told_0
  have hin1 := iX1_told_1
  have hl : lv_has ls 4 [(0, .ref g), (1, .int (x)), (2, .int (y))] := hl
  have hI : InW D A s.heap (wCr g q cI cH ad pf (gfh ad σ) (gfp ad σ) n σ) s.heap [] := hI
  obtain ⟨hn, hw, ⟨t, ht, htE⟩, hpl, hpar, hrow, hn4, hw30, hz⟩ := id hg
  refine lv_aload_n hx hb dX1_told_0 rfl (lv_at hl 0 rfl) ?_
  refine lv_iload_n hx hb dX1_told_1 rfl (lv_at hl 1 rfl) ?_
  have hI : InW D A s.heap (wCn g q cI cH ad pf n σ) s.heap [] := hI
  refine gCallq (va_runV (As := [.int (x)]) (rest := []) hX (c_X1_hallAt l D cI cH g q ad pf n σ _ (x)) (cwV 1 hts gX1_told_X1_hallAt rfl rfl rfl (by decide +kernel) ⟨Nat.le_of_ble_eq_true rfl, Nat.le_of_ble_eq_true rfl⟩) ⟨gPre_blind, gRecv hI hK (ci := 1) (q0 := 0) rfl rfl, gPre_ok hI hK hN⟩ rfl rfl hl.1 rfl (lv_room (Nat.le_of_ble_eq_true rfl)) dX1_told_2 ⟨Nat.zero_le _, Nat.zero_le _⟩) hI hA (fun r1 ur1 H locs hr1 hI => ?_)
  obtain ⟨rfl, hr1⟩ := hr1
  rcases hr1 with ⟨rfl, hbad⟩ | ⟨j, hj, hjE, hr1E⟩
  · refine gTopN ?_
    refine lv_astore_nN (lv' := [(3, .null), (0, .ref g), (1, .int (x)), (2, .int (y))]) hx hb dX1_told_5 rfl hl (by decide) rfl (fun ls hl => ?_)
    refine lv_aload_nN hx hb dX1_told_6 rfl (lv_at hl 0 rfl) ?_
    refine lv_ifnonnullN hx hb dX1_told_7 ?_
    refine lv_iconst (v := (-1)) hx hb dX1_told_10 (by decide) ?_
    refine lv_goto (tgt := 19) hx hb dX1_told_11 (by decide) ?_
    exact gIret hX hr hlk hI ⟨by rw [sTold, if_pos hbad], rfl⟩ dX1_told_19
  · have hjC : (x).toNatClampNeg = j := by rw [hjE]; exact nI_clamp (by omega)
    by_cases hno : σ.1 9 j = -1
    · refine gTopQ (y := none) (hr1E.trans (gfh_no hno)) ?_
      refine gTopN ?_
      refine lv_astore_nN (lv' := [(3, .null), (0, .ref g), (1, .int (x)), (2, .int (y))]) hx hb dX1_told_5 rfl hl (by decide) rfl (fun ls hl => ?_)
      refine lv_aload_nN hx hb dX1_told_6 rfl (lv_at hl 0 rfl) ?_
      refine lv_ifnonnullN hx hb dX1_told_7 ?_
      refine lv_iconst (v := (-1)) hx hb dX1_told_10 (by decide) ?_
      refine lv_goto (tgt := 19) hx hb dX1_told_11 (by decide) ?_
      exact gIret hX hr hlk hI ⟨by rw [sTold, if_neg (fun h => by rw [hjE] at h; exact h.elim (nI_pos (by omega)) (fun h => absurd h (by rw [show (9 : Int32) = nI 9 from rfl]; exact nI_nlt (by omega) (by omega)))), hjC, if_pos hno], rfl⟩ dX1_told_19
    · obtain ⟨i, hi, hiE⟩ := (hpl j hj).resolve_left hno
      have hiC : (σ.1 9 j).toNatClampNeg = i := by rw [hiE]; exact nI_clamp (by omega)
      refine gTopQ (y := some (ad i)) (hr1E.trans (gfh_at hj (by omega) hiE)) ?_
      refine gTopR ?_
      refine lv_astore_n (lv' := [(3, .ref (ad i)), (0, .ref g), (1, .int (x)), (2, .int (y))]) hx hb dX1_told_5 rfl hl (by decide) rfl (fun ls hl => ?_)
      refine lv_aload_n hx hb dX1_told_6 rfl (lv_at hl 0 rfl) ?_
      refine lv_ifnonnull (tgt := 14) hx hb dX1_told_7 (by decide) ?_
      refine lv_aload_n hx hb dX1_told_14 rfl (lv_at hl 0 rfl) ?_
      refine lv_iload_n hx hb dX1_told_15 rfl (lv_at hl 3 rfl) ?_
      have hI : InW D A s.heap (wCn g q cI cH ad pf n σ) H locs := hI
      refine gCalli (va_runVN (As := [.int (y)]) (rest := []) hX (c_X0_fact l D cI cH (wCn g q cI cH ad pf n σ) (ad i) (6 + i) (nI i) (σ.1 1 i) (σ.1 2 i) (σ.1 3 i) (σ.1 4 i) (σ.1 5 i) (σ.1 6 i) (σ.1 7 i) (σ.1 8 i) H.size (y) (wCr_hall hi)) ⟨va_cnB 1 hts gX1_told_X0_fact_n79 rfl rfl rfl hN.2.2.2.2.2.2.2.2.2 (hts (.initialized RX0) (by decide +kernel)) (by decide +kernel) ⟨Nat.le_of_ble_eq_true rfl, Nat.le_of_ble_eq_true rfl⟩, hts (.instanceMethod yX0_fact) (by decide +kernel), hts (.selects RX0 yX0_fact yX0_fact) (by decide +kernel)⟩ ⟨gPre_blind, gRecv hI hK (ci := 0) (q0 := 6 + i) rfl (wCr_hall hi), gPre_ok hI hK hN⟩ rfl rfl hl.1 rfl (lv_room (Nat.le_of_ble_eq_true rfl)) dX1_told_16 ⟨Nat.zero_le _, Nat.zero_le _⟩) hI hA (fun r2 ur2 H locs hr2 hI => ?_)
      obtain ⟨hr2, rfl⟩ := hr2
      exact gIret hX hr hlk hI ⟨by rw [sTold, if_neg (fun h => by rw [hjE] at h; exact h.elim (nI_pos (by omega)) (fun h => absurd h (by rw [show (9 : Int32) = nI 9 from rfl]; exact nI_nlt (by omega) (by omega)))), hjC, if_neg hno, hiC]; exact hr2, rfl⟩ dX1_told_19
set_option maxRecDepth 100000 in
theorem iX1_trace_1 : ∀ w ∈ wsX10, w ∈ wsX1_trace := by decide +kernel
set_option maxHeartbeats 4000000 in
set_option maxRecDepth 100000 in
theorem c_X1_trace (l : Launch) (D : va_G) (cI cH : ClassId) (g : Nat) (q : Nat → Nat) (ad : Nat → Nat) (pf : Nat → Int32) (n : Nat) (σ : gh_S) (sz : Nat) (x : Int32) (w : Nat) (hg : gI n w σ) : gMi l yX1_trace wsX1_trace ({ frames := 0, cells := 0, slots := 0, locals := 0 }) D (wCn g q cI cH ad pf n σ) (gTy cI cH) sz [.ref g, .int (x)] (fun r u => r = sTrace σ x ∧ u = wCn g q cI cH ad pf n σ) := by
  refine gEnter (cc := cX1_trace) (maxL := 2) (ret := (some .int)) (QF := fun A => va_Qi _ (gPost D A) A) (by decide) rfl (Nat.le_of_ble_eq_true rfl) ?_
  intro p e s m below meth c A ls hX hr hlk hnm hK hN hA hI hl
  have hx := hX.1
  have hb := hX.2.1
  have hts := hX.2.2.2.2
  have hown : s.vm.findClass RX1 = some m.cls := hX.2.2.2.1
  have hin1 := iX1_trace_1
  have hl : lv_has ls 2 [(0, .ref g), (1, .int (x))] := hl
  have hI : InW D A s.heap (wCr g q cI cH ad pf (gfh ad σ) (gfp ad σ) n σ) s.heap [] := hI
  obtain ⟨hn, hw, ⟨t, ht, htE⟩, hpl, hpar, hrow, hn4, hw30, hz⟩ := id hg
  refine lv_iload_n hx hb dX1_trace_0 rfl (lv_at hl 1 rfl) ?_
  refine lv_iconst (v := (-1)) hx hb dX1_trace_1 (by decide) ?_
  refine lv_icmp_ne (tgt := 10) hx hb dX1_trace_2 (by decide) (fun c1 => ?_) (fun c1 => ?_)
  · refine lv_iload_n hx hb dX1_trace_10 rfl (lv_at hl 1 rfl) ?_
    refine lv_if_lt (tgt := 37) hx hb dX1_trace_11 (by decide) (fun c2 => ?_) (fun c2 => ?_)
    · refine lv_iconst (v := (-1)) hx hb dX1_trace_37 (by decide) ?_
      exact gIret hX hr hlk hI ⟨by rw [sTrace, if_neg c1, if_pos (Or.inl c2)], rfl⟩ dX1_trace_38
    · refine lv_iload_n hx hb dX1_trace_14 rfl (lv_at hl 1 rfl) ?_
      refine lv_aload_n hx hb dX1_trace_15 rfl (lv_at hl 0 rfl) ?_
      refine cGet (v := .int (σ.2 12)) hX hin1 hK hI 9 (by decide) (hts (.fieldLink RX1 55 "GateHalls" "marksLeft" "I") (by decide +kernel)) rfl dX1_trace_16 ?_
      refine lv_icmp_ge (tgt := 37) hx hb dX1_trace_19 (by decide) (fun c3 => ?_) (fun c3 => ?_)
      · refine lv_iconst (v := (-1)) hx hb dX1_trace_37 (by decide) ?_
        exact gIret hX hr hlk hI ⟨by rw [sTrace, if_neg c1, if_pos (Or.inr c3)], rfl⟩ dX1_trace_38
      · refine lv_iload_n hx hb dX1_trace_22 rfl (lv_at hl 1 rfl) ?_
        refine lv_bipush (v := 100) hx hb dX1_trace_23 (by decide) ?_
        obtain ⟨k, hk, hkE, hkC⟩ := g_tin htE ht c2 c3
        refine lv_icmp_ge (tgt := 37) hx hb dX1_trace_25 (by decide) (fun c4 => absurd c4 (by rw [hkE]; exact g_nle (B := 100) rfl (by omega) (by decide))) (fun c4 => ?_)
        refine lv_aload_n hx hb dX1_trace_28 rfl (lv_at hl 0 rfl) ?_
        refine cGet (v := .ref (q 8)) hX hin1 hK hI 8 (by decide) (hts (.fieldLink RX1 25 "GateHalls" "marks" "[I") (by decide +kernel)) rfl dX1_trace_29 ?_
        refine lv_iload_n hx hb dX1_trace_32 rfl (lv_at hl 1 rfl) ?_
        refine gAld (j := k) hX hK hI 5 0 rfl rfl hkE (by omega) (by decide) dX1_trace_33 ?_
        refine lv_goto (tgt := 38) hx hb dX1_trace_34 (by decide) ?_
        exact gIret hX hr hlk hI ⟨by rw [sTrace, if_neg c1, if_neg (fun z => z.elim c2 c3), hkC], rfl⟩ dX1_trace_38
  · refine lv_aload_n hx hb dX1_trace_5 rfl (lv_at hl 0 rfl) ?_
    refine cGet (v := .int (σ.2 12)) hX hin1 hK hI 9 (by decide) (hts (.fieldLink RX1 55 "GateHalls" "marksLeft" "I") (by decide +kernel)) rfl dX1_trace_6 ?_
    exact gIret hX hr hlk hI ⟨by rw [sTrace, if_pos c1], rfl⟩ dX1_trace_9
theorem zMin_eq {x : Int32} : (if (1000000 : Int32) < x then 1000000 else x) = zMin x := by
  unfold zMin
  by_cases c : x ≤ 1000000
  · rw [if_pos c, if_neg]
    rw [Int32.lt_iff_toInt_lt]
    rw [Int32.le_iff_toInt_le] at c
    omega
  · rw [if_neg c, if_pos]
    rw [Int32.lt_iff_toInt_lt]
    rw [Int32.le_iff_toInt_le] at c
    omega
theorem sFill_ok {σ : gh_S} {x : Int32} (h1 : ¬ x < 0) (h2 : ¬ 1000 < x) : sFill σ x = (zMin (σ.2 11 + x), uS σ 11 (zMin (σ.2 11 + x))) := by
  unfold sFill
  rw [if_neg (fun h => h.elim h1 h2)]
theorem g_nlt_of_le {x y : Int32} (h : x ≤ y) : ¬ y < x := by
  rw [Int32.lt_iff_toInt_lt]; rw [Int32.le_iff_toInt_le] at h; omega
theorem g_lt_of_nle {x y : Int32} (h : ¬ x ≤ y) : y < x := by
  rw [Int32.lt_iff_toInt_lt]; rw [Int32.le_iff_toInt_le] at h; omega
set_option maxRecDepth 100000 in
theorem iX1_fill_1 : ∀ w ∈ wsX10, w ∈ wsX1_fill := by decide +kernel
set_option maxHeartbeats 4000000 in
set_option maxRecDepth 100000 in
theorem c_X1_fill (l : Launch) (D : va_G) (cI cH : ClassId) (g : Nat) (q : Nat → Nat) (ad : Nat → Nat) (pf : Nat → Int32) (n : Nat) (σ : gh_S) (sz : Nat) (x : Int32) : gMi l yX1_fill wsX1_fill ({ frames := 1, cells := 0, slots := 0, locals := 24 }) D (wCn g q cI cH ad pf n σ) (gTy cI cH) sz [.ref g, .int (x)] (fun r u => r = (sFill σ x).1 ∧ u = wCn g q cI cH ad pf n (sFill σ x).2) := by
  refine gEnter (cc := cX1_fill) (maxL := 2) (ret := (some .int)) (QF := fun A => va_Qi _ (gPost D A) A) (by decide) rfl (Nat.le_of_ble_eq_true rfl) ?_
  intro p e s m below meth c A ls hX hr hlk hnm hK hN hA hI hl
  have hx := hX.1
  have hb := hX.2.1
  have hts := hX.2.2.2.2
  have hown : s.vm.findClass RX1 = some m.cls := hX.2.2.2.1
  have hin1 := iX1_fill_1
  have hl : lv_has ls 2 [(0, .ref g), (1, .int (x))] := hl
  have hI : InW D A s.heap (wCr g q cI cH ad pf (gfh ad σ) (gfp ad σ) n σ) s.heap [] := hI
  refine lv_iload_n hx hb dX1_fill_0 rfl (lv_at hl 1 rfl) ?_
  refine lv_if_lt (tgt := 11) hx hb dX1_fill_1 (by decide) (fun c1 => ?_) (fun c1 => ?_)
  · refine lv_iconst (v := (-1)) hx hb dX1_fill_11 (by decide) ?_
    exact gIret hX hr hlk hI (by rw [sFill, if_pos (Or.inl c1)]; exact ⟨rfl, rfl⟩) dX1_fill_12
  · refine lv_iload_n hx hb dX1_fill_4 rfl (lv_at hl 1 rfl) ?_
    refine lv_sipush (v := 1000) hx hb dX1_fill_5 (by decide) ?_
    refine lv_icmp_le (tgt := 13) hx hb dX1_fill_8 (by decide) (fun c2 => ?_) (fun c2 => ?_)
    · refine lv_aload_n hx hb dX1_fill_13 rfl (lv_at hl 0 rfl) ?_
      refine lv_aload_n hx hb dX1_fill_14 rfl (lv_at hl 0 rfl) ?_
      refine cGet (v := .int (σ.2 11)) hX hin1 hK hI 2 (by decide) (hts (.fieldLink RX1 45 "GateHalls" "purse" "I") (by decide +kernel)) rfl dX1_fill_15 ?_
      refine lv_iload_n hx hb dX1_fill_18 rfl (lv_at hl 1 rfl) ?_
      refine lv_iadd hx hb dX1_fill_19 ?_
      refine lv_ldc (v := 1000000) hx hb hown (hts (.constant RX1 48 (1000000)) (by decide +kernel)) dX1_fill_20 ?_
      refine va_mmin hx hb (hX.2.2.1.trans hl.1.symm) hown (hts (.methodLink RX1 49 Lib.Math.min.name) (by decide +kernel)) (hts (.static Lib.Math.min.name) (by decide +kernel)) (hts (.initialized "java/lang/Math") (by decide +kernel)) (hts (.code Lib.Math.min.name Lib.Math.min.code 2 (some .int)) (by decide +kernel)) (Nat.le_of_ble_eq_true rfl) (Nat.le_of_ble_eq_true rfl) (Nat.le_of_ble_eq_true rfl) (Nat.le_of_ble_eq_true rfl) dX1_fill_22 ?_
      refine cPut (σ' := (uS σ 11 (if (1000000) < ((σ.2 11) + (x)) then (1000000) else ((σ.2 11) + (x))))) hX hin1 hK hI 2 (by decide) (hts (.fieldLink RX1 45 "GateHalls" "purse" "I") (by decide +kernel)) rfl rfl rfl dX1_fill_25 (fun H locs hI => ?_)
      refine lv_aload_n hx hb dX1_fill_28 rfl (lv_at hl 0 rfl) ?_
      refine cGet (v := .int (if (1000000) < ((σ.2 11) + (x)) then (1000000) else ((σ.2 11) + (x)))) hX hin1 hK hI 2 (by decide) (hts (.fieldLink RX1 45 "GateHalls" "purse" "I") (by decide +kernel)) rfl dX1_fill_29 ?_
      exact gIret hX hr hlk hI (by rw [sFill_ok c1 (g_nlt_of_le c2), ← zMin_eq]; exact ⟨rfl, rfl⟩) dX1_fill_32
    · refine lv_iconst (v := (-1)) hx hb dX1_fill_11 (by decide) ?_
      exact gIret hX hr hlk hI (by rw [sFill, if_pos (Or.inr (g_lt_of_nle c2))]; exact ⟨rfl, rfl⟩) dX1_fill_12
theorem g_m1a {x : Int32} (h : x < 0) (h2 : ¬ x = -1) : x < -1 := by
  rw [Int32.lt_iff_toInt_lt] at h ⊢
  have h1 : (-1 : Int32).toInt = -1 := by decide
  have h0 : (0 : Int32).toInt = 0 := by decide
  rw [h0] at h
  rw [h1]
  have : x.toInt ≠ -1 := fun e => h2 (Int32.toInt_inj.mp (e.trans h1.symm))
  omega
theorem g_m1b {x : Int32} (h : ¬ x < 0) : ¬ x < -1 := by
  rw [Int32.lt_iff_toInt_lt] at h ⊢
  have h1 : (-1 : Int32).toInt = -1 := by decide
  have h0 : (0 : Int32).toInt = 0 := by decide
  rw [h0] at h
  rw [h1]
  omega
set_option maxRecDepth 100000 in
theorem iX1_parent_1 : ∀ w ∈ wsX10, w ∈ wsX1_parent := by decide +kernel
set_option maxHeartbeats 4000000 in
set_option maxRecDepth 100000 in
theorem c_X1_parent (l : Launch) (D : va_G) (cI cH : ClassId) (g : Nat) (q : Nat → Nat) (ad : Nat → Nat) (pf : Nat → Int32) (n : Nat) (σ : gh_S) (sz : Nat) (x o : Int32) : gMi l yX1_parent wsX1_parent ({ frames := 1, cells := 0, slots := 0, locals := 20 }) D (wCn g q cI cH ad pf n σ) (gTy cI cH) sz [.ref g, .int (x), .int (o)] (fun r u => r = (sParent σ x o).1 ∧ u = wCn g q cI cH ad pf n (sParent σ x o).2) := by
  refine gEnter (cc := cX1_parent) (maxL := 4) (ret := (some .int)) (QF := fun A => va_Qi _ (gPost D A) A) (by decide) rfl (Nat.le_of_ble_eq_true rfl) ?_
  intro p e s m below meth c A ls hX hr hlk hnm hK hN hA hI hl
  have hx := hX.1
  have hb := hX.2.1
  have hts := hX.2.2.2.2
  have hown : s.vm.findClass RX1 = some m.cls := hX.2.2.2.1
  have hin1 := iX1_parent_1
  have hl : lv_has ls 4 [(0, .ref g), (1, .int (x)), (2, .int (o))] := hl
  have hI : InW D A s.heap (wCr g q cI cH ad pf (gfh ad σ) (gfp ad σ) n σ) s.heap [] := hI
  refine lv_iload_n hx hb dX1_parent_0 rfl (lv_at hl 1 rfl) ?_
  refine vp_callSi (W.runS (As := [.int (x)]) (rest := []) hX (c_X1_isPlace l (x)) (va_cwS 1 hts gX1_parent_X1_isPlace rfl rfl rfl (by decide +kernel) ⟨Nat.le_of_ble_eq_true rfl, Nat.le_of_ble_eq_true rfl⟩) preEq rfl rfl hl.1 rfl (lv_room (Nat.le_of_ble_eq_true rfl)) dX1_parent_1 ⟨Nat.le_of_ble_eq_true rfl, Nat.le_of_ble_eq_true rfl⟩) (fun r1 hr1 => ?_)
  rcases hr1 with ⟨rfl, ha_r1, hb_r1⟩ | ⟨rfl, hc_r1⟩
  · refine lv_if_eq (tgt := 19) hx hb dX1_parent_4 (by decide) (fun c2 => False.elim (by revert c2; decide)) (fun c2 => ?_)
    refine lv_iload_n hx hb dX1_parent_7 rfl (lv_at hl 2 rfl) ?_
    refine lv_iconst (v := (-1)) hx hb dX1_parent_8 (by decide) ?_
    refine lv_icmp_eq (tgt := 22) hx hb dX1_parent_9 (by decide) (fun c3 => ?_) (fun c3 => ?_)
    · obtain ⟨j, hj, hjE, hjC⟩ := g_pl ha_r1 hb_r1
      refine lv_aload_n hx hb dX1_parent_22 rfl (lv_at hl 0 rfl) ?_
      refine cGet (v := .ref (q 1)) hX hin1 hK hI 1 (by decide) (hts (.fieldLink RX1 15 "GateHalls" "parents" "[I") (by decide +kernel)) rfl dX1_parent_23 ?_
      refine lv_iload_n hx hb dX1_parent_26 rfl (lv_at hl 1 rfl) ?_
      refine gAld (j := j) hX hK hI 2 0 rfl rfl hjE (by omega) (by decide) dX1_parent_27 ?_
      refine lv_istore_n (lv' := [(3, .int (σ.1 10 (j))), (0, .ref g), (1, .int (x)), (2, .int (o))]) hx hb dX1_parent_28 rfl hl (by decide) rfl (fun ls hl => ?_)
      refine lv_aload_n hx hb dX1_parent_29 rfl (lv_at hl 1 rfl) ?_
      refine cGet (v := .ref (q 1)) hX hin1 hK hI 1 (by decide) (hts (.fieldLink RX1 15 "GateHalls" "parents" "[I") (by decide +kernel)) rfl dX1_parent_30 ?_
      refine lv_iload_n hx hb dX1_parent_33 rfl (lv_at hl 2 rfl) ?_
      refine lv_iload_n hx hb dX1_parent_34 rfl (lv_at hl 3 rfl) ?_
      refine gAst (j := j) (w' := wCr g q cI cH ad pf (gfh ad σ) (gfp ad σ) n (uA σ 10 (j) (o))) hX hK hI 2 0 rfl rfl hjE (by omega) (by decide) rfl dX1_parent_35 (fun H locs hI => ?_)
      refine lv_iload_n hx hb dX1_parent_36 rfl (lv_at hl 0 rfl) ?_
      exact gIret hX hr hlk hI (by rw [sParent, if_neg (fun h => h.elim ha_r1 (fun h => h.elim hb_r1 (fun h => by subst c3; exact absurd h (by decide)))), hjC]; exact ⟨rfl, rfl⟩) dX1_parent_37
    · refine lv_iload_n hx hb dX1_parent_12 rfl (lv_at hl 2 rfl) ?_
      refine vp_callSi (W.runS (As := [.int (o)]) (rest := []) hX (c_X1_isPlace l (o)) (va_cwS 1 hts gX1_parent_X1_isPlace rfl rfl rfl (by decide +kernel) ⟨Nat.le_of_ble_eq_true rfl, Nat.le_of_ble_eq_true rfl⟩) preEq rfl rfl hl.1 rfl (lv_room (Nat.le_of_ble_eq_true rfl)) dX1_parent_13 ⟨Nat.le_of_ble_eq_true rfl, Nat.le_of_ble_eq_true rfl⟩) (fun r4 hr4 => ?_)
      rcases hr4 with ⟨rfl, ha_r4, hb_r4⟩ | ⟨rfl, hc_r4⟩
      · refine lv_if_ne (tgt := 22) hx hb dX1_parent_16 (by decide) (fun c5 => ?_) (fun c5 => False.elim (by revert c5; decide))
        obtain ⟨j, hj, hjE, hjC⟩ := g_pl ha_r1 hb_r1
        refine lv_aload_n hx hb dX1_parent_22 rfl (lv_at hl 0 rfl) ?_
        refine cGet (v := .ref (q 1)) hX hin1 hK hI 1 (by decide) (hts (.fieldLink RX1 15 "GateHalls" "parents" "[I") (by decide +kernel)) rfl dX1_parent_23 ?_
        refine lv_iload_n hx hb dX1_parent_26 rfl (lv_at hl 1 rfl) ?_
        refine gAld (j := j) hX hK hI 2 0 rfl rfl hjE (by omega) (by decide) dX1_parent_27 ?_
        refine lv_istore_n (lv' := [(3, .int (σ.1 10 (j))), (0, .ref g), (1, .int (x)), (2, .int (o))]) hx hb dX1_parent_28 rfl hl (by decide) rfl (fun ls hl => ?_)
        refine lv_aload_n hx hb dX1_parent_29 rfl (lv_at hl 1 rfl) ?_
        refine cGet (v := .ref (q 1)) hX hin1 hK hI 1 (by decide) (hts (.fieldLink RX1 15 "GateHalls" "parents" "[I") (by decide +kernel)) rfl dX1_parent_30 ?_
        refine lv_iload_n hx hb dX1_parent_33 rfl (lv_at hl 2 rfl) ?_
        refine lv_iload_n hx hb dX1_parent_34 rfl (lv_at hl 3 rfl) ?_
        refine gAst (j := j) (w' := wCr g q cI cH ad pf (gfh ad σ) (gfp ad σ) n (uA σ 10 (j) (o))) hX hK hI 2 0 rfl rfl hjE (by omega) (by decide) rfl dX1_parent_35 (fun H locs hI => ?_)
        refine lv_iload_n hx hb dX1_parent_36 rfl (lv_at hl 0 rfl) ?_
        exact gIret hX hr hlk hI (by rw [sParent, if_neg (fun h => h.elim ha_r1 (fun h => h.elim hb_r1 (fun h => h.elim (g_m1b ha_r4) hb_r4))), hjC]; exact ⟨rfl, rfl⟩) dX1_parent_37
      · refine lv_if_ne (tgt := 22) hx hb dX1_parent_16 (by decide) (fun c6 => False.elim (by revert c6; decide)) (fun c6 => ?_)
        refine lv_bipush (v := (-2)) hx hb dX1_parent_19 (by decide) ?_
        exact gIret hX hr hlk hI (by rw [sParent, if_pos (Or.inr (Or.inr (hc_r4.elim (fun h => Or.inl (g_m1a h c3)) Or.inr)))]; exact ⟨rfl, rfl⟩) dX1_parent_21
  · refine lv_if_eq (tgt := 19) hx hb dX1_parent_4 (by decide) (fun c7 => ?_) (fun c7 => False.elim (by revert c7; decide))
    refine lv_bipush (v := (-2)) hx hb dX1_parent_19 (by decide) ?_
    exact gIret hX hr hlk hI (by rw [sParent, if_pos (hc_r1.elim Or.inl (fun h => Or.inr (Or.inl h)))]; exact ⟨rfl, rfl⟩) dX1_parent_21
set_option maxRecDepth 100000 in
theorem iX1_share_1 : ∀ w ∈ wsX10, w ∈ wsX1_share := by decide +kernel
set_option maxHeartbeats 4000000 in
set_option maxRecDepth 100000 in
theorem c_X1_share (l : Launch) (D : va_G) (cI cH : ClassId) (g : Nat) (q : Nat → Nat) (ad : Nat → Nat) (pf : Nat → Int32) (n : Nat) (σ : gh_S) (sz : Nat) (x y : Int32) (w : Nat) (hg : gI n w σ) : gMi l yX1_share wsX1_share ({ frames := 1, cells := 0, slots := 0, locals := 20 }) D (wCn g q cI cH ad pf n σ) (gTy cI cH) sz [.ref g, .int (x), .int (y)] (fun r u => r = (sShare σ x y).1 ∧ u = wCn g q cI cH ad pf n (sShare σ x y).2) := by
  refine gEnter (cc := cX1_share) (maxL := 3) (ret := (some .int)) (QF := fun A => va_Qi _ (gPost D A) A) (by decide) rfl (Nat.le_of_ble_eq_true rfl) ?_
  intro p e s m below meth c A ls hX hr hlk hnm hK hN hA hI hl
  have hx := hX.1
  have hb := hX.2.1
  have hts := hX.2.2.2.2
  have hown : s.vm.findClass RX1 = some m.cls := hX.2.2.2.1
  have hin1 := iX1_share_1
  have hl : lv_has ls 3 [(0, .ref g), (1, .int (x)), (2, .int (y))] := hl
  have hI : InW D A s.heap (wCr g q cI cH ad pf (gfh ad σ) (gfp ad σ) n σ) s.heap [] := hI
  obtain ⟨hn, hw, ⟨t, ht, htE⟩, hpl, hpar, hrow, hn4, hw30, hz⟩ := id hg
  refine lv_iload_n hx hb dX1_share_0 rfl (lv_at hl 1 rfl) ?_
  refine vp_callSi (W.runS (As := [.int (x)]) (rest := []) hX (c_X1_isPlace l (x)) (va_cwS 1 hts gX1_share_X1_isPlace rfl rfl rfl (by decide +kernel) ⟨Nat.le_of_ble_eq_true rfl, Nat.le_of_ble_eq_true rfl⟩) preEq rfl rfl hl.1 rfl (lv_room (Nat.le_of_ble_eq_true rfl)) dX1_share_1 ⟨Nat.le_of_ble_eq_true rfl, Nat.le_of_ble_eq_true rfl⟩) (fun r1 hr1 => ?_)
  rcases hr1 with ⟨rfl, ha_r1, hb_r1⟩ | ⟨rfl, hc_r1⟩
  · refine lv_if_eq (tgt := 14) hx hb dX1_share_4 (by decide) (fun c2 => False.elim (by revert c2; decide)) (fun c2 => ?_)
    refine lv_iload_n hx hb dX1_share_7 rfl (lv_at hl 2 rfl) ?_
    refine vp_callSi (W.runS (As := [.int (y)]) (rest := []) hX (c_X1_isPlace l (y)) (va_cwS 1 hts gX1_share_X1_isPlace rfl rfl rfl (by decide +kernel) ⟨Nat.le_of_ble_eq_true rfl, Nat.le_of_ble_eq_true rfl⟩) preEq rfl rfl hl.1 rfl (lv_room (Nat.le_of_ble_eq_true rfl)) dX1_share_8 ⟨Nat.le_of_ble_eq_true rfl, Nat.le_of_ble_eq_true rfl⟩) (fun r3 hr3 => ?_)
    rcases hr3 with ⟨rfl, ha_r3, hb_r3⟩ | ⟨rfl, hc_r3⟩
    · refine lv_if_ne (tgt := 16) hx hb dX1_share_11 (by decide) (fun c4 => ?_) (fun c4 => False.elim (by revert c4; decide))
      obtain ⟨j, hj, hjE, hjC⟩ := g_pl ha_r1 hb_r1
      obtain ⟨k, hk, hkE, hkC⟩ := g_pl ha_r3 hb_r3
      by_cases hno : σ.1 9 j = -1
      · refine lv_aload_n hx hb dX1_share_16 rfl (lv_at hl 0 rfl) ?_
        refine cGet (v := .ref (q 0)) hX hin1 hK hI 0 (by decide) (hts (.fieldLink RX1 11 "GateHalls" "halls" "[LGateHalls$Hall;") (by decide +kernel)) rfl dX1_share_17 ?_
        refine lv_iload_n hx hb dX1_share_20 rfl (lv_at hl 2 rfl) ?_
        refine lv_aload_n hx hb dX1_share_21 rfl (lv_at hl 0 rfl) ?_
        refine cGet (v := .ref (q 0)) hX hin1 hK hI 0 (by decide) (hts (.fieldLink RX1 11 "GateHalls" "halls" "[LGateHalls$Hall;") (by decide +kernel)) rfl dX1_share_22 ?_
        refine lv_iload_n hx hb dX1_share_25 rfl (lv_at hl 1 rfl) ?_
        refine gQld (j := j) hX hK hI 1 1 rfl rfl hjE (by omega) (by decide) dX1_share_26 ?_
        refine gTopQ (y := none) (gfh_no hno) ?_
        refine gTopN ?_
        refine gQstN (j := k) (w' := wCr g q cI cH ad pf (va_up (gfh ad σ) (k) none) (gfp ad σ) n σ) hX hK hI 1 1 rfl rfl hkE (by omega) (by decide) rfl dX1_share_27 (fun H locs hI => ?_)
        refine lv_aload_n hx hb dX1_share_28 rfl (lv_at hl 0 rfl) ?_
        refine cGet (v := .ref (q 0)) hX hin1 hK hI 0 (by decide) (hts (.fieldLink RX1 11 "GateHalls" "halls" "[LGateHalls$Hall;") (by decide +kernel)) rfl dX1_share_29 ?_
        refine lv_iload_n hx hb dX1_share_32 rfl (lv_at hl 2 rfl) ?_
        refine gQld (j := k) hX hK hI 1 1 rfl rfl hkE (by omega) (by decide) dX1_share_33 ?_
        refine gTopQ (y := none) (va_up_self _ _ _) ?_
        refine gTopN ?_
        refine lv_ifnonnullN hx hb dX1_share_34 ?_
        refine lv_iconst (v := 0) hx hb dX1_share_37 (by decide) ?_
        refine lv_goto (tgt := 42) hx hb dX1_share_38 (by decide) ?_
        exact gIret hX hr hlk hI (by rw [sShare, if_neg (fun h => h.elim ha_r1 (fun h => h.elim hb_r1 (fun h => h.elim ha_r3 hb_r3))), hjC, hkC, if_pos hno, hno, gfh_none hk]; exact ⟨rfl, rfl⟩) dX1_share_42
      · obtain ⟨i, hi, hiE⟩ := (hpl j hj).resolve_left hno
        refine lv_aload_n hx hb dX1_share_16 rfl (lv_at hl 0 rfl) ?_
        refine cGet (v := .ref (q 0)) hX hin1 hK hI 0 (by decide) (hts (.fieldLink RX1 11 "GateHalls" "halls" "[LGateHalls$Hall;") (by decide +kernel)) rfl dX1_share_17 ?_
        refine lv_iload_n hx hb dX1_share_20 rfl (lv_at hl 2 rfl) ?_
        refine lv_aload_n hx hb dX1_share_21 rfl (lv_at hl 0 rfl) ?_
        refine cGet (v := .ref (q 0)) hX hin1 hK hI 0 (by decide) (hts (.fieldLink RX1 11 "GateHalls" "halls" "[LGateHalls$Hall;") (by decide +kernel)) rfl dX1_share_22 ?_
        refine lv_iload_n hx hb dX1_share_25 rfl (lv_at hl 1 rfl) ?_
        refine gQld (j := j) hX hK hI 1 1 rfl rfl hjE (by omega) (by decide) dX1_share_26 ?_
        refine gTopQ (y := some (ad i)) (gfh_at hj (by omega) hiE) ?_
        refine gTopR ?_
        refine gQst (j := k) (w' := wCr g q cI cH ad pf (va_up (gfh ad σ) (k) (some (ad i))) (gfp ad σ) n σ) (r := (RX0, TX0, 9)) hX hK hI 1 1 (6 + i) 0 rfl rfl (wCr_hall hi) rfl hkE (by omega) (by decide) rfl dX1_share_27 (fun H locs hI => ?_)
        refine lv_aload_n hx hb dX1_share_28 rfl (lv_at hl 0 rfl) ?_
        refine cGet (v := .ref (q 0)) hX hin1 hK hI 0 (by decide) (hts (.fieldLink RX1 11 "GateHalls" "halls" "[LGateHalls$Hall;") (by decide +kernel)) rfl dX1_share_29 ?_
        refine lv_iload_n hx hb dX1_share_32 rfl (lv_at hl 2 rfl) ?_
        refine gQld (j := k) hX hK hI 1 1 rfl rfl hkE (by omega) (by decide) dX1_share_33 ?_
        refine gTopQ (y := some (ad i)) (va_up_self _ _ _) ?_
        refine gTopR ?_
        refine lv_ifnonnull (tgt := 41) hx hb dX1_share_34 (by decide) ?_
        refine lv_iconst (v := 1) hx hb dX1_share_41 (by decide) ?_
        exact gIret hX hr hlk hI (by rw [sShare, if_neg (fun h => h.elim ha_r1 (fun h => h.elim hb_r1 (fun h => h.elim ha_r3 hb_r3))), hjC, hkC, if_neg hno, hiE, gfh_some hk (by omega)]; exact ⟨rfl, rfl⟩) dX1_share_42
    · refine lv_if_ne (tgt := 16) hx hb dX1_share_11 (by decide) (fun c5 => False.elim (by revert c5; decide)) (fun c5 => ?_)
      refine lv_iconst (v := (-1)) hx hb dX1_share_14 (by decide) ?_
      exact gIret hX hr hlk hI (by rw [sShare, if_pos (Or.inr (Or.inr hc_r3))]; exact ⟨rfl, rfl⟩) dX1_share_15
  · refine lv_if_eq (tgt := 14) hx hb dX1_share_4 (by decide) (fun c6 => ?_) (fun c6 => False.elim (by revert c6; decide))
    refine lv_iconst (v := (-1)) hx hb dX1_share_14 (by decide) ?_
    exact gIret hX hr hlk hI (by rw [sShare, if_pos (hc_r1.elim Or.inl (fun h => Or.inr (Or.inl h)))]; exact ⟨rfl, rfl⟩) dX1_share_15
end
section
theorem g_hallAt {ad : Nat → Nat} {σ : gh_S} {b : Nat} {r : Option Nat} (hb : b < 10) (h : (r = none ∧ (nI b < 0 ∨ 9 < nI b)) ∨ (∃ j : Nat, j < 10 ∧ nI b = nI j ∧ r = gfh ad σ j)) : r = gfh ad σ b := by
  rcases h with ⟨-, h | h⟩ | ⟨j, hj, hjE, h⟩
  · exact absurd h (nI_pos (by omega))
  · exact absurd h (by rw [show (9 : Int32) = nI 9 from rfl]; exact nI_nlt (by omega) (by omega))
  · rw [h, (nI_eq (by omega) (by omega)).mp hjE]
theorem zMax_eq {x y : Int32} : (if x < y then y else x) = (if y ≤ x then x else y) := by
  by_cases c : y ≤ x
  · rw [if_pos c, if_neg]
    rw [Int32.lt_iff_toInt_lt]
    rw [Int32.le_iff_toInt_le] at c
    omega
  · rw [if_neg c, if_pos]
    rw [Int32.lt_iff_toInt_lt]
    rw [Int32.le_iff_toInt_le] at c
    omega
theorem upd_comm {f : Nat → Int32} {a b : Nat} {x y : Int32} (h : a ≠ b) : upd (upd f a x) b y = upd (upd f b y) a x := by
  funext k
  unfold upd
  by_cases h1 : k = a
  · subst h1
    rw [if_neg h, if_pos rfl, if_pos rfl]
  · rw [if_neg h1, if_neg h1]
theorem uA_comm {σ : gh_S} {a b i j : Nat} {x y : Int32} (h : a ≠ b) : uA (uA σ a i x) b j y = uA (uA σ b j y) a i x := by
  apply Prod.ext
  · funext k
    show (if k = b then upd ((uA σ a i x).1 b) j y else (uA σ a i x).1 k) = (if k = a then upd ((uA σ b j y).1 a) i x else (uA σ b j y).1 k)
    rw [uA_k (Ne.symm h), uA_k h]
    by_cases h1 : k = a
    · subst h1
      rw [if_neg h, if_pos rfl]
      simp [uA]
    · rw [if_neg h1]
      by_cases h2 : k = b
      · subst h2
        rw [if_pos rfl]
        simp [uA]
      · rw [if_neg h2, uA_k h1, uA_k h2]
  · rfl
theorem uS_comm {σ : gh_S} {a b : Nat} {x y : Int32} (h : a ≠ b) : uS (uS σ a x) b y = uS (uS σ b y) a x := by
  apply Prod.ext
  · rfl
  · exact upd_comm h
theorem uSA {σ : gh_S} {a b i : Nat} {x y : Int32} : uS (uA σ a i x) b y = uA (uS σ b y) a i x := rfl
theorem zLeave_push {σ : gh_S} {x : Int32} {i : Nat} : zLeave (zPush σ i) x = zPush (zLeave σ x) i := by
  unfold zLeave
  have e : (zPush σ i).2 12 = σ.2 12 := rfl
  rw [e]
  by_cases c : (100 : Int32) ≤ σ.2 12
  · rw [if_pos c, if_pos c]
  · rw [if_neg c, if_neg c]
    unfold zPush
    show uS (uA (uS (uS (uA σ 18 (σ.2 17).toNatClampNeg (nI i)) 17 (σ.2 17 + 1)) 16 _) 13 (σ.2 12).toNatClampNeg x) 12 (σ.2 12 + 1) = uS (uS (uA (uS (uA σ 13 (σ.2 12).toNatClampNeg x) 12 (σ.2 12 + 1)) 18 (σ.2 17).toNatClampNeg (nI i)) 17 (σ.2 17 + 1)) 16 _
    rw [← uSA, ← uSA, ← uSA, uA_comm (a := 18) (b := 13) (by decide), uS_comm (a := 16) (b := 12) (by decide), uS_comm (a := 17) (b := 12) (by decide)]
    rfl
end
section
set_option maxRecDepth 100000 in
theorem iX1_placesWithHall_1 : ∀ w ∈ wsX10, w ∈ wsX1_placesWithHall := by decide +kernel
set_option maxHeartbeats 4000000 in
set_option maxRecDepth 100000 in
theorem c_X1_placesWithHall (l : Launch) (D : va_G) (cI cH : ClassId) (g : Nat) (q : Nat → Nat) (ad : Nat → Nat) (pf : Nat → Int32) (n : Nat) (σ : gh_S) (sz : Nat) (w : Nat) (hg : gI n w σ) : gMi l yX1_placesWithHall wsX1_placesWithHall ({ frames := 0, cells := 0, slots := 0, locals := 0 }) D (wCn g q cI cH ad pf n σ) (gTy cI cH) sz [.ref g] (fun r u => r = zCnt (σ.1 9) 10 ∧ u = wCn g q cI cH ad pf n σ) := by
  refine gEnter (cc := cX1_placesWithHall) (maxL := 3) (ret := (some .int)) (QF := fun A => va_Qi _ (gPost D A) A) (by decide) rfl (Nat.le_of_ble_eq_true rfl) ?_
  intro p e s m below meth c A ls hX hr hlk hnm hK hN hA hI hl
  have hx := hX.1
  have hb := hX.2.1
  have hts := hX.2.2.2.2
  have hown : s.vm.findClass RX1 = some m.cls := hX.2.2.2.1
  have hin1 := iX1_placesWithHall_1
  have hl : lv_has ls 3 [(0, .ref g)] := hl
  have hI : InW D A s.heap (wCr g q cI cH ad pf (gfh ad σ) (gfp ad σ) n σ) s.heap [] := hI
  obtain ⟨hn, hw, ⟨t, ht, htE⟩, hpl, hpar, hrow, hn4, hw30, hz⟩ := id hg
  refine lv_iconst (v := 0) hx hb dX1_placesWithHall_0 (by decide) ?_
  refine lv_istore_n (lv' := [(1, .int (0)), (0, .ref g)]) hx hb dX1_placesWithHall_1 rfl hl (by decide) rfl (fun ls hl => ?_)
  refine lv_iconst (v := 0) hx hb dX1_placesWithHall_2 (by decide) ?_
  refine lv_istore_n (lv' := [(2, .int (0)), (1, .int (0)), (0, .ref g)]) hx hb dX1_placesWithHall_3 rfl hl (by decide) rfl (fun ls hl => ?_)
  have loop : ∀ (f j : Nat) (a : Int32) (ls : Array Slot), j + f = 10 → a = zCnt (σ.1 9) j → lv_has ls 3 [(0, .ref g), (1, .int (a)), (2, .int (nI j))] → W p l e ({ frames := 0, cells := 0, slots := 0, locals := 0 }) s m ([.ref g] : List Value).toArray below meth c s.heap [] 0 0 (MQ below (va_Qi (fun r u => r = zCnt (σ.1 9) 10 ∧ u = wCn g q cI cH ad pf n σ) (gPost D A) A) ([.ref g] : List Value).toArray s 0 0 A) (F0 m 4 ls []) := by
    intro f
    induction f with
    | zero =>
      intro j a ls hj ha hl
      refine lv_iload_n hx hb dX1_placesWithHall_4 rfl (lv_at hl 2 rfl) ?_
      refine lv_bipush (v := 10) hx hb dX1_placesWithHall_5 (by decide) ?_
      refine lv_icmp_ge (tgt := 28) hx hb dX1_placesWithHall_7 (by decide) (fun c1 => ?_) (fun c1 => absurd (g_le (B := 10) rfl (by omega) (by omega)) c1)
      refine lv_iload_n hx hb dX1_placesWithHall_28 rfl (lv_at hl 1 rfl) ?_
      exact gIret hX hr hlk hI ⟨by rw [ha, show j = 10 by omega], rfl⟩ dX1_placesWithHall_29
    | succ f ih =>
      intro j a ls hj ha hl
      refine lv_iload_n hx hb dX1_placesWithHall_4 rfl (lv_at hl 2 rfl) ?_
      refine lv_bipush (v := 10) hx hb dX1_placesWithHall_5 (by decide) ?_
      refine lv_icmp_ge (tgt := 28) hx hb dX1_placesWithHall_7 (by decide) (fun c2 => absurd c2 (g_nle (B := 10) rfl (by omega) (by decide))) (fun c2 => ?_)
      refine lv_aload_n hx hb dX1_placesWithHall_10 rfl (lv_at hl 0 rfl) ?_
      refine cGet (v := .ref (q 0)) hX hin1 hK hI 0 (by decide) (hts (.fieldLink RX1 11 "GateHalls" "halls" "[LGateHalls$Hall;") (by decide +kernel)) rfl dX1_placesWithHall_11 ?_
      refine lv_iload_n hx hb dX1_placesWithHall_14 rfl (lv_at hl 2 rfl) ?_
      refine gQld (j := j) hX hK hI 1 1 rfl rfl rfl (by omega) (by decide) dX1_placesWithHall_15 ?_
      by_cases hno : σ.1 9 j = -1
      · refine gTopQ (y := none) (gfh_no hno) ?_
        refine gTopN ?_
        refine lv_ifnullN (tgt := 22) hx hb dX1_placesWithHall_16 (by decide) ?_
        refine lv_iinc (v := nI (j + 1)) (lv' := [(2, .int (nI (j + 1))), (0, .ref g), (1, .int (a))]) hx hb dX1_placesWithHall_22 hl (k := 2) rfl (nI_1 _) (by decide) rfl (fun ls hl => ?_)
        refine lv_goto (tgt := 4) hx hb dX1_placesWithHall_25 (by decide) ?_
        exact ih (j + 1) _ ls (by omega) (by rw [zCnt, if_pos hno, ha]) (lv_sub hl [1, 2, 0] rfl)
      · obtain ⟨i, hi, hiE⟩ := (hpl j (by omega)).resolve_left hno
        refine gTopQ (y := some (ad i)) (gfh_at (by omega) (by omega) hiE) ?_
        refine gTopR ?_
        refine lv_ifnull hx hb dX1_placesWithHall_16 ?_
        obtain ⟨x3, ex3⟩ : ∃ y : Int32, y = a + 1 := ⟨_, rfl⟩
        refine lv_iinc (v := x3) (lv' := [(1, .int (x3)), (0, .ref g), (2, .int (nI j))]) hx hb dX1_placesWithHall_19 hl (k := 1) rfl (by rw [ex3]; rfl) (by decide) rfl (fun ls hl => ?_)
        refine lv_iinc (v := nI (j + 1)) (lv' := [(2, .int (nI (j + 1))), (1, .int (x3)), (0, .ref g)]) hx hb dX1_placesWithHall_22 hl (k := 2) rfl (nI_1 _) (by decide) rfl (fun ls hl => ?_)
        refine lv_goto (tgt := 4) hx hb dX1_placesWithHall_25 (by decide) ?_
        exact ih (j + 1) _ ls (by omega) (by rw [zCnt, if_neg hno, ex3, ha]) (lv_sub hl [2, 1, 0] rfl)
  exact loop 10 0 0 ls (by omega) rfl (lv_sub hl [2, 1, 0] rfl)
set_option maxRecDepth 100000 in
theorem iX1_count_1 : ∀ w ∈ wsX10, w ∈ wsX1_count := by decide +kernel
set_option maxHeartbeats 4000000 in
set_option maxRecDepth 100000 in
theorem c_X1_count (l : Launch) (D : va_G) (cI cH : ClassId) (g : Nat) (q : Nat → Nat) (ad : Nat → Nat) (pf : Nat → Int32) (n : Nat) (σ : gh_S) (sz : Nat) (x : Int32) (w : Nat) (hg : gI n w σ) : gMi l yX1_count wsX1_count ({ frames := 1, cells := 0, slots := 0, locals := 22 }) D (wCn g q cI cH ad pf n σ) (gTy cI cH) sz [.ref g, .int (x)] (fun r u => r = sCount σ x ∧ u = wCn g q cI cH ad pf n σ) := by
  refine gEnter (cc := cX1_count) (maxL := 2) (ret := (some .int)) (QF := fun A => va_Qi _ (gPost D A) A) (by decide) rfl (Nat.le_of_ble_eq_true rfl) ?_
  intro p e s m below meth c A ls hX hr hlk hnm hK hN hA hI hl
  have hx := hX.1
  have hb := hX.2.1
  have hts := hX.2.2.2.2
  have hown : s.vm.findClass RX1 = some m.cls := hX.2.2.2.1
  have hin1 := iX1_count_1
  have hl : lv_has ls 2 [(0, .ref g), (1, .int (x))] := hl
  have hI : InW D A s.heap (wCr g q cI cH ad pf (gfh ad σ) (gfp ad σ) n σ) s.heap [] := hI
  refine lv_iload_n hx hb dX1_count_0 rfl (lv_at hl 1 rfl) ?_
  rcases g_sw05 x with h1 | rfl | rfl | rfl | rfl | rfl | rfl
  · refine lv_tableOut (tgt := 70) hx hb dX1_count_1 h1 (by decide) ?_
    refine lv_iconst (v := (-1)) hx hb dX1_count_70 (by decide) ?_
    exact gIret hX hr hlk hI ⟨sCount_out h1, rfl⟩ dX1_count_71
  · refine lv_tableIn (tgt := 40) (off := 39) hx hb dX1_count_1 (by decide) (by decide) (by decide) (by decide) ?_
    refine lv_aload_n hx hb dX1_count_40 rfl (lv_at hl 0 rfl) ?_
    refine cGet (v := .int (σ.2 11)) hX hin1 hK hI 2 (by decide) (hts (.fieldLink RX1 45 "GateHalls" "purse" "I") (by decide +kernel)) rfl dX1_count_41 ?_
    exact gIret hX hr hlk hI ⟨rfl, rfl⟩ dX1_count_44
  · refine lv_tableIn (tgt := 45) (off := 44) hx hb dX1_count_1 (by decide) (by decide) (by decide) (by decide) ?_
    refine lv_aload_n hx hb dX1_count_45 rfl (lv_at hl 0 rfl) ?_
    refine cGet (v := .int (σ.2 0)) hX hin1 hK hI 3 (by decide) (hts (.fieldLink RX1 38 "GateHalls" "hallsMade" "I") (by decide +kernel)) rfl dX1_count_46 ?_
    exact gIret hX hr hlk hI ⟨rfl, rfl⟩ dX1_count_49
  · refine lv_tableIn (tgt := 50) (off := 49) hx hb dX1_count_1 (by decide) (by decide) (by decide) (by decide) ?_
    refine lv_aload_n hx hb dX1_count_50 rfl (lv_at hl 0 rfl) ?_
    have hI : InW D A s.heap (wCn g q cI cH ad pf n σ) s.heap [] := hI
    refine gCalli (va_runV (As := []) (rest := []) hX (c_X1_placesWithHall l D cI cH g q ad pf n σ _ w hg) (cwV 0 hts gX1_count_X1_placesWithHall rfl rfl rfl (by decide +kernel) ⟨Nat.le_of_ble_eq_true rfl, Nat.le_of_ble_eq_true rfl⟩) ⟨gPre_blind, gRecv hI hK (ci := 1) (q0 := 0) rfl rfl, gPre_ok hI hK hN⟩ rfl rfl hl.1 rfl (lv_room (Nat.le_of_ble_eq_true rfl)) dX1_count_51 ⟨Nat.zero_le _, Nat.zero_le _⟩) hI hA (fun r2 ur2 H locs hr2 hI => ?_)
    obtain ⟨hr2, rfl⟩ := hr2
    exact gIret hX hr hlk hI ⟨by rw [sCount, if_neg (by decide), if_neg (by decide), if_pos rfl]; exact hr2, rfl⟩ dX1_count_54
  · refine lv_tableIn (tgt := 55) (off := 54) hx hb dX1_count_1 (by decide) (by decide) (by decide) (by decide) ?_
    refine lv_aload_n hx hb dX1_count_55 rfl (lv_at hl 0 rfl) ?_
    refine cGet (v := .int (σ.2 14)) hX hin1 hK hI 10 (by decide) (hts (.fieldLink RX1 65 "GateHalls" "latestFailure" "I") (by decide +kernel)) rfl dX1_count_56 ?_
    exact gIret hX hr hlk hI ⟨rfl, rfl⟩ dX1_count_59
  · refine lv_tableIn (tgt := 60) (off := 59) hx hb dX1_count_1 (by decide) (by decide) (by decide) (by decide) ?_
    refine lv_aload_n hx hb dX1_count_60 rfl (lv_at hl 0 rfl) ?_
    refine cGet (v := .int (σ.2 15)) hX hin1 hK hI 11 (by decide) (hts (.fieldLink RX1 90 "GateHalls" "walksBegun" "I") (by decide +kernel)) rfl dX1_count_61 ?_
    exact gIret hX hr hlk hI ⟨rfl, rfl⟩ dX1_count_64
  · refine lv_tableIn (tgt := 65) (off := 64) hx hb dX1_count_1 (by decide) (by decide) (by decide) (by decide) ?_
    refine lv_aload_n hx hb dX1_count_65 rfl (lv_at hl 0 rfl) ?_
    refine cGet (v := .int (σ.2 16)) hX hin1 hK hI 7 (by decide) (hts (.fieldLink RX1 58 "GateHalls" "deepest" "I") (by decide +kernel)) rfl dX1_count_66 ?_
    exact gIret hX hr hlk hI ⟨rfl, rfl⟩ dX1_count_69
set_option maxRecDepth 100000 in
theorem iX1_findPath_1 : ∀ w ∈ wsX10, w ∈ wsX1_findPath := by decide +kernel
set_option maxHeartbeats 4000000 in
set_option maxRecDepth 100000 in
theorem c_X1_findPath (l : Launch) (D : va_G) (cI cH : ClassId) (g : Nat) (q : Nat → Nat) (ad : Nat → Nat) (pf : Nat → Int32) (n : Nat) (σ : gh_S) (sz : Nat) (p0 w : Nat) (hp : p0 < 10) (hg : gI n w σ) : gMi l yX1_findPath wsX1_findPath ({ frames := 1, cells := 0, slots := 0, locals := 20 }) D (wCn g q cI cH ad pf n σ) (gTy cI cH) sz [.ref g, .int (nI p0)] (fun r u => ∃ pf' : Nat → Int32, u = wCn g q cI cH ad pf' n σ ∧ ((∃ k : Nat, k ≤ 10 ∧ 0 < k ∧ r = nI k ∧ zOrb (σ.1 10) (nI p0) k = -1 ∧ ∀ j, j < k → pf' j = zOrb (σ.1 10) (nI p0) j ∧ zOrb (σ.1 10) (nI p0) j ≠ -1) ∨ (r = 0 ∧ ∀ j, j ≤ 10 → zOrb (σ.1 10) (nI p0) j ≠ -1))) := by
  refine gEnter (cc := cX1_findPath) (maxL := 4) (ret := (some .int)) (QF := fun A => va_Qi _ (gPost D A) A) (by decide) rfl (Nat.le_of_ble_eq_true rfl) ?_
  intro p e s m below meth c A ls hX hr hlk hnm hK hN hA hI hl
  have hx := hX.1
  have hb := hX.2.1
  have hts := hX.2.2.2.2
  have hown : s.vm.findClass RX1 = some m.cls := hX.2.2.2.1
  have hin1 := iX1_findPath_1
  have hl : lv_has ls 4 [(0, .ref g), (1, .int (nI p0))] := hl
  have hI : InW D A s.heap (wCr g q cI cH ad pf (gfh ad σ) (gfp ad σ) n σ) s.heap [] := hI
  refine lv_iload_n hx hb dX1_findPath_0 rfl (lv_at hl 1 rfl) ?_
  refine lv_istore_n (lv' := [(2, .int (nI p0)), (0, .ref g), (1, .int (nI p0))]) hx hb dX1_findPath_1 rfl hl (by decide) rfl (fun ls hl => ?_)
  refine lv_iconst (v := 0) hx hb dX1_findPath_2 (by decide) ?_
  refine lv_istore_n (lv' := [(3, .int (0)), (2, .int (nI p0)), (0, .ref g), (1, .int (nI p0))]) hx hb dX1_findPath_3 rfl hl (by decide) rfl (fun ls hl => ?_)
  have hp0 : ∃ j : Nat, j < 10 ∧ nI p0 = nI j := ⟨p0, hp, rfl⟩
  obtain ⟨o, ho⟩ : ∃ o, o = zOrb (σ.1 10) (nI p0) := ⟨_, rfl⟩
  have hoin : ∀ j, o j = -1 ∨ ∃ i : Nat, i < 10 ∧ o j = nI i := by rw [ho]; exact zOrb_in hg hp0
  rw [← ho]
  have loop : ∀ (f k : Nat) (pf : Nat → Int32) (H : Heap) (locs : List Loc) (ls : Array Slot), k + f = 10 → (∀ j, j < k → pf j = o j ∧ o j ≠ -1) → InW D A s.heap (wCn g q cI cH ad pf n σ) H locs → lv_has ls 4 [(0, .ref g), (2, .int (o k)), (3, .int (nI k))] → W p l e ({ frames := 1, cells := 0, slots := 0, locals := 20 }) s m ([.ref g, .int (nI p0)] : List Value).toArray below meth c H locs 0 0 (MQ below (va_Qi (fun r u => ∃ pf' : Nat → Int32, u = wCn g q cI cH ad pf' n σ ∧ ((∃ k : Nat, k ≤ 10 ∧ 0 < k ∧ r = nI k ∧ o k = -1 ∧ ∀ j, j < k → pf' j = o j ∧ o j ≠ -1) ∨ (r = 0 ∧ ∀ j, j ≤ 10 → o j ≠ -1))) (gPost D A) A) ([.ref g, .int (nI p0)] : List Value).toArray s 0 0 A) (F0 m 4 ls []) := by
    intro f
    induction f with
    | zero =>
      intro k pf H locs ls hk hpf hI hl
      refine lv_iload_n hx hb dX1_findPath_4 rfl (lv_at hl 1 rfl) ?_
      refine vp_callSi (W.runS (As := [.int (o k)]) (rest := []) hX (c_X1_isPlace l (o k)) (va_cwS 1 hts gX1_findPath_X1_isPlace rfl rfl rfl (by decide +kernel) ⟨Nat.le_of_ble_eq_true rfl, Nat.le_of_ble_eq_true rfl⟩) preEq rfl rfl hl.1 rfl (lv_room (Nat.le_of_ble_eq_true rfl)) dX1_findPath_5 ⟨Nat.le_of_ble_eq_true rfl, Nat.le_of_ble_eq_true rfl⟩) (fun r1 hr1 => ?_)
      rcases hr1 with ⟨rfl, ha_r1, hb_r1⟩ | ⟨rfl, hc_r1⟩
      · refine lv_if_eq (tgt := 37) hx hb dX1_findPath_8 (by decide) (fun c2 => False.elim (by revert c2; decide)) (fun c2 => ?_)
        obtain ⟨j, hj, hjE, -⟩ := g_pl ha_r1 hb_r1
        have hne : o k ≠ -1 := by rw [hjE]; exact nI_ne_m1 (by omega)
        refine lv_iload_n hx hb dX1_findPath_11 rfl (lv_at hl 2 rfl) ?_
        refine lv_bipush (v := 10) hx hb dX1_findPath_12 (by decide) ?_
        refine lv_icmp_ge (tgt := 37) hx hb dX1_findPath_14 (by decide) (fun c3 => ?_) (fun c3 => absurd (g_le (B := 10) rfl (by omega) (by omega)) c3)
        refine lv_iload_n hx hb dX1_findPath_37 rfl (lv_at hl 1 rfl) ?_
        refine lv_iconst (v := (-1)) hx hb dX1_findPath_38 (by decide) ?_
        refine lv_icmp_ne (tgt := 46) hx hb dX1_findPath_39 (by decide) (fun c4 => ?_) (fun c4 => absurd c4 hne)
        refine lv_iconst (v := 0) hx hb dX1_findPath_46 (by decide) ?_
        exact gIret hX hr hlk hI ⟨pf, rfl, Or.inr ⟨rfl, fun j hj => by
          by_cases hjk : j = k
          · rw [hjk]; exact hne
          · exact (hpf j (by omega)).2⟩⟩ dX1_findPath_47
      · refine lv_if_eq (tgt := 37) hx hb dX1_findPath_8 (by decide) (fun c5 => ?_) (fun c5 => False.elim (by revert c5; decide))
        have hm1 : o k = -1 := by
          rcases hoin k with h | ⟨j, hj, h⟩
          · exact h
          · rw [h] at hc_r1
            exact hc_r1.elim (fun z => absurd z (nI_pos (by omega))) (fun z => absurd z (by rw [show (9 : Int32) = nI 9 from rfl]; exact nI_nlt (by omega) (by omega)))
        refine lv_iload_n hx hb dX1_findPath_37 rfl (lv_at hl 1 rfl) ?_
        refine lv_iconst (v := (-1)) hx hb dX1_findPath_38 (by decide) ?_
        refine lv_icmp_ne (tgt := 46) hx hb dX1_findPath_39 (by decide) (fun c6 => absurd hm1 c6) (fun c6 => ?_)
        refine lv_iload_n hx hb dX1_findPath_42 rfl (lv_at hl 2 rfl) ?_
        refine lv_goto (tgt := 47) hx hb dX1_findPath_43 (by decide) ?_
        have hk0 : 0 < k := by
          rcases Nat.eq_zero_or_pos k with h | h
          · subst h
            rw [ho] at hm1
            exact absurd hm1 (nI_ne_m1 (i := p0) (by omega))
          · exact h
        exact gIret hX hr hlk hI ⟨pf, rfl, Or.inl ⟨k, by omega, hk0, rfl, hm1, hpf⟩⟩ dX1_findPath_47
    | succ f ih =>
      intro k pf H locs ls hk hpf hI hl
      refine lv_iload_n hx hb dX1_findPath_4 rfl (lv_at hl 1 rfl) ?_
      refine vp_callSi (W.runS (As := [.int (o k)]) (rest := []) hX (c_X1_isPlace l (o k)) (va_cwS 1 hts gX1_findPath_X1_isPlace rfl rfl rfl (by decide +kernel) ⟨Nat.le_of_ble_eq_true rfl, Nat.le_of_ble_eq_true rfl⟩) preEq rfl rfl hl.1 rfl (lv_room (Nat.le_of_ble_eq_true rfl)) dX1_findPath_5 ⟨Nat.le_of_ble_eq_true rfl, Nat.le_of_ble_eq_true rfl⟩) (fun r7 hr7 => ?_)
      rcases hr7 with ⟨rfl, ha_r7, hb_r7⟩ | ⟨rfl, hc_r7⟩
      · refine lv_if_eq (tgt := 37) hx hb dX1_findPath_8 (by decide) (fun c8 => False.elim (by revert c8; decide)) (fun c8 => ?_)
        obtain ⟨j, hj, hjE, -⟩ := g_pl ha_r7 hb_r7
        have hne : o k ≠ -1 := by rw [hjE]; exact nI_ne_m1 (by omega)
        refine lv_iload_n hx hb dX1_findPath_11 rfl (lv_at hl 2 rfl) ?_
        refine lv_bipush (v := 10) hx hb dX1_findPath_12 (by decide) ?_
        refine lv_icmp_ge (tgt := 37) hx hb dX1_findPath_14 (by decide) (fun c9 => absurd c9 (g_nle (B := 10) rfl (by omega) (by decide))) (fun c9 => ?_)
        refine lv_aload_n hx hb dX1_findPath_17 rfl (lv_at hl 0 rfl) ?_
        refine cGet (v := .ref (q 4)) hX hin1 hK hI 4 (by decide) (hts (.fieldLink RX1 19 "GateHalls" "path" "[I") (by decide +kernel)) rfl dX1_findPath_18 ?_
        refine lv_iload_n hx hb dX1_findPath_21 rfl (lv_at hl 2 rfl) ?_
        refine lv_iload_n hx hb dX1_findPath_22 rfl (lv_at hl 1 rfl) ?_
        refine gAst (j := k) (w' := wCr g q cI cH ad (upd pf (k) (o k)) (gfh ad σ) (gfp ad σ) n σ) hX hK hI 3 0 rfl rfl rfl (by omega) (by decide) rfl dX1_findPath_23 (fun H locs hI => ?_)
        refine lv_iinc (v := nI (k + 1)) (lv' := [(3, .int (nI (k + 1))), (0, .ref g), (2, .int (o k))]) hx hb dX1_findPath_24 hl (k := 2) rfl (nI_1 _) (by decide) rfl (fun ls hl => ?_)
        refine lv_aload_n hx hb dX1_findPath_27 rfl (lv_at hl 1 rfl) ?_
        refine cGet (v := .ref (q 1)) hX hin1 hK hI 1 (by decide) (hts (.fieldLink RX1 15 "GateHalls" "parents" "[I") (by decide +kernel)) rfl dX1_findPath_28 ?_
        refine lv_iload_n hx hb dX1_findPath_31 rfl (lv_at hl 2 rfl) ?_
        refine gAld (j := j) hX hK hI 2 0 rfl rfl hjE (by omega) (by decide) dX1_findPath_32 ?_
        refine lv_istore_n (lv' := [(2, .int (σ.1 10 (j))), (3, .int (nI (k + 1))), (0, .ref g)]) hx hb dX1_findPath_33 rfl hl (by decide) rfl (fun ls hl => ?_)
        refine lv_goto (tgt := 4) hx hb dX1_findPath_34 (by decide) ?_
        have hs : o (k + 1) = σ.1 10 j := by rw [ho] at hjE ⊢; exact zOrb_succ hjE hj
        rw [← hs] at hl
        exact ih (k + 1) _ _ _ ls (by omega) (fun b hb4 => by
          by_cases hba : b = k
          · subst hba; exact ⟨by simp [upd], hne⟩
          · exact ⟨by simp [upd, hba]; exact (hpf b (by omega)).1, (hpf b (by omega)).2⟩) hI (lv_sub hl [2, 0, 1] rfl)
      · refine lv_if_eq (tgt := 37) hx hb dX1_findPath_8 (by decide) (fun c10 => ?_) (fun c10 => False.elim (by revert c10; decide))
        have hm1 : o k = -1 := by
          rcases hoin k with h | ⟨j, hj, h⟩
          · exact h
          · rw [h] at hc_r7
            exact hc_r7.elim (fun z => absurd z (nI_pos (by omega))) (fun z => absurd z (by rw [show (9 : Int32) = nI 9 from rfl]; exact nI_nlt (by omega) (by omega)))
        refine lv_iload_n hx hb dX1_findPath_37 rfl (lv_at hl 1 rfl) ?_
        refine lv_iconst (v := (-1)) hx hb dX1_findPath_38 (by decide) ?_
        refine lv_icmp_ne (tgt := 46) hx hb dX1_findPath_39 (by decide) (fun c11 => absurd hm1 c11) (fun c11 => ?_)
        refine lv_iload_n hx hb dX1_findPath_42 rfl (lv_at hl 2 rfl) ?_
        refine lv_goto (tgt := 47) hx hb dX1_findPath_43 (by decide) ?_
        have hk0 : 0 < k := by
          rcases Nat.eq_zero_or_pos k with h | h
          · subst h
            rw [ho] at hm1
            exact absurd hm1 (nI_ne_m1 (i := p0) (by omega))
          · exact h
        exact gIret hX hr hlk hI ⟨pf, rfl, Or.inl ⟨k, by omega, hk0, rfl, hm1, hpf⟩⟩ dX1_findPath_47
  rw [show nI p0 = o 0 by rw [ho]; rfl] at hl
  exact loop 10 0 pf _ _ ls (by omega) (fun j hj => absurd hj (by omega)) hI (lv_sub hl [2, 1, 0] rfl)
set_option maxRecDepth 100000 in
theorem iX1_passInto_0 : ∀ w ∈ wsX00, w ∈ wsX1_passInto := by decide +kernel
set_option maxRecDepth 100000 in
theorem iX1_passInto_1 : ∀ w ∈ wsX10, w ∈ wsX1_passInto := by decide +kernel
set_option maxHeartbeats 4000000 in
set_option maxRecDepth 100000 in
theorem c_X1_passInto (l : Launch) (D : va_G) (cI cH : ClassId) (g : Nat) (q : Nat → Nat) (ad : Nat → Nat) (pf : Nat → Int32) (n : Nat) (σ : gh_S) (sz : Nat) (i w : Nat) (hi : i < n) (hw30a : w < 30) (hg : gI n w σ) (hkd : gKd n σ) : gMi l yX1_passInto wsX1_passInto ({ frames := 2, cells := 0, slots := 0, locals := 44 }) D (wCn g q cI cH ad pf n σ) (gTy cI cH) sz [.ref g, .ref (ad i)] (fun r u => r = (zPass σ i).1 ∧ u = wCn g q cI cH ad pf n (zPass σ i).2) := by
  refine gEnter (cc := cX1_passInto) (maxL := 3) (ret := (some .int)) (QF := fun A => va_Qi _ (gPost D A) A) (by decide) rfl (Nat.le_of_ble_eq_true rfl) ?_
  intro p e s m below meth c A ls hX hr hlk hnm hK hN hA hI hl
  have hx := hX.1
  have hb := hX.2.1
  have hts := hX.2.2.2.2
  have hown : s.vm.findClass RX1 = some m.cls := hX.2.2.2.1
  have hin0 := iX1_passInto_0
  have hin1 := iX1_passInto_1
  have hl : lv_has ls 3 [(0, .ref g), (1, .ref (ad i))] := hl
  have hI : InW D A s.heap (wCr g q cI cH ad pf (gfh ad σ) (gfp ad σ) n σ) s.heap [] := hI
  obtain ⟨hn, hw, ⟨t, ht, htE⟩, hpl, hpar, hrow, hn4, hw30, hz⟩ := id hg
  refine lv_aload_n hx hb dX1_passInto_0 rfl (lv_at hl 1 rfl) ?_
  have hI : InW D A s.heap (wCn g q cI cH ad pf n σ) s.heap [] := hI
  refine gCallv (va_runVN (As := []) (rest := []) hX (c_X0_enter l D cI cH (wCn g q cI cH ad pf n σ) (ad i) (6 + i) (nI i) (σ.1 1 i) (σ.1 2 i) (σ.1 3 i) (σ.1 4 i) (σ.1 5 i) (σ.1 6 i) (σ.1 7 i) (σ.1 8 i) s.heap.size  (wCr_hall hi)) ⟨va_cnB 0 hts gX1_passInto_X0_enter_n114 rfl rfl rfl hN.2.2.2.2.2.1 (hts (.initialized RX0) (by decide +kernel)) (by decide +kernel) ⟨Nat.le_of_ble_eq_true rfl, Nat.le_of_ble_eq_true rfl⟩, hts (.instanceMethod yX0_enter) (by decide +kernel), hts (.selects RX0 yX0_enter yX0_enter) (by decide +kernel)⟩ ⟨gPre_blind, gRecv hI hK (ci := 0) (q0 := 6 + i) rfl (wCr_hall hi), gPre_ok hI hK hN⟩ rfl rfl hl.1 rfl (lv_room (Nat.le_of_ble_eq_true rfl)) dX1_passInto_1 ⟨Nat.zero_le _, Nat.zero_le _⟩) hI hA (fun ur1 H locs hr1 hI => ?_)
  subst hr1
  have hI : InW D A s.heap (wCr g q cI cH ad pf (gfh ad σ) (gfp ad σ) n (zEnter σ i)) H locs := by rw [← wCr_enter hi]; exact hI
  have hgE := gI_enter hi hg
  have hI : InW D A s.heap (wCn g q cI cH ad pf n (zEnter σ i)) H locs := hI
  have hKE : gKd n (zEnter σ i) := hkd
  generalize hσ1 : zEnter σ i = σ1 at hI hgE hKE
  refine lv_aload_n hx hb dX1_passInto_4 rfl (lv_at hl 0 rfl) ?_
  refine cGet (v := .int (σ1.2 17)) hX hin1 hK hI 6 (by decide) (hts (.fieldLink RX1 96 "GateHalls" "depth" "I") (by decide +kernel)) rfl dX1_passInto_5 ?_
  refine lv_if_lt (tgt := 43) hx hb dX1_passInto_8 (by decide) (fun c2 => absurd c2 (by rw [hgE.2.1]; exact nI_pos (by omega))) (fun c2 => ?_)
  refine lv_aload_n hx hb dX1_passInto_11 rfl (lv_at hl 0 rfl) ?_
  refine cGet (v := .int (σ1.2 17)) hX hin1 hK hI 6 (by decide) (hts (.fieldLink RX1 96 "GateHalls" "depth" "I") (by decide +kernel)) rfl dX1_passInto_12 ?_
  refine lv_aload_n hx hb dX1_passInto_15 rfl (lv_at hl 0 rfl) ?_
  refine cGet (v := .ref (q 5)) hX hin1 hK hI 5 (by decide) (hts (.fieldLink RX1 22 "GateHalls" "passed" "[LGateHalls$Hall;") (by decide +kernel)) rfl dX1_passInto_16 ?_
  refine gAlen (n := 30) hX hK hI 4 1 rfl rfl rfl dX1_passInto_19 ?_
  refine lv_icmp_ge (tgt := 43) hx hb dX1_passInto_20 (by decide) (fun c3 => absurd c3 (by rw [hgE.2.1]; exact nI_ge (by omega) (by omega))) (fun c3 => ?_)
  refine lv_aload_n hx hb dX1_passInto_23 rfl (lv_at hl 0 rfl) ?_
  refine cGet (v := .ref (q 5)) hX hin1 hK hI 5 (by decide) (hts (.fieldLink RX1 22 "GateHalls" "passed" "[LGateHalls$Hall;") (by decide +kernel)) rfl dX1_passInto_24 ?_
  refine lv_aload_n hx hb dX1_passInto_27 rfl (lv_at hl 0 rfl) ?_
  refine cGet (v := .int (σ1.2 17)) hX hin1 hK hI 6 (by decide) (hts (.fieldLink RX1 96 "GateHalls" "depth" "I") (by decide +kernel)) rfl dX1_passInto_28 ?_
  refine lv_aload_n hx hb dX1_passInto_31 rfl (lv_at hl 1 rfl) ?_
  refine gQst (j := w) (w' := wCr g q cI cH ad pf (gfh ad σ1) (va_up (gfp ad σ1) (w) (some (ad i))) n σ1) (r := (RX0, TX0, 9)) hX hK hI 4 1 (6 + i) 0 rfl rfl (wCr_hall hi) rfl hgE.2.1 (by omega) (by decide) rfl dX1_passInto_32 (fun H locs hI => ?_)
  refine lv_aload_n hx hb dX1_passInto_33 rfl (lv_at hl 0 rfl) ?_
  refine lv_dup hx hb dX1_passInto_34 rfl ?_
  refine cGet (v := .int (σ1.2 17)) hX hin1 hK hI 6 (by decide) (hts (.fieldLink RX1 96 "GateHalls" "depth" "I") (by decide +kernel)) rfl dX1_passInto_35 ?_
  refine lv_iconst (v := 1) hx hb dX1_passInto_38 (by decide) ?_
  refine lv_iadd hx hb dX1_passInto_39 ?_
  refine cPut (σ' := (uS σ1 17 ((σ1.2 17) + (1)))) hX hin1 hK hI 6 (by decide) (hts (.fieldLink RX1 96 "GateHalls" "depth" "I") (by decide +kernel)) rfl rfl rfl dX1_passInto_40 (fun H locs hI => ?_)
  have hI : InW D A s.heap (wCn g q cI cH ad pf n (uS (uA σ1 18 w (nI i)) 17 (σ1.2 17 + 1))) H locs := by
    show InW _ _ _ (wCr _ _ _ _ _ _ _ (gfp ad (uS (uA σ1 18 w (nI i)) 17 (σ1.2 17 + 1))) _ _) _ _
    rw [← gfp_push hgE.2.1 (by omega) (by omega)]
    exact hI
  refine lv_aload_n hx hb dX1_passInto_43 rfl (lv_at hl 0 rfl) ?_
  refine lv_aload_n hx hb dX1_passInto_44 rfl (lv_at hl 0 rfl) ?_
  refine cGet (v := .int (σ1.2 16)) hX hin1 hK hI 7 (by decide) (hts (.fieldLink RX1 58 "GateHalls" "deepest" "I") (by decide +kernel)) rfl dX1_passInto_45 ?_
  refine lv_aload_n hx hb dX1_passInto_48 rfl (lv_at hl 0 rfl) ?_
  refine cGet (v := .int (σ1.2 17 + 1)) hX hin1 hK hI 6 (by decide) (hts (.fieldLink RX1 96 "GateHalls" "depth" "I") (by decide +kernel)) rfl dX1_passInto_49 ?_
  refine va_mmax hx hb (hX.2.2.1.trans hl.1.symm) hown (hts (.methodLink RX1 117 Lib.Math.max.name) (by decide +kernel)) (hts (.static Lib.Math.max.name) (by decide +kernel)) (hts (.initialized "java/lang/Math") (by decide +kernel)) (hts (.code Lib.Math.max.name Lib.Math.max.code 2 (some .int)) (by decide +kernel)) (Nat.le_of_ble_eq_true rfl) (Nat.le_of_ble_eq_true rfl) (Nat.le_of_ble_eq_true rfl) (Nat.le_of_ble_eq_true rfl) dX1_passInto_52 ?_
  refine cPut (σ' := (uS (uS (uA σ1 18 (w) (nI i)) 17 (σ1.2 17 + 1)) 16 (if (σ1.2 16) < (σ1.2 17 + 1) then (σ1.2 17 + 1) else (σ1.2 16)))) hX hin1 hK hI 7 (by decide) (hts (.fieldLink RX1 58 "GateHalls" "deepest" "I") (by decide +kernel)) rfl rfl rfl dX1_passInto_55 (fun H locs hI => ?_)
  have hwC : (σ1.2 17).toNatClampNeg = w := by rw [hgE.2.1]; exact nI_clamp (by omega)
  have hI : InW D A s.heap (wCn g q cI cH ad pf n (zPush σ1 i)) H locs := by
    unfold zPush
    rw [hwC, ← zMax_eq]
    exact hI
  have hgP := gI_push hi (by omega) hgE
  refine lv_aload_n hx hb dX1_passInto_58 rfl (lv_at hl 0 rfl) ?_
  refine lv_aload_n hx hb dX1_passInto_59 rfl (lv_at hl 1 rfl) ?_
  have hI : InW D A s.heap (wCn g q cI cH ad pf n (zPush σ1 i)) H locs := hI
  refine gCalli (va_runVN (As := []) (rest := [.ref g]) hX (c_X0_mark l D cI cH (wCn g q cI cH ad pf n (zPush σ1 i)) (ad i) (6 + i) (nI i) ((zPush σ1 i).1 1 i) ((zPush σ1 i).1 2 i) ((zPush σ1 i).1 3 i) ((zPush σ1 i).1 4 i) ((zPush σ1 i).1 5 i) ((zPush σ1 i).1 6 i) ((zPush σ1 i).1 7 i) ((zPush σ1 i).1 8 i) H.size  (wCr_hall hi)) ⟨va_cnB 0 hts gX1_passInto_X0_mark_n120 rfl rfl rfl hN.2.2.2.2.2.2.1 (hts (.initialized RX0) (by decide +kernel)) (by decide +kernel) ⟨Nat.le_of_ble_eq_true rfl, Nat.le_of_ble_eq_true rfl⟩, hts (.instanceMethod yX0_mark) (by decide +kernel), hts (.selects RX0 yX0_mark yX0_mark) (by decide +kernel)⟩ ⟨gPre_blind, gRecv hI hK (ci := 0) (q0 := 6 + i) rfl (wCr_hall hi), gPre_ok hI hK hN⟩ rfl rfl hl.1 rfl (lv_room (Nat.le_of_ble_eq_true rfl)) dX1_passInto_60 ⟨Nat.zero_le _, Nat.zero_le _⟩) hI hA (fun r4 ur4 H locs hr4 hI => ?_)
  obtain ⟨hr4, rfl⟩ := hr4
  have hI : InW D A s.heap (wCn g q cI cH ad pf n (zPush σ1 i)) H locs := hI
  refine gCallv (va_runV (As := [.int (r4)]) (rest := []) hX (c_X1_leaveMark l D cI cH g q ad pf n (zPush σ1 i) _ (r4) (w + 1) hgP) (cwV 1 hts gX1_passInto_X1_leaveMark rfl rfl rfl (by decide +kernel) ⟨Nat.le_of_ble_eq_true rfl, Nat.le_of_ble_eq_true rfl⟩) ⟨gPre_blind, gRecv hI hK (ci := 1) (q0 := 0) rfl rfl, gPre_ok hI hK hN⟩ rfl rfl hl.1 rfl (lv_room (Nat.le_of_ble_eq_true rfl)) dX1_passInto_63 ⟨Nat.zero_le _, Nat.zero_le _⟩) hI hA (fun ur5 H locs hr5 hI => ?_)
  subst hr5
  have hI : InW D A s.heap (wCn g q cI cH ad pf n (zIn σ i)) H locs := by
    have e : zIn σ i = zLeave (zPush σ1 i) r4 := by rw [zLeave_push, hr4, ← hσ1]; rfl
    rw [e]; exact hI
  have hK3 : gKd n (zIn σ i) := gKd_of k_in hkd
  generalize hσ3 : zIn σ i = σ3 at hI hK3
  refine lv_aload_n hx hb dX1_passInto_66 rfl (lv_at hl 1 rfl) ?_
  have hI : InW D A s.heap (wCn g q cI cH ad pf n σ3) H locs := hI
  refine gCalli (va_runVN (As := []) (rest := []) hX (c_X0_guardIsInTheWay l D cI cH (wCn g q cI cH ad pf n σ3) (ad i) (6 + i) (nI i) (σ3.1 1 i) (σ3.1 2 i) (σ3.1 3 i) (σ3.1 4 i) (σ3.1 5 i) (σ3.1 6 i) (σ3.1 7 i) (σ3.1 8 i) H.size  (wCr_hall hi)) ⟨va_cnB 0 hts gX1_passInto_X0_guardIsInTheWay_n126 rfl rfl rfl hN.2.2.2.2.2.2.2.1 (hts (.initialized RX0) (by decide +kernel)) (by decide +kernel) ⟨Nat.le_of_ble_eq_true rfl, Nat.le_of_ble_eq_true rfl⟩, hts (.instanceMethod yX0_guardIsInTheWay) (by decide +kernel), hts (.selects RX0 yX0_guardIsInTheWay yX0_guardIsInTheWay) (by decide +kernel)⟩ ⟨gPre_blind, gRecv hI hK (ci := 0) (q0 := 6 + i) rfl (wCr_hall hi), gPre_ok hI hK hN⟩ rfl rfl hl.1 rfl (lv_room (Nat.le_of_ble_eq_true rfl)) dX1_passInto_67 ⟨Nat.zero_le _, Nat.zero_le _⟩) hI hA (fun r6 ur6 H locs hr6 hI => ?_)
  obtain ⟨hr6, rfl⟩ := hr6
  rcases hr6 with ⟨rfl, hG⟩ | ⟨rfl, hG⟩
  · refine lv_if_eq (tgt := 76) hx hb dX1_passInto_70 (by decide) (fun c7 => False.elim (by revert c7; decide)) (fun c7 => ?_)
    refine lv_bipush (v := 21) hx hb dX1_passInto_73 (by decide) ?_
    exact gIret hX hr hlk hI (by rw [zPass, hσ3, zPay, if_pos hG]; exact ⟨rfl, rfl⟩) dX1_passInto_75
  · refine lv_if_eq (tgt := 76) hx hb dX1_passInto_70 (by decide) (fun c8 => ?_) (fun c8 => False.elim (by revert c8; decide))
    refine lv_aload_n hx hb dX1_passInto_76 rfl (lv_at hl 1 rfl) ?_
    have hI : InW D A s.heap (wCn g q cI cH ad pf n σ3) H locs := hI
    refine gCalli (va_runVN (As := []) (rest := []) hX (c_X0_charge l D cI cH (wCn g q cI cH ad pf n σ3) (ad i) (6 + i) (nI i) (σ3.1 1 i) (σ3.1 2 i) (σ3.1 3 i) (σ3.1 4 i) (σ3.1 5 i) (σ3.1 6 i) (σ3.1 7 i) (σ3.1 8 i) H.size  (wCr_hall hi)) ⟨va_cnB 0 hts gX1_passInto_X0_charge_n130 rfl rfl rfl hN.2.2.2.2.2.2.2.2.1 (hts (.initialized RX0) (by decide +kernel)) (by decide +kernel) ⟨Nat.le_of_ble_eq_true rfl, Nat.le_of_ble_eq_true rfl⟩, hts (.instanceMethod yX0_charge) (by decide +kernel), hts (.selects RX0 yX0_charge yX0_charge) (by decide +kernel)⟩ ⟨gPre_blind, gRecv hI hK (ci := 0) (q0 := 6 + i) rfl (wCr_hall hi), gPre_ok hI hK hN⟩ rfl rfl hl.1 rfl (lv_room (Nat.le_of_ble_eq_true rfl)) dX1_passInto_77 ⟨Nat.zero_le _, Nat.zero_le _⟩) hI hA (fun r9 ur9 H locs hr9 hI => ?_)
    obtain ⟨hr9, rfl⟩ := hr9
    rw [zCharge_eq hK3 hi] at hr9
    refine lv_istore_n (lv' := [(2, .int (r9)), (0, .ref g), (1, .ref (ad i))]) hx hb dX1_passInto_80 rfl hl (by decide) rfl (fun ls hl => ?_)
    refine lv_aload_n hx hb dX1_passInto_81 rfl (lv_at hl 1 rfl) ?_
    refine cGet (v := .int (σ3.2 11)) hX hin1 hK hI 2 (by decide) (hts (.fieldLink RX1 45 "GateHalls" "purse" "I") (by decide +kernel)) rfl dX1_passInto_82 ?_
    refine lv_iload_n hx hb dX1_passInto_85 rfl (lv_at hl 0 rfl) ?_
    refine lv_icmp_ge (tgt := 92) hx hb dX1_passInto_86 (by decide) (fun c10 => ?_) (fun c10 => ?_)
    · refine lv_aload_n hx hb dX1_passInto_92 rfl (lv_at hl 1 rfl) ?_
      refine lv_dup hx hb dX1_passInto_93 rfl ?_
      refine cGet (v := .int (σ3.2 11)) hX hin1 hK hI 2 (by decide) (hts (.fieldLink RX1 45 "GateHalls" "purse" "I") (by decide +kernel)) rfl dX1_passInto_94 ?_
      refine lv_iload_n hx hb dX1_passInto_97 rfl (lv_at hl 0 rfl) ?_
      refine lv_isub hx hb dX1_passInto_98 ?_
      refine cPut (σ' := (uS σ3 11 ((σ3.2 11) - (r9)))) hX hin1 hK hI 2 (by decide) (hts (.fieldLink RX1 45 "GateHalls" "purse" "I") (by decide +kernel)) rfl rfl rfl dX1_passInto_99 (fun H locs hI => ?_)
      refine lv_aload_n hx hb dX1_passInto_102 rfl (lv_at hl 2 rfl) ?_
      refine lv_dup hx hb dX1_passInto_103 rfl ?_
      refine hGet (i := i) (v := .int ((uS σ3 11 ((σ3.2 11) - (r9))).1 6 (i))) hX hin0 hK hI hi 6 (by decide) hN.2.2.2.2.1 rfl dX1_passInto_104 ?_
      refine gTop (y := σ3.1 6 (i)) (by simp [uA, uS, upd]) ?_
      refine lv_iload_n hx hb dX1_passInto_107 rfl (lv_at hl 0 rfl) ?_
      refine lv_iadd hx hb dX1_passInto_108 ?_
      refine hPut (i := i) hX hin0 hK hI hi 6 (by decide) hN.2.2.2.2.1 rfl rfl gHs6 (by decide) (by decide) dX1_passInto_109 (fun H locs hI => ?_)
      refine lv_iconst (v := 0) hx hb dX1_passInto_112 (by decide) ?_
      exact gIret hX hr hlk hI (by rw [zPass, hσ3, zPay, if_neg hG, if_pos (by rw [← hr9]; exact c10), ← hr9]; exact ⟨rfl, rfl⟩) dX1_passInto_113
    · refine lv_bipush (v := 20) hx hb dX1_passInto_89 (by decide) ?_
      exact gIret hX hr hlk hI (by rw [zPass, hσ3, zPay, if_neg hG, if_neg (by rw [← hr9]; exact c10)]; exact ⟨rfl, rfl⟩) dX1_passInto_91
end
section
set_option maxRecDepth 100000 in
theorem iX1_passPath_1 : ∀ w ∈ wsX10, w ∈ wsX1_passPath := by decide +kernel
set_option maxHeartbeats 4000000 in
set_option maxRecDepth 100000 in
theorem c_X1_passPath (l : Launch) (D : va_G) (cI cH : ClassId) (g : Nat) (q : Nat → Nat) (ad : Nat → Nat) (pf : Nat → Int32) (n : Nat) (σ : gh_S) (sz : Nat) (o : Nat → Int32) (L w : Nat) (hL : L ≤ 10) (hwL : w + L ≤ 30) (hpf : ∀ k, k < L → pf k = o k ∧ ∃ j : Nat, j < 10 ∧ o k = nI j) (hg : gI n w σ) (hkd : gKd n σ) : gMi l yX1_passPath wsX1_passPath ({ frames := 3, cells := 0, slots := 0, locals := 66 }) D (wCn g q cI cH ad pf n σ) (gTy cI cH) sz [.ref g, .int (nI L)] (fun r u => r = (zDown o L σ).1 ∧ u = wCn g q cI cH ad pf n (zDown o L σ).2) := by
  refine gEnter (cc := cX1_passPath) (maxL := 5) (ret := (some .int)) (QF := fun A => va_Qi _ (gPost D A) A) (by decide) rfl (Nat.le_of_ble_eq_true rfl) ?_
  intro p e s m below meth c A ls hX hr hlk hnm hK hN hA hI hl
  have hx := hX.1
  have hb := hX.2.1
  have hts := hX.2.2.2.2
  have hown : s.vm.findClass RX1 = some m.cls := hX.2.2.2.1
  have hin1 := iX1_passPath_1
  have hl : lv_has ls 5 [(0, .ref g), (1, .int (nI L))] := hl
  have hI : InW D A s.heap (wCr g q cI cH ad pf (gfh ad σ) (gfp ad σ) n σ) s.heap [] := hI
  refine lv_iload_n hx hb dX1_passPath_0 rfl (lv_at hl 1 rfl) ?_
  refine lv_bipush (v := 10) hx hb dX1_passPath_1 (by decide) ?_
  refine va_mmin hx hb (hX.2.2.1.trans hl.1.symm) hown (hts (.methodLink RX1 49 Lib.Math.min.name) (by decide +kernel)) (hts (.static Lib.Math.min.name) (by decide +kernel)) (hts (.initialized "java/lang/Math") (by decide +kernel)) (hts (.code Lib.Math.min.name Lib.Math.min.code 2 (some .int)) (by decide +kernel)) (Nat.le_of_ble_eq_true rfl) (Nat.le_of_ble_eq_true rfl) (Nat.le_of_ble_eq_true rfl) (Nat.le_of_ble_eq_true rfl) dX1_passPath_3 ?_
  refine gTop (y := nI L) (if_neg (by rw [show (10 : Int32) = nI 10 from rfl]; exact nI_nlt (by omega) (by omega))) ?_
  refine lv_iconst (v := 1) hx hb dX1_passPath_6 (by decide) ?_
  refine lv_isub hx hb dX1_passPath_7 ?_
  refine lv_istore_n (lv' := [(2, .int ((nI L) - (1))), (0, .ref g), (1, .int (nI L))]) hx hb dX1_passPath_8 rfl hl (by decide) rfl (fun ls hl => ?_)
  have loop : ∀ (r w' : Nat) (τ : gh_S) (H : Heap) (locs : List Loc) (ls : Array Slot), r ≤ L → w' + r ≤ 30 → gI n w' τ → gKd n τ → zDown o r τ = zDown o L σ → InW D A s.heap (wCn g q cI cH ad pf n τ) H locs → lv_has ls 5 [(0, .ref g), (2, .int ((nI r) - 1))] → W p l e ({ frames := 3, cells := 0, slots := 0, locals := 66 }) s m ([.ref g, .int (nI L)] : List Value).toArray below meth c H locs 0 0 (MQ below (va_Qi (fun r u => r = (zDown o L σ).1 ∧ u = wCn g q cI cH ad pf n (zDown o L σ).2) (gPost D A) A) ([.ref g, .int (nI L)] : List Value).toArray s 0 0 A) (F0 m 9 ls []) := by
    intro r
    induction r with
    | zero =>
      intro w' τ H locs ls hr10 hr30 hgT hkT hE hI hl
      refine lv_iload_n hx hb dX1_passPath_9 rfl (lv_at hl 1 rfl) ?_
      refine lv_if_lt (tgt := 53) hx hb dX1_passPath_10 (by decide) (fun c1 => ?_) (fun c1 => absurd (show (nI 0) - 1 < 0 by decide) c1)
      refine lv_iconst (v := 0) hx hb dX1_passPath_53 (by decide) ?_
      exact gIret hX hr hlk hI ⟨by rw [← hE]; rfl, by rw [← hE]; rfl⟩ dX1_passPath_54
    | succ r ih =>
      intro w' τ H locs ls hr10 hr30 hgT hkT hE hI hl
      obtain ⟨hpr, j, hj, hjE⟩ := hpf r (by omega)
      have hjC : (o r).toNatClampNeg = j := by rw [hjE]; exact nI_clamp (by omega)
      have hTn := hgT.2.2.2.2.2.2.1
      refine lv_iload_n hx hb dX1_passPath_9 rfl (lv_at hl 1 rfl) ?_
      refine lv_if_lt (tgt := 53) hx hb dX1_passPath_10 (by decide) (fun c2 => absurd c2 (by rw [nI_pred]; exact nI_pos (by omega))) (fun c2 => ?_)
      refine lv_aload_n hx hb dX1_passPath_13 rfl (lv_at hl 0 rfl) ?_
      refine lv_aload_n hx hb dX1_passPath_14 rfl (lv_at hl 0 rfl) ?_
      refine cGet (v := .ref (q 4)) hX hin1 hK hI 4 (by decide) (hts (.fieldLink RX1 19 "GateHalls" "path" "[I") (by decide +kernel)) rfl dX1_passPath_15 ?_
      refine lv_iload_n hx hb dX1_passPath_18 rfl (lv_at hl 1 rfl) ?_
      refine gAld (j := r) hX hK hI 3 0 rfl rfl (nI_pred r) (by omega) (by decide) dX1_passPath_19 ?_
      refine gTop (y := nI j) (hpr.trans hjE) ?_
      have hI : InW D A s.heap (wCn g q cI cH ad pf n τ) H locs := hI
      refine gCallq (va_runV (As := [.int (nI j)]) (rest := []) hX (c_X1_hallAt l D cI cH g q ad pf n τ _ (nI j)) (cwV 1 hts gX1_passPath_X1_hallAt rfl rfl rfl (by decide +kernel) ⟨Nat.le_of_ble_eq_true rfl, Nat.le_of_ble_eq_true rfl⟩) ⟨gPre_blind, gRecv hI hK (ci := 1) (q0 := 0) rfl rfl, gPre_ok hI hK hN⟩ rfl rfl hl.1 rfl (lv_room (Nat.le_of_ble_eq_true rfl)) dX1_passPath_20 ⟨Nat.zero_le _, Nat.zero_le _⟩) hI hA (fun r3 ur3 H locs hr3 hI => ?_)
      obtain ⟨rfl, hr3⟩ := hr3
      have hr3E := g_hallAt hj hr3
      by_cases hno : τ.1 9 j = -1
      · refine gTopQ (y := none) (hr3E.trans (gfh_no hno)) ?_
        refine gTopN ?_
        refine lv_astore_nN (lv' := [(3, .null), (0, .ref g), (2, .int (nI (r + 1) - 1))]) hx hb dX1_passPath_23 rfl hl (by decide) rfl (fun ls hl => ?_)
        refine lv_aload_nN hx hb dX1_passPath_24 rfl (lv_at hl 0 rfl) ?_
        refine lv_ifnonnullN hx hb dX1_passPath_25 ?_
        refine lv_iconst (v := 1) hx hb dX1_passPath_28 (by decide) ?_
        refine lv_goto (tgt := 37) hx hb dX1_passPath_29 (by decide) ?_
        refine lv_istore (lv' := [(4, .int (1)), (3, .null), (0, .ref g), (2, .int (nI (r + 1) - 1))]) hx hb dX1_passPath_37 hl (by decide) rfl (fun ls hl => ?_)
        refine lv_iload hx hb dX1_passPath_39 (lv_at hl 0 rfl) ?_
        refine lv_if_eq (tgt := 47) hx hb dX1_passPath_41 (by decide) (fun c4 => False.elim (by revert c4; decide)) (fun c4 => ?_)
        refine lv_iload hx hb dX1_passPath_44 (lv_at hl 0 rfl) ?_
        exact gIret hX hr hlk hI ⟨by rw [← hE, zDown, hjC, if_pos hno], by rw [← hE, zDown, hjC, if_pos hno]⟩ dX1_passPath_46
      · obtain ⟨i, hi, hiE⟩ := (hgT.2.2.2.1 j hj).resolve_left hno
        have hiC : (τ.1 9 j).toNatClampNeg = i := by rw [hiE]; exact nI_clamp (by omega)
        refine gTopQ (y := some (ad i)) (hr3E.trans (gfh_at hj (by omega) hiE)) ?_
        refine gTopR ?_
        refine lv_astore_n (lv' := [(3, .ref (ad i)), (0, .ref g), (2, .int (nI (r + 1) - 1))]) hx hb dX1_passPath_23 rfl hl (by decide) rfl (fun ls hl => ?_)
        refine lv_aload_n hx hb dX1_passPath_24 rfl (lv_at hl 0 rfl) ?_
        refine lv_ifnonnull (tgt := 32) hx hb dX1_passPath_25 (by decide) ?_
        refine lv_aload_n hx hb dX1_passPath_32 rfl (lv_at hl 1 rfl) ?_
        refine lv_aload_n hx hb dX1_passPath_33 rfl (lv_at hl 0 rfl) ?_
        have hI : InW D A s.heap (wCn g q cI cH ad pf n τ) H locs := hI
        refine gCalli (va_runV (As := [.ref (ad i)]) (rest := []) hX (c_X1_passInto l D cI cH g q ad pf n τ _ i w' hi (by omega) hgT hkT) (cwV 1 hts gX1_passPath_X1_passInto rfl rfl rfl (by decide +kernel) ⟨Nat.le_of_ble_eq_true rfl, Nat.le_of_ble_eq_true rfl⟩) ⟨gPre_blind, gRecv hI hK (ci := 1) (q0 := 0) rfl rfl, gPre_ok hI hK hN⟩ rfl rfl hl.1 rfl (lv_room (Nat.le_of_ble_eq_true rfl)) dX1_passPath_34 ⟨Nat.zero_le _, Nat.zero_le _⟩) hI hA (fun r5 ur5 H locs hr5 hI => ?_)
        obtain ⟨hr5, rfl⟩ := hr5
        refine lv_istore (lv' := [(4, .int (r5)), (3, .ref (ad i)), (0, .ref g), (2, .int (nI (r + 1) - 1))]) hx hb dX1_passPath_37 hl (by decide) rfl (fun ls hl => ?_)
        refine lv_iload hx hb dX1_passPath_39 (lv_at hl 0 rfl) ?_
        refine lv_if_eq (tgt := 47) hx hb dX1_passPath_41 (by decide) (fun c6 => ?_) (fun c6 => ?_)
        · obtain ⟨x7, ex7⟩ : ∃ y : Int32, y = nI (r + 1) - 1 + (-1) := ⟨_, rfl⟩
          refine lv_iinc (v := x7) (lv' := [(2, .int (x7)), (4, .int (r5)), (3, .ref (ad i)), (0, .ref g)]) hx hb dX1_passPath_47 hl (k := 3) rfl (by rw [ex7]; rfl) (by decide) rfl (fun ls hl => ?_)
          refine lv_goto (tgt := 9) hx hb dX1_passPath_50 (by decide) ?_
          have hX4 : x7 = (nI r) - 1 := by rw [ex7, nI_pred]; exact (Int32.sub_eq_add_neg _ _).symm
          rw [hX4] at hl
          exact ih (w' + 1) _ _ _ ls (by omega) (by omega) (gI_pass hi (by omega) hgT) (gKd_of k_pass hkT) (by rw [← hE, zDown, hjC, if_neg hno, hiC, if_pos (by rw [← hr5]; exact c6)]) hI (lv_sub hl [3, 0] rfl)
        · refine lv_iload hx hb dX1_passPath_44 (lv_at hl 0 rfl) ?_
          exact gIret hX hr hlk hI ⟨by rw [← hE, zDown, hjC, if_neg hno, hiC, if_neg (by rw [← hr5]; exact c6)]; exact hr5, by rw [← hE, zDown, hjC, if_neg hno, hiC, if_neg (by rw [← hr5]; exact c6)]⟩ dX1_passPath_46
  exact loop L w σ _ _ ls (Nat.le_refl _) (by omega) hg hkd rfl hI (lv_sub hl [1, 0] rfl)
set_option maxRecDepth 100000 in
theorem iX1_leaveUntil_0 : ∀ w ∈ wsX00, w ∈ wsX1_leaveUntil := by decide +kernel
set_option maxRecDepth 100000 in
theorem iX1_leaveUntil_1 : ∀ w ∈ wsX10, w ∈ wsX1_leaveUntil := by decide +kernel
set_option maxHeartbeats 4000000 in
set_option maxRecDepth 100000 in
theorem c_X1_leaveUntil (l : Launch) (D : va_G) (cI cH : ClassId) (g : Nat) (q : Nat → Nat) (ad : Nat → Nat) (pf : Nat → Int32) (n : Nat) (σ : gh_S) (sz : Nat) (d w : Nat) (hd : d ≤ w) (hg : gI n w σ) : gMv l yX1_leaveUntil wsX1_leaveUntil ({ frames := 1, cells := 0, slots := 0, locals := 21 }) D (wCn g q cI cH ad pf n σ) (gTy cI cH) sz [.ref g, .int (nI d)] (fun u => u = wCn g q cI cH ad pf n (zPops σ (w - d))) := by
  refine gEnter (cc := cX1_leaveUntil) (maxL := 3) (ret := none) (QF := fun A => va_Qv _ (gPost D A) A) (by decide) rfl (Nat.le_of_ble_eq_true rfl) ?_
  intro p e s m below meth c A ls hX hr hlk hnm hK hN hA hI hl
  have hx := hX.1
  have hb := hX.2.1
  have hts := hX.2.2.2.2
  have hown : s.vm.findClass RX1 = some m.cls := hX.2.2.2.1
  have hin0 := iX1_leaveUntil_0
  have hin1 := iX1_leaveUntil_1
  have hl : lv_has ls 3 [(0, .ref g), (1, .int (nI d))] := hl
  have hI : InW D A s.heap (wCr g q cI cH ad pf (gfh ad σ) (gfp ad σ) n σ) s.heap [] := hI
  have hw30 := hg.2.2.2.2.2.2.2.1
  have loop : ∀ (k : Nat) (τ : gh_S) (H : Heap) (locs : List Loc) (ls : Array Slot), gI n (d + k) τ → zPops τ k = zPops σ (w - d) → InW D A s.heap (wCn g q cI cH ad pf n τ) H locs → lv_has ls 3 [(0, .ref g), (1, .int (nI d))] → W p l e ({ frames := 1, cells := 0, slots := 0, locals := 21 }) s m ([.ref g, .int (nI d)] : List Value).toArray below meth c H locs 0 0 (MQ below (va_Qv (fun u => u = wCn g q cI cH ad pf n (zPops σ (w - d))) (gPost D A) A) ([.ref g, .int (nI d)] : List Value).toArray s 0 0 A) (F0 m 0 ls []) := by
    intro k
    induction k with
    | zero =>
      intro τ H locs ls hgT hE hI hl
      refine lv_aload_n hx hb dX1_leaveUntil_0 rfl (lv_at hl 0 rfl) ?_
      refine cGet (v := .int (τ.2 17)) hX hin1 hK hI 6 (by decide) (hts (.fieldLink RX1 96 "GateHalls" "depth" "I") (by decide +kernel)) rfl dX1_leaveUntil_1 ?_
      refine lv_iload_n hx hb dX1_leaveUntil_4 rfl (lv_at hl 1 rfl) ?_
      refine lv_icmp_le (tgt := 85) hx hb dX1_leaveUntil_5 (by decide) (fun c1 => ?_) (fun c1 => absurd (by rw [hgT.2.1]; exact nI_le (Nat.le_refl _) (by omega)) c1)
      exact gVret hX hr hlk hI (by rw [← hE]; rfl) dX1_leaveUntil_85
    | succ k ih =>
      intro τ H locs ls hgT hE hI hl
      have hT30 := hgT.2.2.2.2.2.2.2.1
      have hTn := hgT.2.2.2.2.2.2.1
      obtain ⟨i, hi, hiE⟩ := hgT.2.2.2.2.2.1 (d + k) (by omega)
      have hp := gI_pop (w := d + k) hgT
      have e1 : τ.2 17 - 1 = nI (d + k) := by rw [hgT.2.1]; exact nI_pred _
      refine lv_aload_n hx hb dX1_leaveUntil_0 rfl (lv_at hl 0 rfl) ?_
      refine cGet (v := .int (τ.2 17)) hX hin1 hK hI 6 (by decide) (hts (.fieldLink RX1 96 "GateHalls" "depth" "I") (by decide +kernel)) rfl dX1_leaveUntil_1 ?_
      refine lv_iload_n hx hb dX1_leaveUntil_4 rfl (lv_at hl 1 rfl) ?_
      refine lv_icmp_le (tgt := 85) hx hb dX1_leaveUntil_5 (by decide) (fun c2 => absurd c2 (by rw [hgT.2.1]; exact nI_ge (by omega) (by omega))) (fun c2 => ?_)
      refine lv_aload_n hx hb dX1_leaveUntil_8 rfl (lv_at hl 0 rfl) ?_
      refine cGet (v := .int (τ.2 17)) hX hin1 hK hI 6 (by decide) (hts (.fieldLink RX1 96 "GateHalls" "depth" "I") (by decide +kernel)) rfl dX1_leaveUntil_9 ?_
      refine lv_if_le (tgt := 85) hx hb dX1_leaveUntil_12 (by decide) (fun c3 => absurd c3 (by rw [hgT.2.1]; exact nI_nle (by omega) (by omega))) (fun c3 => ?_)
      refine lv_aload_n hx hb dX1_leaveUntil_15 rfl (lv_at hl 0 rfl) ?_
      refine cGet (v := .int (τ.2 17)) hX hin1 hK hI 6 (by decide) (hts (.fieldLink RX1 96 "GateHalls" "depth" "I") (by decide +kernel)) rfl dX1_leaveUntil_16 ?_
      refine lv_aload_n hx hb dX1_leaveUntil_19 rfl (lv_at hl 0 rfl) ?_
      refine cGet (v := .ref (q 5)) hX hin1 hK hI 5 (by decide) (hts (.fieldLink RX1 22 "GateHalls" "passed" "[LGateHalls$Hall;") (by decide +kernel)) rfl dX1_leaveUntil_20 ?_
      refine gAlen (n := 30) hX hK hI 4 1 rfl rfl rfl dX1_leaveUntil_23 ?_
      refine lv_icmp_gt (tgt := 85) hx hb dX1_leaveUntil_24 (by decide) (fun c4 => absurd c4 (by rw [hgT.2.1]; exact nI_nlt (by omega) (by omega))) (fun c4 => ?_)
      refine lv_aload_n hx hb dX1_leaveUntil_27 rfl (lv_at hl 0 rfl) ?_
      refine lv_dup hx hb dX1_leaveUntil_28 rfl ?_
      refine cGet (v := .int (τ.2 17)) hX hin1 hK hI 6 (by decide) (hts (.fieldLink RX1 96 "GateHalls" "depth" "I") (by decide +kernel)) rfl dX1_leaveUntil_29 ?_
      refine lv_iconst (v := 1) hx hb dX1_leaveUntil_32 (by decide) ?_
      refine lv_isub hx hb dX1_leaveUntil_33 ?_
      refine cPut (σ' := (uS τ 17 ((τ.2 17) - (1)))) hX hin1 hK hI 6 (by decide) (hts (.fieldLink RX1 96 "GateHalls" "depth" "I") (by decide +kernel)) rfl rfl rfl dX1_leaveUntil_34 (fun H locs hI => ?_)
      refine lv_aload_n hx hb dX1_leaveUntil_37 rfl (lv_at hl 0 rfl) ?_
      refine cGet (v := .ref (q 5)) hX hin1 hK hI 5 (by decide) (hts (.fieldLink RX1 22 "GateHalls" "passed" "[LGateHalls$Hall;") (by decide +kernel)) rfl dX1_leaveUntil_38 ?_
      refine lv_aload_n hx hb dX1_leaveUntil_41 rfl (lv_at hl 0 rfl) ?_
      refine cGet (v := .int ((τ.2 17) - (1))) hX hin1 hK hI 6 (by decide) (hts (.fieldLink RX1 96 "GateHalls" "depth" "I") (by decide +kernel)) rfl dX1_leaveUntil_42 ?_
      refine gQld (j := d + k) hX hK hI 4 1 rfl rfl e1 (by omega) (by decide) dX1_leaveUntil_45 ?_
      refine gTopQ (y := some (ad i)) (gfp_at hgT.2.1 (by omega) (by omega) (by omega) hiE) ?_
      refine gTopR ?_
      refine lv_astore_n (lv' := [(2, .ref (ad i)), (0, .ref g), (1, .int (nI d))]) hx hb dX1_leaveUntil_46 rfl hl (by decide) rfl (fun ls hl => ?_)
      refine lv_aload_n hx hb dX1_leaveUntil_47 rfl (lv_at hl 1 rfl) ?_
      refine cGet (v := .ref (q 5)) hX hin1 hK hI 5 (by decide) (hts (.fieldLink RX1 22 "GateHalls" "passed" "[LGateHalls$Hall;") (by decide +kernel)) rfl dX1_leaveUntil_48 ?_
      refine lv_aload_n hx hb dX1_leaveUntil_51 rfl (lv_at hl 1 rfl) ?_
      refine cGet (v := .int ((τ.2 17) - (1))) hX hin1 hK hI 6 (by decide) (hts (.fieldLink RX1 96 "GateHalls" "depth" "I") (by decide +kernel)) rfl dX1_leaveUntil_52 ?_
      refine lv_null hx hb dX1_leaveUntil_55 ?_
      refine gQstN (j := d + k) (w' := wCr g q cI cH ad pf (gfh ad τ) (va_up (gfp ad τ) (d + k) none) n (uS τ 17 ((τ.2 17) - (1)))) hX hK hI 4 1 rfl rfl e1 (by omega) (by decide) rfl dX1_leaveUntil_56 (fun H locs hI => ?_)
      have hI : InW D A s.heap (wCn g q cI cH ad pf n (uS τ 17 (τ.2 17 - 1))) H locs := by
        show InW _ _ _ (wCr _ _ _ _ _ _ _ (gfp ad (uS τ 17 (τ.2 17 - 1))) _ _) _ _
        rw [← gfp_pop (w := d + k) hgT.2.1 (by omega)]
        exact hI
      refine lv_aload_n hx hb dX1_leaveUntil_57 rfl (lv_at hl 0 rfl) ?_
      refine lv_ifnull hx hb dX1_leaveUntil_58 ?_
      refine lv_aload_n hx hb dX1_leaveUntil_61 rfl (lv_at hl 0 rfl) ?_
      refine lv_dup hx hb dX1_leaveUntil_62 rfl ?_
      refine hGet (i := i) (v := .int ((uS τ 17 (τ.2 17 - 1)).1 7 (i))) hX hin0 hK hI hi 7 (by decide) hN.2.2.2.1 rfl dX1_leaveUntil_63 ?_
      refine gTop (y := τ.1 7 (i)) (by simp [uA, uS, upd]) ?_
      refine lv_iconst (v := 1) hx hb dX1_leaveUntil_66 (by decide) ?_
      refine lv_isub hx hb dX1_leaveUntil_67 ?_
      refine hPut (i := i) hX hin0 hK hI hi 7 (by decide) hN.2.2.2.1 rfl rfl gHs7 (by decide) (by decide) dX1_leaveUntil_68 (fun H locs hI => ?_)
      refine lv_aload_n hx hb dX1_leaveUntil_71 rfl (lv_at hl 1 rfl) ?_
      refine lv_bipush (v := 100) hx hb dX1_leaveUntil_72 (by decide) ?_
      refine lv_aload_n hx hb dX1_leaveUntil_74 rfl (lv_at hl 0 rfl) ?_
      have hI : InW D A s.heap (wCn g q cI cH ad pf n (uA (uS τ 17 (τ.2 17 - 1)) 7 (i) ((τ.1 7 (i)) - (1)))) H locs := hI
      refine gCalli (va_runVN (As := []) (rest := [.int (100), .ref g]) hX (c_X0_mark l D cI cH (wCn g q cI cH ad pf n (uA (uS τ 17 (τ.2 17 - 1)) 7 (i) ((τ.1 7 (i)) - (1)))) (ad i) (6 + i) (nI i) ((uA (uS τ 17 (τ.2 17 - 1)) 7 (i) ((τ.1 7 (i)) - (1))).1 1 i) ((uA (uS τ 17 (τ.2 17 - 1)) 7 (i) ((τ.1 7 (i)) - (1))).1 2 i) ((uA (uS τ 17 (τ.2 17 - 1)) 7 (i) ((τ.1 7 (i)) - (1))).1 3 i) ((uA (uS τ 17 (τ.2 17 - 1)) 7 (i) ((τ.1 7 (i)) - (1))).1 4 i) ((uA (uS τ 17 (τ.2 17 - 1)) 7 (i) ((τ.1 7 (i)) - (1))).1 5 i) ((uA (uS τ 17 (τ.2 17 - 1)) 7 (i) ((τ.1 7 (i)) - (1))).1 6 i) ((uA (uS τ 17 (τ.2 17 - 1)) 7 (i) ((τ.1 7 (i)) - (1))).1 7 i) ((uA (uS τ 17 (τ.2 17 - 1)) 7 (i) ((τ.1 7 (i)) - (1))).1 8 i) H.size  (wCr_hall hi)) ⟨va_cnB 0 hts gX1_leaveUntil_X0_mark_n120 rfl rfl rfl hN.2.2.2.2.2.2.1 (hts (.initialized RX0) (by decide +kernel)) (by decide +kernel) ⟨Nat.le_of_ble_eq_true rfl, Nat.le_of_ble_eq_true rfl⟩, hts (.instanceMethod yX0_mark) (by decide +kernel), hts (.selects RX0 yX0_mark yX0_mark) (by decide +kernel)⟩ ⟨gPre_blind, gRecv hI hK (ci := 0) (q0 := 6 + i) rfl (wCr_hall hi), gPre_ok hI hK hN⟩ rfl rfl hl.1 rfl (lv_room (Nat.le_of_ble_eq_true rfl)) dX1_leaveUntil_75 ⟨Nat.zero_le _, Nat.zero_le _⟩) hI hA (fun r5 ur5 H locs hr5 hI => ?_)
      obtain ⟨hr5, rfl⟩ := hr5
      refine lv_iadd hx hb dX1_leaveUntil_78 ?_
      have hI : InW D A s.heap (wCn g q cI cH ad pf n (uA (uS τ 17 (τ.2 17 - 1)) 7 (i) ((τ.1 7 (i)) - (1)))) H locs := hI
      refine gCallv (va_runV (As := [.int (100 + r5)]) (rest := []) hX (c_X1_leaveMark l D cI cH g q ad pf n (uA (uS τ 17 (τ.2 17 - 1)) 7 (i) ((τ.1 7 (i)) - (1))) _ (100 + r5) (d + k) (gI_uH 7 i _ hi (by decide) (gI_dec hgT))) (cwV 1 hts gX1_leaveUntil_X1_leaveMark rfl rfl rfl (by decide +kernel) ⟨Nat.le_of_ble_eq_true rfl, Nat.le_of_ble_eq_true rfl⟩) ⟨gPre_blind, gRecv hI hK (ci := 1) (q0 := 0) rfl rfl, gPre_ok hI hK hN⟩ rfl rfl hl.1 rfl (lv_room (Nat.le_of_ble_eq_true rfl)) dX1_leaveUntil_79 ⟨Nat.zero_le _, Nat.zero_le _⟩) hI hA (fun ur6 H locs hr6 hI => ?_)
      subst hr6
      have hI : InW D A s.heap (wCn g q cI cH ad pf n (zPop τ)) H locs := by
        rw [zPop_eq (w := d + k) (i := i) (by omega) (by omega) hgT.2.1 hiE]
        rw [e1, hr5] at hI
        exact hI
      refine lv_goto (tgt := 0) hx hb dX1_leaveUntil_82 (by decide) ?_
      exact ih (zPop τ) _ _ ls hp hE hI (lv_sub hl [1, 2] rfl)
  exact loop (w - d) σ _ _ ls (by rw [show d + (w - d) = w by omega]; exact hg) rfl hI (lv_sub hl [0, 1] rfl)
theorem g_neg {x : Int32} (h : ¬ 0 ≤ x) : x < 0 := g_lt_of_nle h
theorem g_nneg {x : Int32} (h : 0 ≤ x) : ¬ x < 0 := g_nlt_of_le h
set_option maxRecDepth 100000 in
theorem iX1_seekPartner_0 : ∀ w ∈ wsX00, w ∈ wsX1_seekPartner := by decide +kernel
set_option maxRecDepth 100000 in
theorem iX1_seekPartner_1 : ∀ w ∈ wsX10, w ∈ wsX1_seekPartner := by decide +kernel
set_option maxHeartbeats 4000000 in
set_option maxRecDepth 100000 in
theorem c_X1_seekPartner (l : Launch) (D : va_G) (cI cH : ClassId) (g : Nat) (q : Nat → Nat) (ad : Nat → Nat) (pf : Nat → Int32) (n : Nat) (σ : gh_S) (sz : Nat) (a x w : Nat) (sum : Int64) (ha : a < 10) (hxn : x < n) (hg : gI n w σ) : gMi l yX1_seekPartner wsX1_seekPartner ({ frames := 2, cells := 0, slots := 0, locals := 41 }) D (wCn g q cI cH ad pf n σ) (gTy cI cH) sz [.ref g, .int (nI a), .ref (ad x), .long (sum)] (fun r u => r = (zSB x sum (9 - a) (a + 1) σ).1 ∧ u = wCn g q cI cH ad pf n (zSB x sum (9 - a) (a + 1) σ).2) := by
  refine gEnter (cc := cX1_seekPartner) (maxL := 7) (ret := (some .int)) (QF := fun A => va_Qi _ (gPost D A) A) (by decide) rfl (Nat.le_of_ble_eq_true rfl) ?_
  intro p e s m below meth c A ls hX hr hlk hnm hK hN hA hI hl
  have hx := hX.1
  have hb := hX.2.1
  have hts := hX.2.2.2.2
  have hown : s.vm.findClass RX1 = some m.cls := hX.2.2.2.1
  have hin0 := iX1_seekPartner_0
  have hin1 := iX1_seekPartner_1
  have hl : lv_has ls 7 [(0, .ref g), (1, .int (nI a)), (2, .ref (ad x)), (3, .long (sum))] := hl
  have hI : InW D A s.heap (wCr g q cI cH ad pf (gfh ad σ) (gfp ad σ) n σ) s.heap [] := hI
  refine lv_iload_n hx hb dX1_seekPartner_0 rfl (lv_at hl 1 rfl) ?_
  refine lv_iconst (v := 1) hx hb dX1_seekPartner_1 (by decide) ?_
  refine lv_iadd hx hb dX1_seekPartner_2 ?_
  refine gTop (y := nI (a + 1)) (nI_1 a) ?_
  refine lv_istore (lv' := [(5, .int (nI (a + 1))), (0, .ref g), (1, .int (nI a)), (2, .ref (ad x)), (3, .long (sum))]) hx hb dX1_seekPartner_3 hl (by decide) rfl (fun ls hl => ?_)
  have loop : ∀ (k b : Nat) (τ : gh_S) (H : Heap) (locs : List Loc) (ls : Array Slot), b + k = 10 → gI n w τ → zSB x sum k b τ = zSB x sum (9 - a) (a + 1) σ → InW D A s.heap (wCn g q cI cH ad pf n τ) H locs → lv_has ls 7 [(0, .ref g), (2, .ref (ad x)), (3, .long (sum)), (5, .int (nI b))] → W p l e ({ frames := 2, cells := 0, slots := 0, locals := 41 }) s m ([.ref g, .int (nI a), .ref (ad x), .long (sum)] : List Value).toArray below meth c H locs 0 0 (MQ below (va_Qi (fun r u => r = (zSB x sum (9 - a) (a + 1) σ).1 ∧ u = wCn g q cI cH ad pf n (zSB x sum (9 - a) (a + 1) σ).2) (gPost D A) A) ([.ref g, .int (nI a), .ref (ad x), .long (sum)] : List Value).toArray s 0 0 A) (F0 m 5 ls []) := by
    intro k
    induction k with
    | zero =>
      intro b τ H locs ls hb2 hgT hB hI hl
      refine lv_iload hx hb dX1_seekPartner_5 (lv_at hl 3 rfl) ?_
      refine lv_bipush (v := 10) hx hb dX1_seekPartner_7 (by decide) ?_
      refine lv_icmp_ge (tgt := 72) hx hb dX1_seekPartner_9 (by decide) (fun c1 => ?_) (fun c1 => absurd (g_le (B := 10) rfl (by omega) (by omega)) c1)
      refine lv_iconst (v := (-1)) hx hb dX1_seekPartner_72 (by decide) ?_
      exact gIret hX hr hlk hI ⟨by rw [← hB]; rfl, by rw [← hB]; rfl⟩ dX1_seekPartner_73
    | succ k ih =>
      intro b τ H locs ls hb2 hgT hB hI hl
      have hTn := hgT.2.2.2.2.2.2.1
      refine lv_iload hx hb dX1_seekPartner_5 (lv_at hl 3 rfl) ?_
      refine lv_bipush (v := 10) hx hb dX1_seekPartner_7 (by decide) ?_
      refine lv_icmp_ge (tgt := 72) hx hb dX1_seekPartner_9 (by decide) (fun c2 => absurd c2 (g_nle (B := 10) rfl (by omega) (by decide))) (fun c2 => ?_)
      refine lv_aload_n hx hb dX1_seekPartner_12 rfl (lv_at hl 0 rfl) ?_
      refine lv_iload hx hb dX1_seekPartner_13 (lv_at hl 3 rfl) ?_
      have hI : InW D A s.heap (wCn g q cI cH ad pf n τ) H locs := hI
      refine gCallq (va_runV (As := [.int (nI b)]) (rest := []) hX (c_X1_hallAt l D cI cH g q ad pf n τ _ (nI b)) (cwV 1 hts gX1_seekPartner_X1_hallAt rfl rfl rfl (by decide +kernel) ⟨Nat.le_of_ble_eq_true rfl, Nat.le_of_ble_eq_true rfl⟩) ⟨gPre_blind, gRecv hI hK (ci := 1) (q0 := 0) rfl rfl, gPre_ok hI hK hN⟩ rfl rfl hl.1 rfl (lv_room (Nat.le_of_ble_eq_true rfl)) dX1_seekPartner_15 ⟨Nat.zero_le _, Nat.zero_le _⟩) hI hA (fun r3 ur3 H locs hr3 hI => ?_)
      obtain ⟨rfl, hr3⟩ := hr3
      have hr3E := g_hallAt (by omega) hr3
      by_cases hno : τ.1 9 b = -1
      · refine gTopQ (y := none) (hr3E.trans (gfh_no hno)) ?_
        refine gTopN ?_
        refine lv_astoreN (lv' := [(6, .null), (0, .ref g), (2, .ref (ad x)), (3, .long (sum)), (5, .int (nI b))]) hx hb dX1_seekPartner_18 hl (by decide) rfl (fun ls hl => ?_)
        refine lv_aloadN hx hb dX1_seekPartner_20 (lv_at hl 0 rfl) ?_
        refine lv_ifnullN (tgt := 66) hx hb dX1_seekPartner_22 (by decide) ?_
        refine lv_iinc (v := nI (b + 1)) (lv' := [(5, .int (nI (b + 1))), (6, .null), (0, .ref g), (2, .ref (ad x)), (3, .long (sum))]) hx hb dX1_seekPartner_66 hl (k := 4) rfl (nI_1 _) (by decide) rfl (fun ls hl => ?_)
        refine lv_goto (tgt := 5) hx hb dX1_seekPartner_69 (by decide) ?_
        exact ih (b + 1) τ _ _ ls (by omega) hgT (by rw [← hB, zSB, if_pos hno]) hI (lv_sub hl [2, 3, 4, 0] rfl)
      · obtain ⟨y, hy, hyE⟩ := (hgT.2.2.2.1 b (by omega)).resolve_left hno
        have hyC : (τ.1 9 b).toNatClampNeg = y := by rw [hyE]; exact nI_clamp (by omega)
        refine gTopQ (y := some (ad y)) (hr3E.trans (gfh_at (by omega) (by omega) hyE)) ?_
        refine gTopR ?_
        refine lv_astore (lv' := [(6, .ref (ad y)), (0, .ref g), (2, .ref (ad x)), (3, .long (sum)), (5, .int (nI b))]) hx hb dX1_seekPartner_18 hl (by decide) rfl (fun ls hl => ?_)
        refine lv_aload hx hb dX1_seekPartner_20 (lv_at hl 0 rfl) ?_
        refine lv_ifnull hx hb dX1_seekPartner_22 ?_
        refine lv_aload hx hb dX1_seekPartner_25 (lv_at hl 0 rfl) ?_
        refine lv_dup hx hb dX1_seekPartner_27 rfl ?_
        refine hGet (i := y) (v := .int (τ.1 5 (y))) hX hin0 hK hI hy 5 (by decide) hN.2.2.1 rfl dX1_seekPartner_28 ?_
        refine lv_iconst (v := 1) hx hb dX1_seekPartner_31 (by decide) ?_
        refine lv_iadd hx hb dX1_seekPartner_32 ?_
        refine hPut (i := y) hX hin0 hK hI hy 5 (by decide) hN.2.2.1 rfl rfl gHs5 (by decide) (by decide) dX1_seekPartner_33 (fun H locs hI => ?_)
        refine lv_aload_n hx hb dX1_seekPartner_36 rfl (lv_at hl 2 rfl) ?_
        refine hGet (i := x) (v := .int ((uA τ 5 (y) ((τ.1 5 (y)) + (1))).1 3 (x))) hX hin0 hK hI hxn 3 (by decide) hN.2.1 rfl dX1_seekPartner_37 ?_
        refine gTop (y := τ.1 3 (x)) (by simp [uA, uS, upd]) ?_
        refine lv_i2l (v := Int32.toInt64 (τ.1 3 (x))) hx hb dX1_seekPartner_40 rfl ?_
        refine lv_aload hx hb dX1_seekPartner_41 (lv_at hl 0 rfl) ?_
        refine hGet (i := y) (v := .int ((uA τ 5 (y) ((τ.1 5 (y)) + (1))).1 3 (y))) hX hin0 hK hI hy 3 (by decide) hN.2.1 rfl dX1_seekPartner_43 ?_
        refine gTop (y := τ.1 3 (y)) (by simp [uA, uS, upd]) ?_
        refine lv_i2l (v := Int32.toInt64 (τ.1 3 (y))) hx hb dX1_seekPartner_46 rfl ?_
        refine lv_ladd hx hb dX1_seekPartner_47 ?_
        refine lv_lload_n hx hb dX1_seekPartner_48 rfl (lv_at hl 3 rfl) ?_
        refine W.lcmp hx hb dX1_seekPartner_49 ?_
        refine lv_if_ne (tgt := 56) hx hb dX1_seekPartner_50 (by decide) (fun c4 => ?_) (fun c4 => ?_)
        · refine lv_aload hx hb dX1_seekPartner_56 (lv_at hl 0 rfl) ?_
          refine hGet (i := y) (v := .int ((uA τ 5 (y) ((τ.1 5 (y)) + (1))).1 3 (y))) hX hin0 hK hI hy 3 (by decide) hN.2.1 rfl dX1_seekPartner_58 ?_
          refine gTop (y := τ.1 3 (y)) (by simp [uA, uS, upd]) ?_
          refine lv_if_ge (tgt := 66) hx hb dX1_seekPartner_61 (by decide) (fun c5 => ?_) (fun c5 => ?_)
          · refine lv_iinc (v := nI (b + 1)) (lv' := [(5, .int (nI (b + 1))), (6, .ref (ad y)), (0, .ref g), (2, .ref (ad x)), (3, .long (sum))]) hx hb dX1_seekPartner_66 hl (k := 4) rfl (nI_1 _) (by decide) rfl (fun ls hl => ?_)
            refine lv_goto (tgt := 5) hx hb dX1_seekPartner_69 (by decide) ?_
            rw [zSB, if_neg hno] at hB; dsimp only at hB; rw [hyC, if_neg c4, if_neg (g_nneg c5)] at hB
            exact ih (b + 1) _ _ _ ls (by omega) (gI_ask hy hgT) hB hI (lv_sub hl [2, 3, 4, 0] rfl)
          · refine lv_iconst (v := (-1)) hx hb dX1_seekPartner_64 (by decide) ?_
            rw [zSB, if_neg hno] at hB; dsimp only at hB; rw [hyC, if_neg c4, if_pos (g_neg c5)] at hB
            exact gIret hX hr hlk hI ⟨by rw [← hB], by rw [← hB]; rfl⟩ dX1_seekPartner_65
        · refine lv_iload hx hb dX1_seekPartner_53 (lv_at hl 4 rfl) ?_
          rw [zSB, if_neg hno] at hB; dsimp only at hB; rw [hyC, if_pos c4] at hB
          exact gIret hX hr hlk hI ⟨by rw [← hB], by rw [← hB]; rfl⟩ dX1_seekPartner_55
  exact loop (9 - a) (a + 1) σ _ _ ls (by omega) hg rfl hI (lv_sub hl [1, 3, 4, 0] rfl)
theorem gI_SB {n w x : Nat} {sum : Int64} : ∀ (f b : Nat) {σ : gh_S}, b + f ≤ 10 → gI n w σ → gI n w (zSB x sum f b σ).2
  | 0, _, _, _, hg => hg
  | f + 1, b, σ, hb, hg => by
    unfold zSB
    by_cases hno : σ.1 9 b = -1
    · rw [if_pos hno]; exact gI_SB f (b + 1) (by omega) hg
    · rw [if_neg hno]
      obtain ⟨y, hy, hyE⟩ := (hg.2.2.2.1 b (by omega)).resolve_left hno
      have hn4 := hg.2.2.2.2.2.2.1
      have hyC : (σ.1 9 b).toNatClampNeg = y := by rw [hyE]; exact nI_clamp (by omega)
      dsimp only
      rw [hyC]
      split
      · exact gI_ask hy hg
      · split
        · exact gI_ask hy hg
        · exact gI_SB f (b + 1) (by omega) (gI_ask hy hg)
set_option maxRecDepth 100000 in
theorem iX1_seek_0 : ∀ w ∈ wsX00, w ∈ wsX1_seek := by decide +kernel
set_option maxRecDepth 100000 in
theorem iX1_seek_1 : ∀ w ∈ wsX10, w ∈ wsX1_seek := by decide +kernel
set_option maxHeartbeats 4000000 in
set_option maxRecDepth 100000 in
theorem c_X1_seek (l : Launch) (D : va_G) (cI cH : ClassId) (g : Nat) (q : Nat → Nat) (ad : Nat → Nat) (pf : Nat → Int32) (n : Nat) (σ : gh_S) (sz : Nat) (sum : Int64) (w : Nat) (hg : gI n w σ) : gMi l yX1_seek wsX1_seek ({ frames := 3, cells := 0, slots := 0, locals := 67 }) D (wCn g q cI cH ad pf n σ) (gTy cI cH) sz [.ref g, .long (sum)] (fun r u => r = (sSeek σ sum).1 ∧ u = wCn g q cI cH ad pf n (sSeek σ sum).2) := by
  refine gEnter (cc := cX1_seek) (maxL := 6) (ret := (some .int)) (QF := fun A => va_Qi _ (gPost D A) A) (by decide) rfl (Nat.le_of_ble_eq_true rfl) ?_
  intro p e s m below meth c A ls hX hr hlk hnm hK hN hA hI hl
  have hx := hX.1
  have hb := hX.2.1
  have hts := hX.2.2.2.2
  have hown : s.vm.findClass RX1 = some m.cls := hX.2.2.2.1
  have hin0 := iX1_seek_0
  have hin1 := iX1_seek_1
  have hl : lv_has ls 6 [(0, .ref g), (1, .long (sum))] := hl
  have hI : InW D A s.heap (wCr g q cI cH ad pf (gfh ad σ) (gfp ad σ) n σ) s.heap [] := hI
  refine lv_iconst (v := 0) hx hb dX1_seek_0 (by decide) ?_
  refine lv_istore_n (lv' := [(3, .int (0)), (0, .ref g), (1, .long (sum))]) hx hb dX1_seek_1 rfl hl (by decide) rfl (fun ls hl => ?_)
  have loop : ∀ (f a : Nat) (τ : gh_S) (H : Heap) (locs : List Loc) (ls : Array Slot), a + f = 10 → gI n w τ → zSA sum f a τ = sSeek σ sum → InW D A s.heap (wCn g q cI cH ad pf n τ) H locs → lv_has ls 6 [(0, .ref g), (1, .long (sum)), (3, .int (nI a))] → W p l e ({ frames := 3, cells := 0, slots := 0, locals := 67 }) s m ([.ref g, .long (sum)] : List Value).toArray below meth c H locs 0 0 (MQ below (va_Qi (fun r u => r = (sSeek σ sum).1 ∧ u = wCn g q cI cH ad pf n (sSeek σ sum).2) (gPost D A) A) ([.ref g, .long (sum)] : List Value).toArray s 0 0 A) (F0 m 2 ls []) := by
    intro f
    induction f with
    | zero =>
      intro a τ H locs ls ha hgT hE hI hl
      refine lv_iload_n hx hb dX1_seek_2 rfl (lv_at hl 2 rfl) ?_
      refine lv_bipush (v := 10) hx hb dX1_seek_3 (by decide) ?_
      refine lv_icmp_ge (tgt := 62) hx hb dX1_seek_5 (by decide) (fun c1 => ?_) (fun c1 => absurd (g_le (B := 10) rfl (by omega) (by omega)) c1)
      refine lv_iconst (v := (-1)) hx hb dX1_seek_62 (by decide) ?_
      exact gIret hX hr hlk hI ⟨by rw [← hE]; rfl, by rw [← hE]; rfl⟩ dX1_seek_63
    | succ f ih =>
      intro a τ H locs ls ha hgT hE hI hl
      have hTn := hgT.2.2.2.2.2.2.1
      refine lv_iload_n hx hb dX1_seek_2 rfl (lv_at hl 2 rfl) ?_
      refine lv_bipush (v := 10) hx hb dX1_seek_3 (by decide) ?_
      refine lv_icmp_ge (tgt := 62) hx hb dX1_seek_5 (by decide) (fun c2 => absurd c2 (g_nle (B := 10) rfl (by omega) (by decide))) (fun c2 => ?_)
      refine lv_aload_n hx hb dX1_seek_8 rfl (lv_at hl 0 rfl) ?_
      refine cGet (v := .ref (q 0)) hX hin1 hK hI 0 (by decide) (hts (.fieldLink RX1 11 "GateHalls" "halls" "[LGateHalls$Hall;") (by decide +kernel)) rfl dX1_seek_9 ?_
      refine lv_iload_n hx hb dX1_seek_12 rfl (lv_at hl 2 rfl) ?_
      refine gQld (j := a) hX hK hI 1 1 rfl rfl rfl (by omega) (by decide) dX1_seek_13 ?_
      by_cases hno : τ.1 9 a = -1
      · refine gTopQ (y := none) (gfh_no hno) ?_
        refine gTopN ?_
        refine lv_astoreN (lv' := [(4, .null), (0, .ref g), (1, .long (sum)), (3, .int (nI a))]) hx hb dX1_seek_14 hl (by decide) rfl (fun ls hl => ?_)
        refine lv_aloadN hx hb dX1_seek_16 (lv_at hl 0 rfl) ?_
        refine lv_ifnullN (tgt := 56) hx hb dX1_seek_18 (by decide) ?_
        refine lv_iinc (v := nI (a + 1)) (lv' := [(3, .int (nI (a + 1))), (4, .null), (0, .ref g), (1, .long (sum))]) hx hb dX1_seek_56 hl (k := 3) rfl (nI_1 _) (by decide) rfl (fun ls hl => ?_)
        refine lv_goto (tgt := 2) hx hb dX1_seek_59 (by decide) ?_
        exact ih (a + 1) τ _ _ ls (by omega) hgT (by rw [← hE, zSA, if_pos hno]) hI (lv_sub hl [2, 3, 0] rfl)
      · obtain ⟨x, hx2, hxE⟩ := (hgT.2.2.2.1 a (by omega)).resolve_left hno
        have hxC : (τ.1 9 a).toNatClampNeg = x := by rw [hxE]; exact nI_clamp (by omega)
        refine gTopQ (y := some (ad x)) (gfh_at (by omega) (by omega) hxE) ?_
        refine gTopR ?_
        refine lv_astore (lv' := [(4, .ref (ad x)), (0, .ref g), (1, .long (sum)), (3, .int (nI a))]) hx hb dX1_seek_14 hl (by decide) rfl (fun ls hl => ?_)
        refine lv_aload hx hb dX1_seek_16 (lv_at hl 0 rfl) ?_
        refine lv_ifnull hx hb dX1_seek_18 ?_
        refine lv_aload hx hb dX1_seek_21 (lv_at hl 0 rfl) ?_
        refine lv_dup hx hb dX1_seek_23 rfl ?_
        refine hGet (i := x) (v := .int (τ.1 5 (x))) hX hin0 hK hI hx2 5 (by decide) hN.2.2.1 rfl dX1_seek_24 ?_
        refine lv_iconst (v := 1) hx hb dX1_seek_27 (by decide) ?_
        refine lv_iadd hx hb dX1_seek_28 ?_
        refine hPut (i := x) hX hin0 hK hI hx2 5 (by decide) hN.2.2.1 rfl rfl gHs5 (by decide) (by decide) dX1_seek_29 (fun H locs hI => ?_)
        refine lv_aload_n hx hb dX1_seek_32 rfl (lv_at hl 1 rfl) ?_
        refine lv_iload_n hx hb dX1_seek_33 rfl (lv_at hl 3 rfl) ?_
        refine lv_aload hx hb dX1_seek_34 (lv_at hl 0 rfl) ?_
        refine lv_lload_n hx hb dX1_seek_36 rfl (lv_at hl 2 rfl) ?_
        have hI : InW D A s.heap (wCn g q cI cH ad pf n (uA τ 5 (x) ((τ.1 5 (x)) + (1)))) H locs := hI
        refine gCalli (va_runV (As := [.int (nI a), .ref (ad x), .long (sum)]) (rest := []) hX (c_X1_seekPartner l D cI cH g q ad pf n (uA τ 5 (x) ((τ.1 5 (x)) + (1))) _ a x w sum (by omega) hx2 (gI_ask hx2 hgT)) (cwV 3 hts gX1_seek_X1_seekPartner rfl rfl rfl (by decide +kernel) ⟨Nat.le_of_ble_eq_true rfl, Nat.le_of_ble_eq_true rfl⟩) ⟨gPre_blind, gRecv hI hK (ci := 1) (q0 := 0) rfl rfl, gPre_ok hI hK hN⟩ rfl rfl hl.1 rfl (lv_room (Nat.le_of_ble_eq_true rfl)) dX1_seek_37 ⟨Nat.zero_le _, Nat.zero_le _⟩) hI hA (fun r3 ur3 H locs hr3 hI => ?_)
        obtain ⟨hr3, rfl⟩ := hr3
        have hE2 : zSA sum (f + 1) a τ = (if (zSB x sum (9 - a) (a + 1) (uA τ 5 (x) (τ.1 5 (x) + 1))).1 = -1 then zSA sum f (a + 1) (zSB x sum (9 - a) (a + 1) (uA τ 5 (x) (τ.1 5 (x) + 1))).2 else (10 * nI a + (zSB x sum (9 - a) (a + 1) (uA τ 5 (x) (τ.1 5 (x) + 1))).1, (zSB x sum (9 - a) (a + 1) (uA τ 5 (x) (τ.1 5 (x) + 1))).2)) := by
          rw [zSA, if_neg hno]; dsimp only; rw [hxC]
        rw [hE] at hE2
        have hgB := gI_SB (x := x) (sum := sum) (9 - a) (a + 1) (by omega) (gI_ask hx2 hgT)
        generalize hGB : zSB x sum (9 - a) (a + 1) (uA τ 5 (x) (τ.1 5 (x) + 1)) = GB at hE2 hr3 hI hgB
        refine lv_istore (lv' := [(5, .int (r3)), (4, .ref (ad x)), (0, .ref g), (1, .long (sum)), (3, .int (nI a))]) hx hb dX1_seek_40 hl (by decide) rfl (fun ls hl => ?_)
        refine lv_iload hx hb dX1_seek_42 (lv_at hl 0 rfl) ?_
        refine lv_iconst (v := (-1)) hx hb dX1_seek_44 (by decide) ?_
        refine lv_icmp_eq (tgt := 56) hx hb dX1_seek_45 (by decide) (fun c4 => ?_) (fun c4 => ?_)
        · refine lv_iinc (v := nI (a + 1)) (lv' := [(3, .int (nI (a + 1))), (5, .int (r3)), (4, .ref (ad x)), (0, .ref g), (1, .long (sum))]) hx hb dX1_seek_56 hl (k := 4) rfl (nI_1 _) (by decide) rfl (fun ls hl => ?_)
          refine lv_goto (tgt := 2) hx hb dX1_seek_59 (by decide) ?_
          rw [if_pos (by rw [← hr3]; exact c4)] at hE2
          exact ih (a + 1) GB.2 _ _ ls (by omega) hgB hE2.symm hI (lv_sub hl [3, 4, 0] rfl)
        · refine lv_bipush (v := 10) hx hb dX1_seek_48 (by decide) ?_
          refine lv_iload_n hx hb dX1_seek_50 rfl (lv_at hl 4 rfl) ?_
          refine lv_imul hx hb dX1_seek_51 ?_
          refine lv_iload hx hb dX1_seek_52 (lv_at hl 0 rfl) ?_
          refine lv_iadd hx hb dX1_seek_54 ?_
          rw [if_neg (by rw [← hr3]; exact c4)] at hE2
          exact gIret hX hr hlk hI ⟨by rw [hE2, hr3], by rw [hE2]⟩ dX1_seek_55
  exact loop 10 0 σ _ _ ls (by omega) hg rfl hI (lv_sub hl [1, 2, 0] rfl)
end
section
/-! THE CLASS'S WALKS, ONE WITHIN THE OTHER -/
def zDD (f : Nat) (σ : gh_S) (x y : Int32) : Int32 × gh_S := if x = 5 then zWT f σ (zTen y) (if y / 10 = 0 then 0 else 5) (y / 10) else zDeed σ (zInner σ) x y
theorem zWT_go {f : Nat} {σ : gh_S} {p x y : Int32} (h : (zGo σ p).1 = 0) : zWT (f + 1) σ p x y = ((zDD f (zGo σ p).2 x y).1, zPops (zDD f (zGo σ p).2 x y).2 (zW (zDD f (zGo σ p).2 x y).2 - zW σ)) := by
  unfold zWT zDD
  dsimp only
  rw [if_pos h]
theorem zWT_no {f : Nat} {σ : gh_S} {p x y : Int32} (h : ¬ (zGo σ p).1 = 0) : zWT (f + 1) σ p x y = ((zGo σ p).1, zPops (zGo σ p).2 (zW (zGo σ p).2 - zW σ)) := by
  unfold zWT
  dsimp only
  rw [if_neg h]
theorem gI_wt {n : Nat} : ∀ (f w : Nat) {σ : gh_S} {p x y : Int32}, w + 10 * f ≤ 30 → (∃ j : Nat, j < 10 ∧ p = nI j) → gI n w σ → gI n w (zWT f σ p x y).2
  | 0, _, _, _, _, _, _, _, hg => hg
  | f + 1, w, σ, p, x, y, hw, hp, hg => by
    obtain ⟨w', h1, h2, h3, h4⟩ := gI_go (p := p) (by omega) hp hg
    by_cases c : (zGo σ p).1 = 0
    · rw [zWT_go c]
      have h5 : gI n w' (zDD f (zGo σ p).2 x y).2 := by
        unfold zDD
        by_cases c5 : x = 5
        · rw [if_pos c5]; exact gI_wt f w' (by omega) (zTen_in y) h3
        · rw [if_neg c5]
          obtain ⟨i, hi, hin, -, -⟩ := zInner_of (by have := h4 c; omega) h3
          rw [hin]
          exact gI_deed hi h3
      show gI n w (zPops _ _)
      rw [zW_of h5, zW_of hg]
      exact gI_pops (w' - w) (by rw [show w + (w' - w) = w' by omega]; exact h5)
    · rw [zWT_no c]
      show gI n w (zPops _ _)
      rw [zW_of h3, zW_of hg]
      exact gI_pops (w' - w) (by rw [show w + (w' - w) = w' by omega]; exact h3)
theorem gI_dd {n w : Nat} {f : Nat} {σ : gh_S} {x y : Int32} (hw : w + 10 * f ≤ 30) (hw1 : 0 < w) (hg : gI n w σ) : gI n w (zDD f σ x y).2 := by
  unfold zDD
  by_cases c5 : x = 5
  · rw [if_pos c5]; exact gI_wt f w hw (zTen_in y) hg
  · rw [if_neg c5]
    obtain ⟨i, hi, hin, -, -⟩ := zInner_of hw1 hg
    rw [hin]
    exact gI_deed hi hg
theorem zDD_out {f : Nat} {σ : gh_S} {x y : Int32} (h : x.toInt < 1 ∨ 7 < x.toInt) : zDD f σ x y = (0, σ) := by
  have hk : ∀ k : Int32, ¬ (k.toInt < 1 ∨ 7 < k.toInt) → ¬ x = k := fun k a e => by subst e; exact a h
  unfold zDD zDeed
  rw [if_neg (hk 5 (by decide)), if_neg (hk 1 (by decide)), if_neg (hk 2 (by decide)), if_neg (hk 3 (by decide)), if_neg (hk 4 (by decide)), if_neg (hk 6 (by decide)), if_neg (hk 7 (by decide))]
theorem zDD_deed {f : Nat} {σ : gh_S} {x y : Int32} {i : Nat} (h : ¬ x = 5) (hi : zInner σ = i) : zDD f σ x y = zDeed σ i x y := by
  unfold zDD
  rw [if_neg h, hi]
theorem zDD5 {f : Nat} {σ : gh_S} {y : Int32} : zDD f σ 5 y = zWT f σ (zTen y) (if y / 10 = 0 then 0 else 5) (y / 10) := by
  unfold zDD
  rw [if_pos rfl]
/-! the class's walks are the reference's -/
theorem zPops_add : ∀ (a b : Nat) {σ : gh_S}, zPops (zPops σ a) b = zPops σ (a + b)
  | 0, b, σ => by rw [Nat.zero_add]; rfl
  | a + 1, b, σ => by
    rw [show a + 1 + b = (a + b) + 1 by omega]
    show zPops (zPops (zPop σ) a) b = zPops (zPop σ) (a + b)
    exact zPops_add a b
theorem zWT_on {n : Nat} : ∀ (f w : Nat) {σ : gh_S} {m : Int32}, w + 10 * f ≤ 30 → gI n w σ → zWT f σ (zTen m) (if m / 10 = 0 then 0 else 5) (m / 10) = ((zOn f σ m).1, zPops (zOn f σ m).2 (zW (zOn f σ m).2 - zW σ))
  | 0, w, σ, m, hw, hg => by
    show ((2 : Int32), σ) = (2, zPops σ (zW σ - zW σ))
    rw [Nat.sub_self]; rfl
  | f + 1, w, σ, m, hw, hg => by
    obtain ⟨w', h1, h2, h3, h4⟩ := gI_go (p := zTen m) (by omega) (zTen_in m) hg
    by_cases c : (zGo σ (zTen m)).1 = 0
    · rw [zWT_go c]
      by_cases cm : m / 10 = 0
      · have e1 : zOn (f + 1) σ m = zGo σ (zTen m) := by rw [zOn, if_pos c, if_pos cm]
        rw [e1, if_pos cm]
        have e2 : zDD f (zGo σ (zTen m)).2 0 (m / 10) = (0, (zGo σ (zTen m)).2) := zDD_out (Or.inl (by decide))
        rw [e2, c]
      · have e1 : zOn (f + 1) σ m = zOn f (zGo σ (zTen m)).2 (m / 10) := by rw [zOn, if_pos c, if_neg cm]
        rw [e1, if_neg cm, zDD5, zWT_on f w' (by omega) h3]
        obtain ⟨w2, g1, g2, g3⟩ := gI_on f w' (m := m / 10) (by omega) h3
        have g4 := gI_pops (w := w') (w2 - w') (by rw [show w' + (w2 - w') = w2 by omega]; exact g3)
        dsimp only
        rw [zW_of g3, zW_of h3, zW_of g4, zW_of hg, zPops_add, show w2 - w' + (w' - w) = w2 - w by omega]
    · rw [zWT_no c]
      have e1 : zOn (f + 1) σ m = zGo σ (zTen m) := by rw [zOn, if_neg c]
      rw [e1]
/-! the failure's number: nothing but the end of a walk from outside reads it -/
theorem s14_leave {σ : gh_S} {v x : Int32} : zLeave (uS σ 14 v) x = uS (zLeave σ x) 14 v := by
  unfold zLeave
  have e : (uS σ 14 v).2 12 = σ.2 12 := rfl
  rw [e]
  by_cases c : (100 : Int32) ≤ σ.2 12
  · rw [if_pos c, if_pos c]
  · rw [if_neg c, if_neg c]
    rw [← uSA, uS_comm (a := 14) (b := 12) (by decide)]
theorem s14_enter {σ : gh_S} {v : Int32} {i : Nat} : zEnter (uS σ 14 v) i = uS (zEnter σ i) 14 v := rfl
theorem s14_push {σ : gh_S} {v : Int32} {i : Nat} : zPush (uS σ 14 v) i = uS (zPush σ i) 14 v := by
  unfold zPush
  show uS (uS (uA (uS σ 14 v) 18 (σ.2 17).toNatClampNeg (nI i)) 17 (σ.2 17 + 1)) 16 (if σ.2 17 + 1 ≤ σ.2 16 then σ.2 16 else σ.2 17 + 1) = _
  rw [← uSA, uS_comm (a := 14) (b := 17) (by decide), uS_comm (a := 14) (b := 16) (by decide)]
theorem s14_pay {σ : gh_S} {v : Int32} {i : Nat} : zPay (uS σ 14 v) i = ((zPay σ i).1, uS (zPay σ i).2 14 v) := by
  unfold zPay
  have e1 : zCharge (uS σ 14 v) i = zCharge σ i := rfl
  have e2 : (uS σ 14 v).2 11 = σ.2 11 := rfl
  have e3 : (uS σ 14 v).1 = σ.1 := rfl
  rw [e1, e2, e3]
  split
  · rfl
  · split
    · show ((0 : Int32), _) = (0, _)
      congr 1
      rw [uS_comm (a := 14) (b := 11) (by decide)]
      rfl
    · rfl
theorem s14_pass {σ : gh_S} {v : Int32} {i : Nat} : zPass (uS σ 14 v) i = ((zPass σ i).1, uS (zPass σ i).2 14 v) := by
  unfold zPass zIn
  rw [s14_enter, s14_leave, s14_push, s14_pay]
theorem s14_pop {σ : gh_S} {v : Int32} : zPop (uS σ 14 v) = uS (zPop σ) 14 v := by
  unfold zPop
  show zLeave (uA (uS (uS σ 14 v) 17 (σ.2 17 - 1)) 7 (σ.1 18 (σ.2 17 - 1).toNatClampNeg).toNatClampNeg (σ.1 7 (σ.1 18 (σ.2 17 - 1).toNatClampNeg).toNatClampNeg - 1)) (100 + zRem (σ.1 18 (σ.2 17 - 1).toNatClampNeg) 100) = _
  rw [uS_comm (a := 14) (b := 17) (by decide), ← uSA, s14_leave]
theorem s14_pops {v : Int32} : ∀ (k : Nat) {σ : gh_S}, zPops (uS σ 14 v) k = uS (zPops σ k) 14 v
  | 0, _ => rfl
  | k + 1, σ => by
    show zPops (zPop (uS σ 14 v)) k = uS (zPops (zPop σ) k) 14 v
    rw [s14_pop]; exact s14_pops k
theorem s14_down {o : Nat → Int32} {v : Int32} : ∀ (k : Nat) {σ : gh_S}, zDown o k (uS σ 14 v) = ((zDown o k σ).1, uS (zDown o k σ).2 14 v)
  | 0, _ => rfl
  | k + 1, σ => by
    unfold zDown
    have e3 : (uS σ 14 v).1 = σ.1 := rfl
    rw [e3, s14_pass]
    dsimp only
    split
    · rfl
    · split
      · exact s14_down k
      · rfl
theorem s14_go {σ : gh_S} {v p : Int32} : zGo (uS σ 14 v) p = ((zGo σ p).1, uS (zGo σ p).2 14 v) := by
  unfold zGo
  have e3 : (uS σ 14 v).1 = σ.1 := rfl
  have e4 : uS (uS σ 14 v) 15 ((uS σ 14 v).2 15 + 1) = uS (uS σ 15 (σ.2 15 + 1)) 14 v := uS_comm (by decide)
  rw [e3, e4]
  cases zLen (zOrb (σ.1 10) p) 10 0 with
  | none => rfl
  | some k => exact s14_down k
theorem s14_rich {σ : gh_S} {v : Int32} {x : Int64} : zRich (uS σ 14 v) x = ((zRich σ x).1, uS (zRich σ x).2 14 v) := by
  unfold zRich
  have e2 : (uS σ 14 v).2 11 = σ.2 11 := rfl
  rw [e2]
  split
  · rfl
  · split
    · show ((0 : Int32), _) = (0, _)
      congr 1
      exact uS_comm (by decide)
    · rfl
theorem s14_deed {σ : gh_S} {v : Int32} {i : Nat} {x y : Int32} : zDeed (uS σ 14 v) i x y = ((zDeed σ i x y).1, uS (zDeed σ i x y).2 14 v) := by
  unfold zDeed
  have e3 : (uS σ 14 v).1 = σ.1 := rfl
  have e2 : (uS σ 14 v).2 17 = σ.2 17 := rfl
  rw [e3, e2, s14_rich, s14_rich]
  dsimp only
  split
  · rfl
  · split
    · split
      · rfl
      · rfl
    · split
      · split
        · rfl
        · rfl
      · split
        · rfl
        · split
          · rfl
          · split
            · rfl
            · rfl
theorem s14_on {v : Int32} : ∀ (f : Nat) {σ : gh_S} {m : Int32}, zOn f (uS σ 14 v) m = ((zOn f σ m).1, uS (zOn f σ m).2 14 v)
  | 0, _, _ => rfl
  | f + 1, σ, m => by
    unfold zOn
    rw [s14_go]
    dsimp only
    split
    · split
      · rfl
      · exact s14_on f
    · rfl
theorem s14_does {σ : gh_S} {v x y : Int32} : zDoes (uS σ 14 v) x y = ((zDoes σ x y).1, uS (zDoes σ x y).2 14 v) := by
  unfold zDoes
  rw [s14_on]
  have e1 : zInner (uS σ 14 v) = zInner σ := rfl
  have e2 : zW (uS σ 14 v) = zW σ := rfl
  have e3 : zW (uS (zOn 2 σ y).2 14 v) = zW (zOn 2 σ y).2 := rfl
  rw [e1, e2, s14_deed]
  dsimp only
  split
  · split
    · rw [e3, s14_pops]
    · rfl
  · rfl
theorem uS_uS {σ : gh_S} {k : Nat} {a b : Int32} : uS (uS σ k a) k b = uS σ k b := by
  apply Prod.ext
  · rfl
  · funext j
    show upd (upd σ.2 k a) k b j = upd σ.2 k b j
    unfold upd
    by_cases h : j = k
    · rw [if_pos h, if_pos h]
    · rw [if_neg h, if_neg h, if_neg h]
theorem mWalk_eq {n : Nat} {σ : gh_S} {p d m : Int32} (hg : gI n 0 σ) : mWalk σ p d m = sWalk σ p d m := by
  unfold mWalk sWalk
  by_cases hb : p < 0 ∨ 9 < p ∨ d < 0 ∨ 7 < d
  · rw [if_pos hb, if_pos hb]
  · rw [if_neg hb, if_neg hb]
    have h0 : ¬ p < 0 := fun h => hb (Or.inl h)
    have h9 : ¬ 9 < p := fun h => hb (Or.inr (Or.inl h))
    obtain ⟨j, hj, hjE, -⟩ := g_pl h0 h9
    have hgB := gI_begin hg
    obtain ⟨w', h1, h2, h3, h4⟩ := gI_go (p := p) (by omega) ⟨j, hj, hjE⟩ hgB
    dsimp only
    by_cases c : (zGo (sBegin σ) p).1 = 0
    · rw [if_pos c, s14_does, zWT_go c]
      dsimp only
      rw [uS_uS]
      have hw0 : zW (sBegin σ) = 0 := zW_of hgB
      rw [hw0]
      by_cases c5 : d = 5
      · subst c5
        rw [zDD5, zDoes5, zWT_on 2 w' (by omega) h3]
        dsimp only
        obtain ⟨w2, g1, g2, g3⟩ := gI_on 2 w' (m := m) (by omega) h3
        have g4 := gI_pops (w := w') (w2 - w') (by rw [show w' + (w2 - w') = w2 by omega]; exact g3)
        rw [zW_of g3, zW_of h3]
        by_cases cr : (zOn 2 (zGo (sBegin σ) p).2 m).1 = 0
        · rw [if_pos cr, cr]
          dsimp only
          have e : zW (uS (zPops (zOn 2 (zGo (sBegin σ) p).2 m).2 (w2 - w')) 14 0) = w' := zW_of (gI_uS 14 _ (by decide) (by decide) (by decide) g4)
          rw [e, zW_of g4, s14_pops, Nat.sub_zero]
        · rw [if_neg cr]
          have e : zW (uS (zOn 2 (zGo (sBegin σ) p).2 m).2 14 (zOn 2 (zGo (sBegin σ) p).2 m).1) = w2 := zW_of (gI_uS 14 _ (by decide) (by decide) (by decide) g3)
          rw [e, zW_of g4, s14_pops, zPops_add, Nat.sub_zero, show w2 - w' + w' = w2 by omega]
      · obtain ⟨i, hi, hin, -, -⟩ := zInner_of (by have := h4 c; omega) h3
        rw [zDD_deed c5 hin, zDoes_deed c5 hin, s14_pops]
        rfl
    · rw [if_neg c, zWT_no c]
      dsimp only
      have hw0 : zW (sBegin σ) = 0 := zW_of hgB
      rw [hw0, s14_pops]
      rfl
end
section
set_option maxRecDepth 100000 in
theorem iX1_walkTo_1 : ∀ w ∈ wsX10, w ∈ wsX1_walkTo := by decide +kernel
set_option maxRecDepth 100000 in
theorem iX1_doDeed_0 : ∀ w ∈ wsX00, w ∈ wsX1_doDeed := by decide +kernel
set_option maxRecDepth 100000 in
theorem iX1_doDeed_1 : ∀ w ∈ wsX10, w ∈ wsX1_doDeed := by decide +kernel
theorem zDeed2 {σ : gh_S} {i : Nat} {y : Int32} : zDeed σ i 2 y = (if (zRich σ (σ.1 3 i).toInt64).1 = 0 then (0, uA (zRich σ (σ.1 3 i).toInt64).2 3 i 0) else (22, σ)) := by
  unfold zDeed
  rw [if_neg (by decide), if_pos rfl]
theorem zDeed3 {σ : gh_S} {i : Nat} {y : Int32} : zDeed σ i 3 y = (if y = 0 then (6, σ) else (0, uA σ 3 i (σ.1 3 i / y))) := by
  unfold zDeed
  rw [if_neg (by decide), if_neg (by decide), if_pos rfl]
theorem zGo_none8 {σ : gh_S} {p : Int32} (h : ∀ j, j ≤ 10 → zOrb (σ.1 10) p j ≠ -1) : zGo σ p = (8, uS σ 15 (σ.2 15 + 1)) := by
  unfold zGo
  rw [zLen_no h]
set_option maxHeartbeats 4000000 in
set_option maxRecDepth 100000 in
theorem c_walkTo_0 (l : Launch) (D : va_G) (cI cH : ClassId) (g : Nat) (q : Nat → Nat) (ad : Nat → Nat) (pf : Nat → Int32) (n : Nat) (σ : gh_S) (sz : Nat) (p0 w : Nat) (x y : Int32) (hp : p0 < 10) (hw10 : w + 10 * 0 ≤ 30) (hg : gI n w σ) (hkd : gKd n σ) : gMi l yX1_walkTo wsX1_walkTo ({ frames := 0, cells := 0, slots := 0, locals := 0 }) D (wCn g q cI cH ad pf n σ) (gTy cI cH) sz [.ref g, .int (nI p0), .int (x), .int (y), .int (3)] (fun r u => ∃ pf' : Nat → Int32, r = (zWT 0 σ (nI p0) x y).1 ∧ u = wCn g q cI cH ad pf' n (zWT 0 σ (nI p0) x y).2) := by
  refine gEnter (cc := cX1_walkTo) (maxL := 8) (ret := (some .int)) (QF := fun A => va_Qi _ (gPost D A) A) (by decide) rfl (Nat.le_of_ble_eq_true rfl) ?_
  intro p e s m below meth c A ls hX hr hlk hnm hK hN hA hI hl
  have hx := hX.1
  have hb := hX.2.1
  have hts := hX.2.2.2.2
  have hown : s.vm.findClass RX1 = some m.cls := hX.2.2.2.1
  have hin1 := iX1_walkTo_1
  have hl : lv_has ls 8 [(0, .ref g), (1, .int (nI p0)), (2, .int (x)), (3, .int (y)), (4, .int (3))] := hl
  have hI : InW D A s.heap (wCr g q cI cH ad pf (gfh ad σ) (gfp ad σ) n σ) s.heap [] := hI
  refine lv_iload hx hb dX1_walkTo_0 (lv_at hl 4 rfl) ?_
  refine lv_iconst (v := 3) hx hb dX1_walkTo_2 (by decide) ?_
  refine lv_icmp_lt (tgt := 8) hx hb dX1_walkTo_3 (by decide) (fun c1 => False.elim (by revert c1; decide)) (fun c1 => ?_)
  refine lv_iconst (v := 2) hx hb dX1_walkTo_6 (by decide) ?_
  exact gIret hX hr hlk hI ⟨pf, rfl, rfl⟩ dX1_walkTo_7
set_option maxHeartbeats 4000000 in
set_option maxRecDepth 100000 in
theorem c_walkOn_0 (l : Launch) (D : va_G) (cI cH : ClassId) (g : Nat) (q : Nat → Nat) (ad : Nat → Nat) (pf : Nat → Int32) (n : Nat) (σ : gh_S) (sz : Nat) (w : Nat) (y : Int32) (hw10 : w + 10 * 0 ≤ 30) (hg : gI n w σ) (hkd : gKd n σ) : gMi l yX1_walkOn wsX1_walkOn ({ frames := 1, cells := 0, slots := 0, locals := 27 }) D (wCn g q cI cH ad pf n σ) (gTy cI cH) sz [.ref g, .int (y), .int (3)] (fun r u => ∃ pf' : Nat → Int32, r = (zWT 0 σ (zTen y) (if y / 10 = 0 then 0 else 5) (y / 10)).1 ∧ u = wCn g q cI cH ad pf' n (zWT 0 σ (zTen y) (if y / 10 = 0 then 0 else 5) (y / 10)).2) := by
  refine gEnter (cc := cX1_walkOn) (maxL := 4) (ret := (some .int)) (QF := fun A => va_Qi _ (gPost D A) A) (by decide) rfl (Nat.le_of_ble_eq_true rfl) ?_
  intro p e s m below meth c A ls hX hr hlk hnm hK hN hA hI hl
  have hx := hX.1
  have hb := hX.2.1
  have hts := hX.2.2.2.2
  have hown : s.vm.findClass RX1 = some m.cls := hX.2.2.2.1
  have hl : lv_has ls 4 [(0, .ref g), (1, .int (y)), (2, .int (3))] := hl
  have hI : InW D A s.heap (wCr g q cI cH ad pf (gfh ad σ) (gfp ad σ) n σ) s.heap [] := hI
  refine lv_iload_n hx hb dX1_walkOn_0 rfl (lv_at hl 1 rfl) ?_
  refine lv_bipush (v := 10) hx hb dX1_walkOn_1 (by decide) ?_
  refine lv_idiv hx hb dX1_walkOn_3 (by decide) ?_
  refine lv_istore_n (lv' := [(3, .int ((y) / (10))), (0, .ref g), (1, .int (y)), (2, .int (3))]) hx hb dX1_walkOn_4 rfl hl (by decide) rfl (fun ls hl => ?_)
  refine lv_aload_n hx hb dX1_walkOn_5 rfl (lv_at hl 1 rfl) ?_
  refine lv_iload_n hx hb dX1_walkOn_6 rfl (lv_at hl 2 rfl) ?_
  refine lv_bipush (v := 10) hx hb dX1_walkOn_7 (by decide) ?_
  refine vp_callSi (W.runS (As := [.int (y), .int (10)]) (rest := [.ref g]) hX (c_fm10 l (y)) (va_cwS 2 hts gX1_walkOn_J9_floorMod_7cf53 rfl rfl rfl (by decide +kernel) ⟨Nat.le_of_ble_eq_true rfl, Nat.le_of_ble_eq_true rfl⟩) preEq rfl rfl hl.1 rfl (lv_room (Nat.le_of_ble_eq_true rfl)) dX1_walkOn_9 ⟨Nat.le_of_ble_eq_true rfl, Nat.le_of_ble_eq_true rfl⟩) (fun r1 hr1 => ?_)
  obtain ⟨j, hj, hjE⟩ := zTen_in y
  refine gTop (y := nI j) (hr1.trans hjE) ?_
  refine lv_iload_n hx hb dX1_walkOn_12 rfl (lv_at hl 0 rfl) ?_
  refine lv_if_ne (tgt := 20) hx hb dX1_walkOn_13 (by decide) (fun c2 => ?_) (fun c2 => ?_)
  · refine lv_iconst (v := 5) hx hb dX1_walkOn_20 (by decide) ?_
    refine lv_iload_n hx hb dX1_walkOn_21 rfl (lv_at hl 0 rfl) ?_
    refine lv_iload_n hx hb dX1_walkOn_22 rfl (lv_at hl 3 rfl) ?_
    have hI : InW D A s.heap (wCn g q cI cH ad pf n σ) s.heap [] := hI
    refine gCalli (va_runV (As := [.int (nI j), .int (5), .int ((y) / (10)), .int (3)]) (rest := []) hX (c_walkTo_0 l D cI cH g q ad pf n σ _ j w (5) ((y) / (10)) hj (by omega) hg hkd) (cwV 4 hts gX1_walkOn_X1_walkTo rfl rfl rfl (by decide +kernel) ⟨Nat.le_of_ble_eq_true rfl, Nat.le_of_ble_eq_true rfl⟩) ⟨gPre_blind, gRecv hI hK (ci := 1) (q0 := 0) rfl rfl, gPre_ok hI hK hN⟩ rfl rfl hl.1 rfl (lv_room (Nat.le_of_ble_eq_true rfl)) dX1_walkOn_23 ⟨Nat.zero_le _, Nat.zero_le _⟩) hI hA (fun r3 ur3 H locs hr3 hI => ?_)
    obtain ⟨pf', hr3, rfl⟩ := hr3
    exact gIret hX hr hlk hI ⟨pf', by rw [hjE, if_neg c2]; exact hr3, by rw [hjE, if_neg c2]⟩ dX1_walkOn_26
  · refine lv_iconst (v := 0) hx hb dX1_walkOn_16 (by decide) ?_
    refine lv_goto (tgt := 21) hx hb dX1_walkOn_17 (by decide) ?_
    refine lv_iload_n hx hb dX1_walkOn_21 rfl (lv_at hl 0 rfl) ?_
    refine lv_iload_n hx hb dX1_walkOn_22 rfl (lv_at hl 3 rfl) ?_
    have hI : InW D A s.heap (wCn g q cI cH ad pf n σ) s.heap [] := hI
    refine gCalli (va_runV (As := [.int (nI j), .int (0), .int ((y) / (10)), .int (3)]) (rest := []) hX (c_walkTo_0 l D cI cH g q ad pf n σ _ j w (0) ((y) / (10)) hj (by omega) hg hkd) (cwV 4 hts gX1_walkOn_X1_walkTo rfl rfl rfl (by decide +kernel) ⟨Nat.le_of_ble_eq_true rfl, Nat.le_of_ble_eq_true rfl⟩) ⟨gPre_blind, gRecv hI hK (ci := 1) (q0 := 0) rfl rfl, gPre_ok hI hK hN⟩ rfl rfl hl.1 rfl (lv_room (Nat.le_of_ble_eq_true rfl)) dX1_walkOn_23 ⟨Nat.zero_le _, Nat.zero_le _⟩) hI hA (fun r4 ur4 H locs hr4 hI => ?_)
    obtain ⟨pf', hr4, rfl⟩ := hr4
    exact gIret hX hr hlk hI ⟨pf', by rw [hjE, if_pos c2]; exact hr4, by rw [hjE, if_pos c2]⟩ dX1_walkOn_26
set_option maxHeartbeats 4000000 in
set_option maxRecDepth 100000 in
theorem c_doDeed_0 (l : Launch) (D : va_G) (cI cH : ClassId) (g : Nat) (q : Nat → Nat) (ad : Nat → Nat) (pf : Nat → Int32) (n : Nat) (σ : gh_S) (sz : Nat) (w : Nat) (x y : Int32) (hw10 : w + 10 * 0 ≤ 30) (hw1 : 0 < w) (hg : gI n w σ) (hkd : gKd n σ) : gMi l yX1_doDeed wsX1_doDeed ({ frames := 2, cells := 0, slots := 0, locals := 50 }) D (wCn g q cI cH ad pf n σ) (gTy cI cH) sz [.ref g, .int (x), .int (y), .int (3)] (fun r u => ∃ pf' : Nat → Int32, r = (zDD 0 σ x y).1 ∧ u = wCn g q cI cH ad pf' n (zDD 0 σ x y).2) := by
  refine gEnter (cc := cX1_doDeed) (maxL := 5) (ret := (some .int)) (QF := fun A => va_Qi _ (gPost D A) A) (by decide) rfl (Nat.le_of_ble_eq_true rfl) ?_
  intro p e s m below meth c A ls hX hr hlk hnm hK hN hA hI hl
  have hx := hX.1
  have hb := hX.2.1
  have hts := hX.2.2.2.2
  have hown : s.vm.findClass RX1 = some m.cls := hX.2.2.2.1
  have hin0 := iX1_doDeed_0
  have hin1 := iX1_doDeed_1
  have hl : lv_has ls 5 [(0, .ref g), (1, .int (x)), (2, .int (y)), (3, .int (3))] := hl
  have hI : InW D A s.heap (wCr g q cI cH ad pf (gfh ad σ) (gfp ad σ) n σ) s.heap [] := hI
  obtain ⟨hn, hw, ⟨t, ht, htE⟩, hpl, hpar, hrow, hn4, hw30, hz⟩ := id hg
  obtain ⟨i, hi, hIn, hiE, e1⟩ := zInner_of hw1 hg
  refine lv_aload_n hx hb dX1_doDeed_0 rfl (lv_at hl 0 rfl) ?_
  have hI : InW D A s.heap (wCn g q cI cH ad pf n σ) s.heap [] := hI
  refine gCallq (va_runV (As := []) (rest := []) hX (c_X1_innermost l D cI cH g q ad pf n σ _ w i hw1 hg hi hiE) (cwV 0 hts gX1_doDeed_X1_innermost rfl rfl rfl (by decide +kernel) ⟨Nat.le_of_ble_eq_true rfl, Nat.le_of_ble_eq_true rfl⟩) ⟨gPre_blind, gRecv hI hK (ci := 1) (q0 := 0) rfl rfl, gPre_ok hI hK hN⟩ rfl rfl hl.1 rfl (lv_room (Nat.le_of_ble_eq_true rfl)) dX1_doDeed_1 ⟨Nat.zero_le _, Nat.zero_le _⟩) hI hA (fun r1 ur1 H locs hr1 hI => ?_)
  obtain ⟨rfl, rfl⟩ := hr1
  refine gTopR ?_
  refine lv_astore (lv' := [(4, .ref (ad i)), (0, .ref g), (1, .int (x)), (2, .int (y)), (3, .int (3))]) hx hb dX1_doDeed_4 hl (by decide) rfl (fun ls hl => ?_)
  refine lv_aload hx hb dX1_doDeed_6 (lv_at hl 0 rfl) ?_
  refine lv_ifnonnull (tgt := 13) hx hb dX1_doDeed_8 (by decide) ?_
  refine lv_iload_n hx hb dX1_doDeed_13 rfl (lv_at hl 2 rfl) ?_
  rcases g_sw17 x with h2 | rfl | rfl | rfl | rfl | rfl | rfl | rfl
  · refine lv_tableOut (tgt := 122) hx hb dX1_doDeed_14 h2 (by decide) ?_
    refine lv_iconst (v := 0) hx hb dX1_doDeed_122 (by decide) ?_
    exact gIret hX hr hlk hI ⟨pf, by rw [zDD_out h2], by rw [zDD_out h2]⟩ dX1_doDeed_123
  · refine lv_tableIn (tgt := 56) (off := 42) hx hb dX1_doDeed_14 (by decide) (by decide) (by decide) (by decide) ?_
    refine lv_aload hx hb dX1_doDeed_56 (lv_at hl 0 rfl) ?_
    refine lv_dup hx hb dX1_doDeed_58 rfl ?_
    refine hGet (i := i) (v := .int (σ.1 3 (i))) hX hin0 hK hI hi 3 (by decide) hN.2.1 rfl dX1_doDeed_59 ?_
    refine lv_iload_n hx hb dX1_doDeed_62 rfl (lv_at hl 3 rfl) ?_
    refine lv_iadd hx hb dX1_doDeed_63 ?_
    refine hPut (i := i) hX hin0 hK hI hi 3 (by decide) hN.2.1 rfl rfl gHs3 (by decide) (by decide) dX1_doDeed_64 (fun H locs hI => ?_)
    refine lv_iconst (v := 0) hx hb dX1_doDeed_67 (by decide) ?_
    exact gIret hX hr hlk hI ⟨pf, by rw [zDD_deed (by decide) hIn]; rfl, by rw [zDD_deed (by decide) hIn]; rfl⟩ dX1_doDeed_68
  · refine lv_tableIn (tgt := 69) (off := 55) hx hb dX1_doDeed_14 (by decide) (by decide) (by decide) (by decide) ?_
    refine lv_aload_n hx hb dX1_doDeed_69 rfl (lv_at hl 1 rfl) ?_
    refine lv_aload hx hb dX1_doDeed_70 (lv_at hl 0 rfl) ?_
    have hI : InW D A s.heap (wCn g q cI cH ad pf n σ) H locs := hI
    refine gCalli (va_runV (As := [.ref (ad i)]) (rest := []) hX (c_X1_takeGifts l D cI cH g q ad pf n σ _ i hi) (cwV 1 hts gX1_doDeed_X1_takeGifts rfl rfl rfl (by decide +kernel) ⟨Nat.le_of_ble_eq_true rfl, Nat.le_of_ble_eq_true rfl⟩) ⟨gPre_blind, gRecv hI hK (ci := 1) (q0 := 0) rfl rfl, gPre_ok hI hK hN⟩ rfl rfl hl.1 rfl (lv_room (Nat.le_of_ble_eq_true rfl)) dX1_doDeed_72 ⟨Nat.zero_le _, Nat.zero_le _⟩) hI hA (fun r3 ur3 H locs hr3 hI => ?_)
    obtain ⟨hr3, rfl⟩ := hr3
    exact gIret hX hr hlk hI ⟨pf, by rw [zDD_deed (by decide) hIn]; rw [zDeed2]; exact hr3, by rw [zDD_deed (by decide) hIn]; rw [zDeed2]⟩ dX1_doDeed_75
  · refine lv_tableIn (tgt := 76) (off := 62) hx hb dX1_doDeed_14 (by decide) (by decide) (by decide) (by decide) ?_
    refine lv_aload hx hb dX1_doDeed_76 (lv_at hl 0 rfl) ?_
    refine lv_iload_n hx hb dX1_doDeed_78 rfl (lv_at hl 3 rfl) ?_
    have hI : InW D A s.heap (wCn g q cI cH ad pf n σ) H locs := hI
    refine gCalli (va_runS (As := [.ref (ad i), .int (y)]) (rest := []) hX (c_X1_divideGifts l D cI cH g q ad pf n σ _ i hi y) (va_cwS 2 hts gX1_doDeed_X1_divideGifts rfl rfl rfl (by decide +kernel) ⟨Nat.le_of_ble_eq_true rfl, Nat.le_of_ble_eq_true rfl⟩) ⟨gPre_blind, gPre_ok hI hK hN⟩ rfl rfl hl.1 rfl (lv_room (Nat.le_of_ble_eq_true rfl)) dX1_doDeed_79 ⟨Nat.zero_le _, Nat.zero_le _⟩) hI hA (fun r4 ur4 H locs hr4 hI => ?_)
    obtain ⟨hr4, rfl⟩ := hr4
    exact gIret hX hr hlk hI ⟨pf, by rw [zDD_deed (by decide) hIn]; rw [zDeed3]; exact hr4, by rw [zDD_deed (by decide) hIn]; rw [zDeed3]⟩ dX1_doDeed_82
  · refine lv_tableIn (tgt := 83) (off := 69) hx hb dX1_doDeed_14 (by decide) (by decide) (by decide) (by decide) ?_
    refine lv_aload_n hx hb dX1_doDeed_83 rfl (lv_at hl 1 rfl) ?_
    refine cGet (v := .ref (q 0)) hX hin1 hK hI 0 (by decide) (hts (.fieldLink RX1 11 "GateHalls" "halls" "[LGateHalls$Hall;") (by decide +kernel)) rfl dX1_doDeed_84 ?_
    refine lv_iload_n hx hb dX1_doDeed_87 rfl (lv_at hl 3 rfl) ?_
    refine lv_bipush (v := 10) hx hb dX1_doDeed_88 (by decide) ?_
    refine vp_callSi (W.runS (As := [.int (y), .int (10)]) (rest := [.ref (q 0)]) hX (c_fm10 l (y)) (va_cwS 2 hts gX1_doDeed_J9_floorMod_7cf53 rfl rfl rfl (by decide +kernel) ⟨Nat.le_of_ble_eq_true rfl, Nat.le_of_ble_eq_true rfl⟩) preEq rfl rfl hl.1 rfl (lv_room (Nat.le_of_ble_eq_true rfl)) dX1_doDeed_90 ⟨Nat.le_of_ble_eq_true rfl, Nat.le_of_ble_eq_true rfl⟩) (fun r5 hr5 => ?_)
    obtain ⟨j, hj, hjE⟩ := zTen_in y
    have hjC : (zTen y).toNatClampNeg = j := by rw [hjE]; exact nI_clamp (by omega)
    refine lv_null hx hb dX1_doDeed_93 ?_
    refine gQstN (j := j) (w' := wCr g q cI cH ad pf (va_up (gfh ad σ) (j) none) (gfp ad σ) n σ) hX hK hI 1 1 rfl rfl (hr5.trans hjE) (by omega) (by decide) rfl dX1_doDeed_94 (fun H locs hI => ?_)
    refine lv_iconst (v := 0) hx hb dX1_doDeed_95 (by decide) ?_
    exact gIret hX hr hlk hI ⟨pf, by rw [zDD_deed (by decide) hIn]; unfold zDeed; rw [if_neg (by decide), if_neg (by decide), if_neg (by decide), if_pos rfl], by rw [zDD_deed (by decide) hIn]; unfold zDeed; rw [if_neg (by decide), if_neg (by decide), if_neg (by decide), if_pos rfl]; rw [hjC, gfh_none hj]; rfl⟩ dX1_doDeed_96
  · refine lv_tableIn (tgt := 97) (off := 83) hx hb dX1_doDeed_14 (by decide) (by decide) (by decide) (by decide) ?_
    refine lv_aload_n hx hb dX1_doDeed_97 rfl (lv_at hl 1 rfl) ?_
    refine lv_iload_n hx hb dX1_doDeed_98 rfl (lv_at hl 3 rfl) ?_
    refine lv_iload_n hx hb dX1_doDeed_99 rfl (lv_at hl 4 rfl) ?_
    have hI : InW D A s.heap (wCn g q cI cH ad pf n σ) H locs := hI
    refine gCalli (va_runV (As := [.int (y), .int (3)]) (rest := []) hX (c_walkOn_0 l D cI cH g q ad pf n σ _ w y (by omega) hg hkd) (cwV 2 hts gX1_doDeed_X1_walkOn rfl rfl rfl (by decide +kernel) ⟨Nat.le_of_ble_eq_true rfl, Nat.le_of_ble_eq_true rfl⟩) ⟨gPre_blind, gRecv hI hK (ci := 1) (q0 := 0) rfl rfl, gPre_ok hI hK hN⟩ rfl rfl hl.1 rfl (lv_room (Nat.le_of_ble_eq_true rfl)) dX1_doDeed_100 ⟨Nat.zero_le _, Nat.zero_le _⟩) hI hA (fun r6 ur6 H locs hr6 hI => ?_)
    obtain ⟨pf', hr6, rfl⟩ := hr6
    exact gIret hX hr hlk hI ⟨pf', by rw [zDD5]; exact hr6, by rw [zDD5]⟩ dX1_doDeed_103
  · refine lv_tableIn (tgt := 104) (off := 90) hx hb dX1_doDeed_14 (by decide) (by decide) (by decide) (by decide) ?_
    refine lv_bipush (v := 20) hx hb dX1_doDeed_104 (by decide) ?_
    refine lv_iload_n hx hb dX1_doDeed_106 rfl (lv_at hl 3 rfl) ?_
    refine lv_iconst (v := 4) hx hb dX1_doDeed_107 (by decide) ?_
    refine vp_callSi (W.runS (As := [.int (y), .int (4)]) (rest := [.int (20)]) hX (c_fm4 l (y)) (va_cwS 2 hts gX1_doDeed_J9_floorMod_7cf53 rfl rfl rfl (by decide +kernel) ⟨Nat.le_of_ble_eq_true rfl, Nat.le_of_ble_eq_true rfl⟩) preEq rfl rfl hl.1 rfl (lv_room (Nat.le_of_ble_eq_true rfl)) dX1_doDeed_108 ⟨Nat.le_of_ble_eq_true rfl, Nat.le_of_ble_eq_true rfl⟩) (fun r7 hr7 => ?_)
    refine lv_iadd hx hb dX1_doDeed_111 ?_
    exact gIret hX hr hlk hI ⟨pf, by rw [zDD_deed (by decide) hIn]; unfold zDeed; rw [if_neg (by decide), if_neg (by decide), if_neg (by decide), if_neg (by decide), if_pos rfl]; rw [hr7], by rw [zDD_deed (by decide) hIn]; unfold zDeed; rw [if_neg (by decide), if_neg (by decide), if_neg (by decide), if_neg (by decide), if_pos rfl]⟩ dX1_doDeed_112
  · refine lv_tableIn (tgt := 113) (off := 99) hx hb dX1_doDeed_14 (by decide) (by decide) (by decide) (by decide) ?_
    refine lv_aload_n hx hb dX1_doDeed_113 rfl (lv_at hl 1 rfl) ?_
    refine lv_aload_n hx hb dX1_doDeed_114 rfl (lv_at hl 1 rfl) ?_
    refine cGet (v := .int (σ.2 17)) hX hin1 hK hI 6 (by decide) (hts (.fieldLink RX1 96 "GateHalls" "depth" "I") (by decide +kernel)) rfl dX1_doDeed_115 ?_
    have hI : InW D A s.heap (wCn g q cI cH ad pf n σ) H locs := hI
    refine gCalli (va_runV (As := [.int (σ.2 17)]) (rest := []) hX (c_X1_addToPurse l D cI cH g q ad pf n σ _ (σ.2 17)) (cwV 1 hts gX1_doDeed_X1_addToPurse rfl rfl rfl (by decide +kernel) ⟨Nat.le_of_ble_eq_true rfl, Nat.le_of_ble_eq_true rfl⟩) ⟨gPre_blind, gRecv hI hK (ci := 1) (q0 := 0) rfl rfl, gPre_ok hI hK hN⟩ rfl rfl hl.1 rfl (lv_room (Nat.le_of_ble_eq_true rfl)) dX1_doDeed_118 ⟨Nat.zero_le _, Nat.zero_le _⟩) hI hA (fun r8 ur8 H locs hr8 hI => ?_)
    obtain ⟨hr8, rfl⟩ := hr8
    exact gIret hX hr hlk hI ⟨pf, by rw [zDD_deed (by decide) hIn]; unfold zDeed; rw [if_neg (by decide), if_neg (by decide), if_neg (by decide), if_neg (by decide), if_neg (by decide), if_pos rfl]; exact hr8, by rw [zDD_deed (by decide) hIn]; unfold zDeed; rw [if_neg (by decide), if_neg (by decide), if_neg (by decide), if_neg (by decide), if_neg (by decide), if_pos rfl]⟩ dX1_doDeed_121
set_option maxHeartbeats 4000000 in
set_option maxRecDepth 100000 in
theorem c_walkTo_1 (l : Launch) (D : va_G) (cI cH : ClassId) (g : Nat) (q : Nat → Nat) (ad : Nat → Nat) (pf : Nat → Int32) (n : Nat) (σ : gh_S) (sz : Nat) (p0 w : Nat) (x y : Int32) (hp : p0 < 10) (hw10 : w + 10 * 1 ≤ 30) (hg : gI n w σ) (hkd : gKd n σ) : gMi l yX1_walkTo wsX1_walkTo ({ frames := 4, cells := 0, slots := 0, locals := 90 }) D (wCn g q cI cH ad pf n σ) (gTy cI cH) sz [.ref g, .int (nI p0), .int (x), .int (y), .int (2)] (fun r u => ∃ pf' : Nat → Int32, r = (zWT 1 σ (nI p0) x y).1 ∧ u = wCn g q cI cH ad pf' n (zWT 1 σ (nI p0) x y).2) := by
  refine gEnter (cc := cX1_walkTo) (maxL := 8) (ret := (some .int)) (QF := fun A => va_Qi _ (gPost D A) A) (by decide) rfl (Nat.le_of_ble_eq_true rfl) ?_
  intro p e s m below meth c A ls hX hr hlk hnm hK hN hA hI hl
  have hx := hX.1
  have hb := hX.2.1
  have hts := hX.2.2.2.2
  have hown : s.vm.findClass RX1 = some m.cls := hX.2.2.2.1
  have hin1 := iX1_walkTo_1
  have hl : lv_has ls 8 [(0, .ref g), (1, .int (nI p0)), (2, .int (x)), (3, .int (y)), (4, .int (2))] := hl
  have hI : InW D A s.heap (wCr g q cI cH ad pf (gfh ad σ) (gfp ad σ) n σ) s.heap [] := hI
  obtain ⟨hn, hw, ⟨t, ht, htE⟩, hpl, hpar, hrow, hn4, hw30, hz⟩ := id hg
  have hg1 : gI n w (uS σ 15 (σ.2 15 + 1)) := gI_uS 15 _ (by decide) (by decide) (by decide) hg
  refine lv_iload hx hb dX1_walkTo_0 (lv_at hl 4 rfl) ?_
  refine lv_iconst (v := 3) hx hb dX1_walkTo_2 (by decide) ?_
  refine lv_icmp_lt (tgt := 8) hx hb dX1_walkTo_3 (by decide) (fun c1 => ?_) (fun c1 => False.elim (by revert c1; decide))
  refine lv_aload_n hx hb dX1_walkTo_8 rfl (lv_at hl 0 rfl) ?_
  refine lv_dup hx hb dX1_walkTo_9 rfl ?_
  refine cGet (v := .int (σ.2 15)) hX hin1 hK hI 11 (by decide) (hts (.fieldLink RX1 90 "GateHalls" "walksBegun" "I") (by decide +kernel)) rfl dX1_walkTo_10 ?_
  refine lv_iconst (v := 1) hx hb dX1_walkTo_13 (by decide) ?_
  refine lv_iadd hx hb dX1_walkTo_14 ?_
  refine cPut (σ' := (uS σ 15 ((σ.2 15) + (1)))) hX hin1 hK hI 11 (by decide) (hts (.fieldLink RX1 90 "GateHalls" "walksBegun" "I") (by decide +kernel)) rfl rfl rfl dX1_walkTo_15 (fun H locs hI => ?_)
  refine lv_aload_n hx hb dX1_walkTo_18 rfl (lv_at hl 0 rfl) ?_
  refine lv_iload_n hx hb dX1_walkTo_19 rfl (lv_at hl 1 rfl) ?_
  have hI : InW D A s.heap (wCn g q cI cH ad pf n (uS σ 15 ((σ.2 15) + (1)))) H locs := hI
  refine gCalli (va_runV (As := [.int (nI p0)]) (rest := []) hX (c_X1_findPath l D cI cH g q ad pf n (uS σ 15 ((σ.2 15) + (1))) _ p0 w hp hg1) (cwV 1 hts gX1_walkTo_X1_findPath rfl rfl rfl (by decide +kernel) ⟨Nat.le_of_ble_eq_true rfl, Nat.le_of_ble_eq_true rfl⟩) ⟨gPre_blind, gRecv hI hK (ci := 1) (q0 := 0) rfl rfl, gPre_ok hI hK hN⟩ rfl rfl hl.1 rfl (lv_room (Nat.le_of_ble_eq_true rfl)) dX1_walkTo_20 ⟨Nat.zero_le _, Nat.zero_le _⟩) hI hA (fun r2 ur2 H locs hr2 hI => ?_)
  obtain ⟨pf', rfl, hr2⟩ := hr2
  rcases hr2 with ⟨k, hk10, hk0, rfl, hkE, hkj⟩ | ⟨rfl, hall⟩
  · have hGo : zGo σ (nI p0) = zDown (zOrb (σ.1 10) (nI p0)) k (uS σ 15 (σ.2 15 + 1)) := zGo_some hk10 (fun j hj => (hkj j hj).2) hkE
    obtain ⟨w', hw1, hw2, hgG, hw3⟩ := gI_go (p := nI p0) (by omega) ⟨p0, hp, rfl⟩ hg
    have hkG : gKd n (zGo σ (nI p0)).2 := gKd_of k_go hkd
    refine lv_istore (lv' := [(5, .int (nI k)), (0, .ref g), (1, .int (nI p0)), (2, .int (x)), (3, .int (y)), (4, .int (2))]) hx hb dX1_walkTo_23 hl (by decide) rfl (fun ls hl => ?_)
    refine lv_iload hx hb dX1_walkTo_25 (lv_at hl 0 rfl) ?_
    refine lv_if_ne (tgt := 33) hx hb dX1_walkTo_27 (by decide) (fun c3 => ?_) (fun c3 => absurd c3 (nI_ne0 hk0 (by omega)))
    refine lv_aload_n hx hb dX1_walkTo_33 rfl (lv_at hl 1 rfl) ?_
    refine cGet (v := .int (σ.2 17)) hX hin1 hK hI 6 (by decide) (hts (.fieldLink RX1 96 "GateHalls" "depth" "I") (by decide +kernel)) rfl dX1_walkTo_34 ?_
    refine gTop (y := nI w) hw ?_
    refine lv_istore (lv' := [(6, .int (nI w)), (5, .int (nI k)), (0, .ref g), (1, .int (nI p0)), (2, .int (x)), (3, .int (y)), (4, .int (2))]) hx hb dX1_walkTo_37 hl (by decide) rfl (fun ls hl => ?_)
    refine lv_aload_n hx hb dX1_walkTo_39 rfl (lv_at hl 2 rfl) ?_
    refine lv_iload hx hb dX1_walkTo_40 (lv_at hl 1 rfl) ?_
    have hI : InW D A s.heap (wCn g q cI cH ad pf' n (uS σ 15 ((σ.2 15) + (1)))) H locs := hI
    refine gCalli (va_runV (As := [.int (nI k)]) (rest := []) hX (c_X1_passPath l D cI cH g q ad pf' n (uS σ 15 ((σ.2 15) + (1))) _ (zOrb (σ.1 10) (nI p0)) k w hk10 (by omega) (fun j hj => ⟨(hkj j hj).1, (zOrb_in hg ⟨p0, hp, rfl⟩ j).resolve_left (hkj j hj).2⟩) hg1 hkd) (cwV 1 hts gX1_walkTo_X1_passPath rfl rfl rfl (by decide +kernel) ⟨Nat.le_of_ble_eq_true rfl, Nat.le_of_ble_eq_true rfl⟩) ⟨gPre_blind, gRecv hI hK (ci := 1) (q0 := 0) rfl rfl, gPre_ok hI hK hN⟩ rfl rfl hl.1 rfl (lv_room (Nat.le_of_ble_eq_true rfl)) dX1_walkTo_42 ⟨Nat.zero_le _, Nat.zero_le _⟩) hI hA (fun r4 ur4 H locs hr4 hI => ?_)
    obtain ⟨hr4, rfl⟩ := hr4
    have hGo1 := congrArg Prod.fst hGo
    have hGo2 := congrArg Prod.snd hGo
    have hI : InW D A s.heap (wCn g q cI cH ad pf' n (zGo σ (nI p0)).2) H locs := by rw [hGo2]; exact hI
    have hr4G : r4 = (zGo σ (nI p0)).1 := by rw [hGo1]; exact hr4
    refine lv_istore (lv' := [(7, .int (r4)), (6, .int (nI w)), (5, .int (nI k)), (0, .ref g), (1, .int (nI p0)), (2, .int (x)), (3, .int (y)), (4, .int (2))]) hx hb dX1_walkTo_45 hl (by decide) rfl (fun ls hl => ?_)
    refine lv_iload hx hb dX1_walkTo_47 (lv_at hl 0 rfl) ?_
    refine lv_if_ne (tgt := 64) hx hb dX1_walkTo_49 (by decide) (fun c5 => ?_) (fun c5 => ?_)
    · have hc0 : ¬ (zGo σ (nI p0)).1 = 0 := by rw [← hr4G]; exact c5
      refine lv_aload_n hx hb dX1_walkTo_64 rfl (lv_at hl 3 rfl) ?_
      refine lv_iload hx hb dX1_walkTo_65 (lv_at hl 1 rfl) ?_
      have hI : InW D A s.heap (wCn g q cI cH ad pf' n (zGo σ (nI p0)).2) H locs := hI
      refine gCallv (va_runV (As := [.int (nI w)]) (rest := []) hX (c_X1_leaveUntil l D cI cH g q ad pf' n (zGo σ (nI p0)).2 _ w w' (by omega) hgG) (cwV 1 hts gX1_walkTo_X1_leaveUntil rfl rfl rfl (by decide +kernel) ⟨Nat.le_of_ble_eq_true rfl, Nat.le_of_ble_eq_true rfl⟩) ⟨gPre_blind, gRecv hI hK (ci := 1) (q0 := 0) rfl rfl, gPre_ok hI hK hN⟩ rfl rfl hl.1 rfl (lv_room (Nat.le_of_ble_eq_true rfl)) dX1_walkTo_67 ⟨Nat.zero_le _, Nat.zero_le _⟩) hI hA (fun ur6 H locs hr6 hI => ?_)
      subst hr6
      refine lv_iload hx hb dX1_walkTo_70 (lv_at hl 0 rfl) ?_
      exact gIret hX hr hlk hI ⟨_, by rw [zWT_no hc0]; exact hr4G, by rw [zWT_no hc0]; show _ = wCn g q cI cH ad pf' n (zPops _ (zW _ - zW σ)); rw [zW_of hgG, zW_of hg]⟩ dX1_walkTo_72
    · have hc0 : (zGo σ (nI p0)).1 = 0 := by rw [← hr4G]; exact c5
      refine lv_aload_n hx hb dX1_walkTo_52 rfl (lv_at hl 3 rfl) ?_
      refine lv_iload_n hx hb dX1_walkTo_53 rfl (lv_at hl 5 rfl) ?_
      refine lv_iload_n hx hb dX1_walkTo_54 rfl (lv_at hl 6 rfl) ?_
      refine lv_iload hx hb dX1_walkTo_55 (lv_at hl 7 rfl) ?_
      refine lv_iconst (v := 1) hx hb dX1_walkTo_57 (by decide) ?_
      refine lv_iadd hx hb dX1_walkTo_58 ?_
      refine gTop (y := 3) (by decide) ?_
      have hI : InW D A s.heap (wCn g q cI cH ad pf' n (zGo σ (nI p0)).2) H locs := hI
      refine gCalli (va_runV (As := [.int (x), .int (y), .int (3)]) (rest := []) hX (c_doDeed_0 l D cI cH g q ad pf' n (zGo σ (nI p0)).2 _ w' x y (by omega) (by have := hw3 hc0; omega) hgG hkG) (cwV 3 hts gX1_walkTo_X1_doDeed rfl rfl rfl (by decide +kernel) ⟨Nat.le_of_ble_eq_true rfl, Nat.le_of_ble_eq_true rfl⟩) ⟨gPre_blind, gRecv hI hK (ci := 1) (q0 := 0) rfl rfl, gPre_ok hI hK hN⟩ rfl rfl hl.1 rfl (lv_room (Nat.le_of_ble_eq_true rfl)) dX1_walkTo_59 ⟨Nat.zero_le _, Nat.zero_le _⟩) hI hA (fun r7 ur7 H locs hr7 hI => ?_)
      obtain ⟨pf'', hr7, rfl⟩ := hr7
      have hgD := gI_dd (f := 0) (x := x) (y := y) (by omega) (by have := hw3 hc0; omega) hgG
      refine lv_istore (lv' := [(7, .int (r7)), (6, .int (nI w)), (5, .int (nI k)), (0, .ref g), (1, .int (nI p0)), (2, .int (x)), (3, .int (y)), (4, .int (2))]) hx hb dX1_walkTo_62 hl (by decide) rfl (fun ls hl => ?_)
      refine lv_aload_n hx hb dX1_walkTo_64 rfl (lv_at hl 3 rfl) ?_
      refine lv_iload hx hb dX1_walkTo_65 (lv_at hl 1 rfl) ?_
      have hI : InW D A s.heap (wCn g q cI cH ad pf'' n (zDD 0 (zGo σ (nI p0)).2 x y).2) H locs := hI
      refine gCallv (va_runV (As := [.int (nI w)]) (rest := []) hX (c_X1_leaveUntil l D cI cH g q ad pf'' n (zDD 0 (zGo σ (nI p0)).2 x y).2 _ w w' (by omega) hgD) (cwV 1 hts gX1_walkTo_X1_leaveUntil rfl rfl rfl (by decide +kernel) ⟨Nat.le_of_ble_eq_true rfl, Nat.le_of_ble_eq_true rfl⟩) ⟨gPre_blind, gRecv hI hK (ci := 1) (q0 := 0) rfl rfl, gPre_ok hI hK hN⟩ rfl rfl hl.1 rfl (lv_room (Nat.le_of_ble_eq_true rfl)) dX1_walkTo_67 ⟨Nat.zero_le _, Nat.zero_le _⟩) hI hA (fun ur8 H locs hr8 hI => ?_)
      subst hr8
      refine lv_iload hx hb dX1_walkTo_70 (lv_at hl 0 rfl) ?_
      exact gIret hX hr hlk hI ⟨_, by rw [zWT_go hc0]; exact hr7, by rw [zWT_go hc0]; show _ = wCn g q cI cH ad pf'' n (zPops _ (zW _ - zW σ)); rw [zW_of hgD, zW_of hg]⟩ dX1_walkTo_72
  · have hGo : zGo σ (nI p0) = (8, (uS σ 15 (σ.2 15 + 1))) := zGo_none8 hall
    refine lv_istore (lv' := [(5, .int (0)), (0, .ref g), (1, .int (nI p0)), (2, .int (x)), (3, .int (y)), (4, .int (2))]) hx hb dX1_walkTo_23 hl (by decide) rfl (fun ls hl => ?_)
    refine lv_iload hx hb dX1_walkTo_25 (lv_at hl 0 rfl) ?_
    refine lv_if_ne (tgt := 33) hx hb dX1_walkTo_27 (by decide) (fun c9 => False.elim (by revert c9; decide)) (fun c9 => ?_)
    refine lv_bipush (v := 8) hx hb dX1_walkTo_30 (by decide) ?_
    exact gIret hX hr hlk hI ⟨_, by rw [zWT_no (by rw [hGo]; exact (show ¬ (8 : Int32) = 0 by decide)), hGo], by rw [zWT_no (by rw [hGo]; exact (show ¬ (8 : Int32) = 0 by decide)), hGo]; show _ = wCn g q cI cH ad pf' n (zPops (uS σ 15 (σ.2 15 + 1)) (zW σ - zW σ)); rw [Nat.sub_self]; rfl⟩ dX1_walkTo_32
set_option maxHeartbeats 4000000 in
set_option maxRecDepth 100000 in
theorem c_walkOn_1 (l : Launch) (D : va_G) (cI cH : ClassId) (g : Nat) (q : Nat → Nat) (ad : Nat → Nat) (pf : Nat → Int32) (n : Nat) (σ : gh_S) (sz : Nat) (w : Nat) (y : Int32) (hw10 : w + 10 * 1 ≤ 30) (hg : gI n w σ) (hkd : gKd n σ) : gMi l yX1_walkOn wsX1_walkOn ({ frames := 5, cells := 0, slots := 0, locals := 117 }) D (wCn g q cI cH ad pf n σ) (gTy cI cH) sz [.ref g, .int (y), .int (2)] (fun r u => ∃ pf' : Nat → Int32, r = (zWT 1 σ (zTen y) (if y / 10 = 0 then 0 else 5) (y / 10)).1 ∧ u = wCn g q cI cH ad pf' n (zWT 1 σ (zTen y) (if y / 10 = 0 then 0 else 5) (y / 10)).2) := by
  refine gEnter (cc := cX1_walkOn) (maxL := 4) (ret := (some .int)) (QF := fun A => va_Qi _ (gPost D A) A) (by decide) rfl (Nat.le_of_ble_eq_true rfl) ?_
  intro p e s m below meth c A ls hX hr hlk hnm hK hN hA hI hl
  have hx := hX.1
  have hb := hX.2.1
  have hts := hX.2.2.2.2
  have hown : s.vm.findClass RX1 = some m.cls := hX.2.2.2.1
  have hl : lv_has ls 4 [(0, .ref g), (1, .int (y)), (2, .int (2))] := hl
  have hI : InW D A s.heap (wCr g q cI cH ad pf (gfh ad σ) (gfp ad σ) n σ) s.heap [] := hI
  refine lv_iload_n hx hb dX1_walkOn_0 rfl (lv_at hl 1 rfl) ?_
  refine lv_bipush (v := 10) hx hb dX1_walkOn_1 (by decide) ?_
  refine lv_idiv hx hb dX1_walkOn_3 (by decide) ?_
  refine lv_istore_n (lv' := [(3, .int ((y) / (10))), (0, .ref g), (1, .int (y)), (2, .int (2))]) hx hb dX1_walkOn_4 rfl hl (by decide) rfl (fun ls hl => ?_)
  refine lv_aload_n hx hb dX1_walkOn_5 rfl (lv_at hl 1 rfl) ?_
  refine lv_iload_n hx hb dX1_walkOn_6 rfl (lv_at hl 2 rfl) ?_
  refine lv_bipush (v := 10) hx hb dX1_walkOn_7 (by decide) ?_
  refine vp_callSi (W.runS (As := [.int (y), .int (10)]) (rest := [.ref g]) hX (c_fm10 l (y)) (va_cwS 2 hts gX1_walkOn_J9_floorMod_7cf53 rfl rfl rfl (by decide +kernel) ⟨Nat.le_of_ble_eq_true rfl, Nat.le_of_ble_eq_true rfl⟩) preEq rfl rfl hl.1 rfl (lv_room (Nat.le_of_ble_eq_true rfl)) dX1_walkOn_9 ⟨Nat.le_of_ble_eq_true rfl, Nat.le_of_ble_eq_true rfl⟩) (fun r1 hr1 => ?_)
  obtain ⟨j, hj, hjE⟩ := zTen_in y
  refine gTop (y := nI j) (hr1.trans hjE) ?_
  refine lv_iload_n hx hb dX1_walkOn_12 rfl (lv_at hl 0 rfl) ?_
  refine lv_if_ne (tgt := 20) hx hb dX1_walkOn_13 (by decide) (fun c2 => ?_) (fun c2 => ?_)
  · refine lv_iconst (v := 5) hx hb dX1_walkOn_20 (by decide) ?_
    refine lv_iload_n hx hb dX1_walkOn_21 rfl (lv_at hl 0 rfl) ?_
    refine lv_iload_n hx hb dX1_walkOn_22 rfl (lv_at hl 3 rfl) ?_
    have hI : InW D A s.heap (wCn g q cI cH ad pf n σ) s.heap [] := hI
    refine gCalli (va_runV (As := [.int (nI j), .int (5), .int ((y) / (10)), .int (2)]) (rest := []) hX (c_walkTo_1 l D cI cH g q ad pf n σ _ j w (5) ((y) / (10)) hj (by omega) hg hkd) (cwV 4 hts gX1_walkOn_X1_walkTo rfl rfl rfl (by decide +kernel) ⟨Nat.le_of_ble_eq_true rfl, Nat.le_of_ble_eq_true rfl⟩) ⟨gPre_blind, gRecv hI hK (ci := 1) (q0 := 0) rfl rfl, gPre_ok hI hK hN⟩ rfl rfl hl.1 rfl (lv_room (Nat.le_of_ble_eq_true rfl)) dX1_walkOn_23 ⟨Nat.zero_le _, Nat.zero_le _⟩) hI hA (fun r3 ur3 H locs hr3 hI => ?_)
    obtain ⟨pf', hr3, rfl⟩ := hr3
    exact gIret hX hr hlk hI ⟨pf', by rw [hjE, if_neg c2]; exact hr3, by rw [hjE, if_neg c2]⟩ dX1_walkOn_26
  · refine lv_iconst (v := 0) hx hb dX1_walkOn_16 (by decide) ?_
    refine lv_goto (tgt := 21) hx hb dX1_walkOn_17 (by decide) ?_
    refine lv_iload_n hx hb dX1_walkOn_21 rfl (lv_at hl 0 rfl) ?_
    refine lv_iload_n hx hb dX1_walkOn_22 rfl (lv_at hl 3 rfl) ?_
    have hI : InW D A s.heap (wCn g q cI cH ad pf n σ) s.heap [] := hI
    refine gCalli (va_runV (As := [.int (nI j), .int (0), .int ((y) / (10)), .int (2)]) (rest := []) hX (c_walkTo_1 l D cI cH g q ad pf n σ _ j w (0) ((y) / (10)) hj (by omega) hg hkd) (cwV 4 hts gX1_walkOn_X1_walkTo rfl rfl rfl (by decide +kernel) ⟨Nat.le_of_ble_eq_true rfl, Nat.le_of_ble_eq_true rfl⟩) ⟨gPre_blind, gRecv hI hK (ci := 1) (q0 := 0) rfl rfl, gPre_ok hI hK hN⟩ rfl rfl hl.1 rfl (lv_room (Nat.le_of_ble_eq_true rfl)) dX1_walkOn_23 ⟨Nat.zero_le _, Nat.zero_le _⟩) hI hA (fun r4 ur4 H locs hr4 hI => ?_)
    obtain ⟨pf', hr4, rfl⟩ := hr4
    exact gIret hX hr hlk hI ⟨pf', by rw [hjE, if_pos c2]; exact hr4, by rw [hjE, if_pos c2]⟩ dX1_walkOn_26
set_option maxHeartbeats 4000000 in
set_option maxRecDepth 100000 in
theorem c_doDeed_1 (l : Launch) (D : va_G) (cI cH : ClassId) (g : Nat) (q : Nat → Nat) (ad : Nat → Nat) (pf : Nat → Int32) (n : Nat) (σ : gh_S) (sz : Nat) (w : Nat) (x y : Int32) (hw10 : w + 10 * 1 ≤ 30) (hw1 : 0 < w) (hg : gI n w σ) (hkd : gKd n σ) : gMi l yX1_doDeed wsX1_doDeed ({ frames := 6, cells := 0, slots := 0, locals := 140 }) D (wCn g q cI cH ad pf n σ) (gTy cI cH) sz [.ref g, .int (x), .int (y), .int (2)] (fun r u => ∃ pf' : Nat → Int32, r = (zDD 1 σ x y).1 ∧ u = wCn g q cI cH ad pf' n (zDD 1 σ x y).2) := by
  refine gEnter (cc := cX1_doDeed) (maxL := 5) (ret := (some .int)) (QF := fun A => va_Qi _ (gPost D A) A) (by decide) rfl (Nat.le_of_ble_eq_true rfl) ?_
  intro p e s m below meth c A ls hX hr hlk hnm hK hN hA hI hl
  have hx := hX.1
  have hb := hX.2.1
  have hts := hX.2.2.2.2
  have hown : s.vm.findClass RX1 = some m.cls := hX.2.2.2.1
  have hin0 := iX1_doDeed_0
  have hin1 := iX1_doDeed_1
  have hl : lv_has ls 5 [(0, .ref g), (1, .int (x)), (2, .int (y)), (3, .int (2))] := hl
  have hI : InW D A s.heap (wCr g q cI cH ad pf (gfh ad σ) (gfp ad σ) n σ) s.heap [] := hI
  obtain ⟨hn, hw, ⟨t, ht, htE⟩, hpl, hpar, hrow, hn4, hw30, hz⟩ := id hg
  obtain ⟨i, hi, hIn, hiE, e1⟩ := zInner_of hw1 hg
  refine lv_aload_n hx hb dX1_doDeed_0 rfl (lv_at hl 0 rfl) ?_
  have hI : InW D A s.heap (wCn g q cI cH ad pf n σ) s.heap [] := hI
  refine gCallq (va_runV (As := []) (rest := []) hX (c_X1_innermost l D cI cH g q ad pf n σ _ w i hw1 hg hi hiE) (cwV 0 hts gX1_doDeed_X1_innermost rfl rfl rfl (by decide +kernel) ⟨Nat.le_of_ble_eq_true rfl, Nat.le_of_ble_eq_true rfl⟩) ⟨gPre_blind, gRecv hI hK (ci := 1) (q0 := 0) rfl rfl, gPre_ok hI hK hN⟩ rfl rfl hl.1 rfl (lv_room (Nat.le_of_ble_eq_true rfl)) dX1_doDeed_1 ⟨Nat.zero_le _, Nat.zero_le _⟩) hI hA (fun r1 ur1 H locs hr1 hI => ?_)
  obtain ⟨rfl, rfl⟩ := hr1
  refine gTopR ?_
  refine lv_astore (lv' := [(4, .ref (ad i)), (0, .ref g), (1, .int (x)), (2, .int (y)), (3, .int (2))]) hx hb dX1_doDeed_4 hl (by decide) rfl (fun ls hl => ?_)
  refine lv_aload hx hb dX1_doDeed_6 (lv_at hl 0 rfl) ?_
  refine lv_ifnonnull (tgt := 13) hx hb dX1_doDeed_8 (by decide) ?_
  refine lv_iload_n hx hb dX1_doDeed_13 rfl (lv_at hl 2 rfl) ?_
  rcases g_sw17 x with h2 | rfl | rfl | rfl | rfl | rfl | rfl | rfl
  · refine lv_tableOut (tgt := 122) hx hb dX1_doDeed_14 h2 (by decide) ?_
    refine lv_iconst (v := 0) hx hb dX1_doDeed_122 (by decide) ?_
    exact gIret hX hr hlk hI ⟨pf, by rw [zDD_out h2], by rw [zDD_out h2]⟩ dX1_doDeed_123
  · refine lv_tableIn (tgt := 56) (off := 42) hx hb dX1_doDeed_14 (by decide) (by decide) (by decide) (by decide) ?_
    refine lv_aload hx hb dX1_doDeed_56 (lv_at hl 0 rfl) ?_
    refine lv_dup hx hb dX1_doDeed_58 rfl ?_
    refine hGet (i := i) (v := .int (σ.1 3 (i))) hX hin0 hK hI hi 3 (by decide) hN.2.1 rfl dX1_doDeed_59 ?_
    refine lv_iload_n hx hb dX1_doDeed_62 rfl (lv_at hl 3 rfl) ?_
    refine lv_iadd hx hb dX1_doDeed_63 ?_
    refine hPut (i := i) hX hin0 hK hI hi 3 (by decide) hN.2.1 rfl rfl gHs3 (by decide) (by decide) dX1_doDeed_64 (fun H locs hI => ?_)
    refine lv_iconst (v := 0) hx hb dX1_doDeed_67 (by decide) ?_
    exact gIret hX hr hlk hI ⟨pf, by rw [zDD_deed (by decide) hIn]; rfl, by rw [zDD_deed (by decide) hIn]; rfl⟩ dX1_doDeed_68
  · refine lv_tableIn (tgt := 69) (off := 55) hx hb dX1_doDeed_14 (by decide) (by decide) (by decide) (by decide) ?_
    refine lv_aload_n hx hb dX1_doDeed_69 rfl (lv_at hl 1 rfl) ?_
    refine lv_aload hx hb dX1_doDeed_70 (lv_at hl 0 rfl) ?_
    have hI : InW D A s.heap (wCn g q cI cH ad pf n σ) H locs := hI
    refine gCalli (va_runV (As := [.ref (ad i)]) (rest := []) hX (c_X1_takeGifts l D cI cH g q ad pf n σ _ i hi) (cwV 1 hts gX1_doDeed_X1_takeGifts rfl rfl rfl (by decide +kernel) ⟨Nat.le_of_ble_eq_true rfl, Nat.le_of_ble_eq_true rfl⟩) ⟨gPre_blind, gRecv hI hK (ci := 1) (q0 := 0) rfl rfl, gPre_ok hI hK hN⟩ rfl rfl hl.1 rfl (lv_room (Nat.le_of_ble_eq_true rfl)) dX1_doDeed_72 ⟨Nat.zero_le _, Nat.zero_le _⟩) hI hA (fun r3 ur3 H locs hr3 hI => ?_)
    obtain ⟨hr3, rfl⟩ := hr3
    exact gIret hX hr hlk hI ⟨pf, by rw [zDD_deed (by decide) hIn]; rw [zDeed2]; exact hr3, by rw [zDD_deed (by decide) hIn]; rw [zDeed2]⟩ dX1_doDeed_75
  · refine lv_tableIn (tgt := 76) (off := 62) hx hb dX1_doDeed_14 (by decide) (by decide) (by decide) (by decide) ?_
    refine lv_aload hx hb dX1_doDeed_76 (lv_at hl 0 rfl) ?_
    refine lv_iload_n hx hb dX1_doDeed_78 rfl (lv_at hl 3 rfl) ?_
    have hI : InW D A s.heap (wCn g q cI cH ad pf n σ) H locs := hI
    refine gCalli (va_runS (As := [.ref (ad i), .int (y)]) (rest := []) hX (c_X1_divideGifts l D cI cH g q ad pf n σ _ i hi y) (va_cwS 2 hts gX1_doDeed_X1_divideGifts rfl rfl rfl (by decide +kernel) ⟨Nat.le_of_ble_eq_true rfl, Nat.le_of_ble_eq_true rfl⟩) ⟨gPre_blind, gPre_ok hI hK hN⟩ rfl rfl hl.1 rfl (lv_room (Nat.le_of_ble_eq_true rfl)) dX1_doDeed_79 ⟨Nat.zero_le _, Nat.zero_le _⟩) hI hA (fun r4 ur4 H locs hr4 hI => ?_)
    obtain ⟨hr4, rfl⟩ := hr4
    exact gIret hX hr hlk hI ⟨pf, by rw [zDD_deed (by decide) hIn]; rw [zDeed3]; exact hr4, by rw [zDD_deed (by decide) hIn]; rw [zDeed3]⟩ dX1_doDeed_82
  · refine lv_tableIn (tgt := 83) (off := 69) hx hb dX1_doDeed_14 (by decide) (by decide) (by decide) (by decide) ?_
    refine lv_aload_n hx hb dX1_doDeed_83 rfl (lv_at hl 1 rfl) ?_
    refine cGet (v := .ref (q 0)) hX hin1 hK hI 0 (by decide) (hts (.fieldLink RX1 11 "GateHalls" "halls" "[LGateHalls$Hall;") (by decide +kernel)) rfl dX1_doDeed_84 ?_
    refine lv_iload_n hx hb dX1_doDeed_87 rfl (lv_at hl 3 rfl) ?_
    refine lv_bipush (v := 10) hx hb dX1_doDeed_88 (by decide) ?_
    refine vp_callSi (W.runS (As := [.int (y), .int (10)]) (rest := [.ref (q 0)]) hX (c_fm10 l (y)) (va_cwS 2 hts gX1_doDeed_J9_floorMod_7cf53 rfl rfl rfl (by decide +kernel) ⟨Nat.le_of_ble_eq_true rfl, Nat.le_of_ble_eq_true rfl⟩) preEq rfl rfl hl.1 rfl (lv_room (Nat.le_of_ble_eq_true rfl)) dX1_doDeed_90 ⟨Nat.le_of_ble_eq_true rfl, Nat.le_of_ble_eq_true rfl⟩) (fun r5 hr5 => ?_)
    obtain ⟨j, hj, hjE⟩ := zTen_in y
    have hjC : (zTen y).toNatClampNeg = j := by rw [hjE]; exact nI_clamp (by omega)
    refine lv_null hx hb dX1_doDeed_93 ?_
    refine gQstN (j := j) (w' := wCr g q cI cH ad pf (va_up (gfh ad σ) (j) none) (gfp ad σ) n σ) hX hK hI 1 1 rfl rfl (hr5.trans hjE) (by omega) (by decide) rfl dX1_doDeed_94 (fun H locs hI => ?_)
    refine lv_iconst (v := 0) hx hb dX1_doDeed_95 (by decide) ?_
    exact gIret hX hr hlk hI ⟨pf, by rw [zDD_deed (by decide) hIn]; unfold zDeed; rw [if_neg (by decide), if_neg (by decide), if_neg (by decide), if_pos rfl], by rw [zDD_deed (by decide) hIn]; unfold zDeed; rw [if_neg (by decide), if_neg (by decide), if_neg (by decide), if_pos rfl]; rw [hjC, gfh_none hj]; rfl⟩ dX1_doDeed_96
  · refine lv_tableIn (tgt := 97) (off := 83) hx hb dX1_doDeed_14 (by decide) (by decide) (by decide) (by decide) ?_
    refine lv_aload_n hx hb dX1_doDeed_97 rfl (lv_at hl 1 rfl) ?_
    refine lv_iload_n hx hb dX1_doDeed_98 rfl (lv_at hl 3 rfl) ?_
    refine lv_iload_n hx hb dX1_doDeed_99 rfl (lv_at hl 4 rfl) ?_
    have hI : InW D A s.heap (wCn g q cI cH ad pf n σ) H locs := hI
    refine gCalli (va_runV (As := [.int (y), .int (2)]) (rest := []) hX (c_walkOn_1 l D cI cH g q ad pf n σ _ w y (by omega) hg hkd) (cwV 2 hts gX1_doDeed_X1_walkOn rfl rfl rfl (by decide +kernel) ⟨Nat.le_of_ble_eq_true rfl, Nat.le_of_ble_eq_true rfl⟩) ⟨gPre_blind, gRecv hI hK (ci := 1) (q0 := 0) rfl rfl, gPre_ok hI hK hN⟩ rfl rfl hl.1 rfl (lv_room (Nat.le_of_ble_eq_true rfl)) dX1_doDeed_100 ⟨Nat.zero_le _, Nat.zero_le _⟩) hI hA (fun r6 ur6 H locs hr6 hI => ?_)
    obtain ⟨pf', hr6, rfl⟩ := hr6
    exact gIret hX hr hlk hI ⟨pf', by rw [zDD5]; exact hr6, by rw [zDD5]⟩ dX1_doDeed_103
  · refine lv_tableIn (tgt := 104) (off := 90) hx hb dX1_doDeed_14 (by decide) (by decide) (by decide) (by decide) ?_
    refine lv_bipush (v := 20) hx hb dX1_doDeed_104 (by decide) ?_
    refine lv_iload_n hx hb dX1_doDeed_106 rfl (lv_at hl 3 rfl) ?_
    refine lv_iconst (v := 4) hx hb dX1_doDeed_107 (by decide) ?_
    refine vp_callSi (W.runS (As := [.int (y), .int (4)]) (rest := [.int (20)]) hX (c_fm4 l (y)) (va_cwS 2 hts gX1_doDeed_J9_floorMod_7cf53 rfl rfl rfl (by decide +kernel) ⟨Nat.le_of_ble_eq_true rfl, Nat.le_of_ble_eq_true rfl⟩) preEq rfl rfl hl.1 rfl (lv_room (Nat.le_of_ble_eq_true rfl)) dX1_doDeed_108 ⟨Nat.le_of_ble_eq_true rfl, Nat.le_of_ble_eq_true rfl⟩) (fun r7 hr7 => ?_)
    refine lv_iadd hx hb dX1_doDeed_111 ?_
    exact gIret hX hr hlk hI ⟨pf, by rw [zDD_deed (by decide) hIn]; unfold zDeed; rw [if_neg (by decide), if_neg (by decide), if_neg (by decide), if_neg (by decide), if_pos rfl]; rw [hr7], by rw [zDD_deed (by decide) hIn]; unfold zDeed; rw [if_neg (by decide), if_neg (by decide), if_neg (by decide), if_neg (by decide), if_pos rfl]⟩ dX1_doDeed_112
  · refine lv_tableIn (tgt := 113) (off := 99) hx hb dX1_doDeed_14 (by decide) (by decide) (by decide) (by decide) ?_
    refine lv_aload_n hx hb dX1_doDeed_113 rfl (lv_at hl 1 rfl) ?_
    refine lv_aload_n hx hb dX1_doDeed_114 rfl (lv_at hl 1 rfl) ?_
    refine cGet (v := .int (σ.2 17)) hX hin1 hK hI 6 (by decide) (hts (.fieldLink RX1 96 "GateHalls" "depth" "I") (by decide +kernel)) rfl dX1_doDeed_115 ?_
    have hI : InW D A s.heap (wCn g q cI cH ad pf n σ) H locs := hI
    refine gCalli (va_runV (As := [.int (σ.2 17)]) (rest := []) hX (c_X1_addToPurse l D cI cH g q ad pf n σ _ (σ.2 17)) (cwV 1 hts gX1_doDeed_X1_addToPurse rfl rfl rfl (by decide +kernel) ⟨Nat.le_of_ble_eq_true rfl, Nat.le_of_ble_eq_true rfl⟩) ⟨gPre_blind, gRecv hI hK (ci := 1) (q0 := 0) rfl rfl, gPre_ok hI hK hN⟩ rfl rfl hl.1 rfl (lv_room (Nat.le_of_ble_eq_true rfl)) dX1_doDeed_118 ⟨Nat.zero_le _, Nat.zero_le _⟩) hI hA (fun r8 ur8 H locs hr8 hI => ?_)
    obtain ⟨hr8, rfl⟩ := hr8
    exact gIret hX hr hlk hI ⟨pf, by rw [zDD_deed (by decide) hIn]; unfold zDeed; rw [if_neg (by decide), if_neg (by decide), if_neg (by decide), if_neg (by decide), if_neg (by decide), if_pos rfl]; exact hr8, by rw [zDD_deed (by decide) hIn]; unfold zDeed; rw [if_neg (by decide), if_neg (by decide), if_neg (by decide), if_neg (by decide), if_neg (by decide), if_pos rfl]⟩ dX1_doDeed_121
set_option maxHeartbeats 4000000 in
set_option maxRecDepth 100000 in
theorem c_walkTo_2 (l : Launch) (D : va_G) (cI cH : ClassId) (g : Nat) (q : Nat → Nat) (ad : Nat → Nat) (pf : Nat → Int32) (n : Nat) (σ : gh_S) (sz : Nat) (p0 w : Nat) (x y : Int32) (hp : p0 < 10) (hw10 : w + 10 * 2 ≤ 30) (hg : gI n w σ) (hkd : gKd n σ) : gMi l yX1_walkTo wsX1_walkTo ({ frames := 7, cells := 0, slots := 0, locals := 164 }) D (wCn g q cI cH ad pf n σ) (gTy cI cH) sz [.ref g, .int (nI p0), .int (x), .int (y), .int (1)] (fun r u => ∃ pf' : Nat → Int32, r = (zWT 2 σ (nI p0) x y).1 ∧ u = wCn g q cI cH ad pf' n (zWT 2 σ (nI p0) x y).2) := by
  refine gEnter (cc := cX1_walkTo) (maxL := 8) (ret := (some .int)) (QF := fun A => va_Qi _ (gPost D A) A) (by decide) rfl (Nat.le_of_ble_eq_true rfl) ?_
  intro p e s m below meth c A ls hX hr hlk hnm hK hN hA hI hl
  have hx := hX.1
  have hb := hX.2.1
  have hts := hX.2.2.2.2
  have hown : s.vm.findClass RX1 = some m.cls := hX.2.2.2.1
  have hin1 := iX1_walkTo_1
  have hl : lv_has ls 8 [(0, .ref g), (1, .int (nI p0)), (2, .int (x)), (3, .int (y)), (4, .int (1))] := hl
  have hI : InW D A s.heap (wCr g q cI cH ad pf (gfh ad σ) (gfp ad σ) n σ) s.heap [] := hI
  obtain ⟨hn, hw, ⟨t, ht, htE⟩, hpl, hpar, hrow, hn4, hw30, hz⟩ := id hg
  have hg1 : gI n w (uS σ 15 (σ.2 15 + 1)) := gI_uS 15 _ (by decide) (by decide) (by decide) hg
  refine lv_iload hx hb dX1_walkTo_0 (lv_at hl 4 rfl) ?_
  refine lv_iconst (v := 3) hx hb dX1_walkTo_2 (by decide) ?_
  refine lv_icmp_lt (tgt := 8) hx hb dX1_walkTo_3 (by decide) (fun c1 => ?_) (fun c1 => False.elim (by revert c1; decide))
  refine lv_aload_n hx hb dX1_walkTo_8 rfl (lv_at hl 0 rfl) ?_
  refine lv_dup hx hb dX1_walkTo_9 rfl ?_
  refine cGet (v := .int (σ.2 15)) hX hin1 hK hI 11 (by decide) (hts (.fieldLink RX1 90 "GateHalls" "walksBegun" "I") (by decide +kernel)) rfl dX1_walkTo_10 ?_
  refine lv_iconst (v := 1) hx hb dX1_walkTo_13 (by decide) ?_
  refine lv_iadd hx hb dX1_walkTo_14 ?_
  refine cPut (σ' := (uS σ 15 ((σ.2 15) + (1)))) hX hin1 hK hI 11 (by decide) (hts (.fieldLink RX1 90 "GateHalls" "walksBegun" "I") (by decide +kernel)) rfl rfl rfl dX1_walkTo_15 (fun H locs hI => ?_)
  refine lv_aload_n hx hb dX1_walkTo_18 rfl (lv_at hl 0 rfl) ?_
  refine lv_iload_n hx hb dX1_walkTo_19 rfl (lv_at hl 1 rfl) ?_
  have hI : InW D A s.heap (wCn g q cI cH ad pf n (uS σ 15 ((σ.2 15) + (1)))) H locs := hI
  refine gCalli (va_runV (As := [.int (nI p0)]) (rest := []) hX (c_X1_findPath l D cI cH g q ad pf n (uS σ 15 ((σ.2 15) + (1))) _ p0 w hp hg1) (cwV 1 hts gX1_walkTo_X1_findPath rfl rfl rfl (by decide +kernel) ⟨Nat.le_of_ble_eq_true rfl, Nat.le_of_ble_eq_true rfl⟩) ⟨gPre_blind, gRecv hI hK (ci := 1) (q0 := 0) rfl rfl, gPre_ok hI hK hN⟩ rfl rfl hl.1 rfl (lv_room (Nat.le_of_ble_eq_true rfl)) dX1_walkTo_20 ⟨Nat.zero_le _, Nat.zero_le _⟩) hI hA (fun r2 ur2 H locs hr2 hI => ?_)
  obtain ⟨pf', rfl, hr2⟩ := hr2
  rcases hr2 with ⟨k, hk10, hk0, rfl, hkE, hkj⟩ | ⟨rfl, hall⟩
  · have hGo : zGo σ (nI p0) = zDown (zOrb (σ.1 10) (nI p0)) k (uS σ 15 (σ.2 15 + 1)) := zGo_some hk10 (fun j hj => (hkj j hj).2) hkE
    obtain ⟨w', hw1, hw2, hgG, hw3⟩ := gI_go (p := nI p0) (by omega) ⟨p0, hp, rfl⟩ hg
    have hkG : gKd n (zGo σ (nI p0)).2 := gKd_of k_go hkd
    refine lv_istore (lv' := [(5, .int (nI k)), (0, .ref g), (1, .int (nI p0)), (2, .int (x)), (3, .int (y)), (4, .int (1))]) hx hb dX1_walkTo_23 hl (by decide) rfl (fun ls hl => ?_)
    refine lv_iload hx hb dX1_walkTo_25 (lv_at hl 0 rfl) ?_
    refine lv_if_ne (tgt := 33) hx hb dX1_walkTo_27 (by decide) (fun c3 => ?_) (fun c3 => absurd c3 (nI_ne0 hk0 (by omega)))
    refine lv_aload_n hx hb dX1_walkTo_33 rfl (lv_at hl 1 rfl) ?_
    refine cGet (v := .int (σ.2 17)) hX hin1 hK hI 6 (by decide) (hts (.fieldLink RX1 96 "GateHalls" "depth" "I") (by decide +kernel)) rfl dX1_walkTo_34 ?_
    refine gTop (y := nI w) hw ?_
    refine lv_istore (lv' := [(6, .int (nI w)), (5, .int (nI k)), (0, .ref g), (1, .int (nI p0)), (2, .int (x)), (3, .int (y)), (4, .int (1))]) hx hb dX1_walkTo_37 hl (by decide) rfl (fun ls hl => ?_)
    refine lv_aload_n hx hb dX1_walkTo_39 rfl (lv_at hl 2 rfl) ?_
    refine lv_iload hx hb dX1_walkTo_40 (lv_at hl 1 rfl) ?_
    have hI : InW D A s.heap (wCn g q cI cH ad pf' n (uS σ 15 ((σ.2 15) + (1)))) H locs := hI
    refine gCalli (va_runV (As := [.int (nI k)]) (rest := []) hX (c_X1_passPath l D cI cH g q ad pf' n (uS σ 15 ((σ.2 15) + (1))) _ (zOrb (σ.1 10) (nI p0)) k w hk10 (by omega) (fun j hj => ⟨(hkj j hj).1, (zOrb_in hg ⟨p0, hp, rfl⟩ j).resolve_left (hkj j hj).2⟩) hg1 hkd) (cwV 1 hts gX1_walkTo_X1_passPath rfl rfl rfl (by decide +kernel) ⟨Nat.le_of_ble_eq_true rfl, Nat.le_of_ble_eq_true rfl⟩) ⟨gPre_blind, gRecv hI hK (ci := 1) (q0 := 0) rfl rfl, gPre_ok hI hK hN⟩ rfl rfl hl.1 rfl (lv_room (Nat.le_of_ble_eq_true rfl)) dX1_walkTo_42 ⟨Nat.zero_le _, Nat.zero_le _⟩) hI hA (fun r4 ur4 H locs hr4 hI => ?_)
    obtain ⟨hr4, rfl⟩ := hr4
    have hGo1 := congrArg Prod.fst hGo
    have hGo2 := congrArg Prod.snd hGo
    have hI : InW D A s.heap (wCn g q cI cH ad pf' n (zGo σ (nI p0)).2) H locs := by rw [hGo2]; exact hI
    have hr4G : r4 = (zGo σ (nI p0)).1 := by rw [hGo1]; exact hr4
    refine lv_istore (lv' := [(7, .int (r4)), (6, .int (nI w)), (5, .int (nI k)), (0, .ref g), (1, .int (nI p0)), (2, .int (x)), (3, .int (y)), (4, .int (1))]) hx hb dX1_walkTo_45 hl (by decide) rfl (fun ls hl => ?_)
    refine lv_iload hx hb dX1_walkTo_47 (lv_at hl 0 rfl) ?_
    refine lv_if_ne (tgt := 64) hx hb dX1_walkTo_49 (by decide) (fun c5 => ?_) (fun c5 => ?_)
    · have hc0 : ¬ (zGo σ (nI p0)).1 = 0 := by rw [← hr4G]; exact c5
      refine lv_aload_n hx hb dX1_walkTo_64 rfl (lv_at hl 3 rfl) ?_
      refine lv_iload hx hb dX1_walkTo_65 (lv_at hl 1 rfl) ?_
      have hI : InW D A s.heap (wCn g q cI cH ad pf' n (zGo σ (nI p0)).2) H locs := hI
      refine gCallv (va_runV (As := [.int (nI w)]) (rest := []) hX (c_X1_leaveUntil l D cI cH g q ad pf' n (zGo σ (nI p0)).2 _ w w' (by omega) hgG) (cwV 1 hts gX1_walkTo_X1_leaveUntil rfl rfl rfl (by decide +kernel) ⟨Nat.le_of_ble_eq_true rfl, Nat.le_of_ble_eq_true rfl⟩) ⟨gPre_blind, gRecv hI hK (ci := 1) (q0 := 0) rfl rfl, gPre_ok hI hK hN⟩ rfl rfl hl.1 rfl (lv_room (Nat.le_of_ble_eq_true rfl)) dX1_walkTo_67 ⟨Nat.zero_le _, Nat.zero_le _⟩) hI hA (fun ur6 H locs hr6 hI => ?_)
      subst hr6
      refine lv_iload hx hb dX1_walkTo_70 (lv_at hl 0 rfl) ?_
      exact gIret hX hr hlk hI ⟨_, by rw [zWT_no hc0]; exact hr4G, by rw [zWT_no hc0]; show _ = wCn g q cI cH ad pf' n (zPops _ (zW _ - zW σ)); rw [zW_of hgG, zW_of hg]⟩ dX1_walkTo_72
    · have hc0 : (zGo σ (nI p0)).1 = 0 := by rw [← hr4G]; exact c5
      refine lv_aload_n hx hb dX1_walkTo_52 rfl (lv_at hl 3 rfl) ?_
      refine lv_iload_n hx hb dX1_walkTo_53 rfl (lv_at hl 5 rfl) ?_
      refine lv_iload_n hx hb dX1_walkTo_54 rfl (lv_at hl 6 rfl) ?_
      refine lv_iload hx hb dX1_walkTo_55 (lv_at hl 7 rfl) ?_
      refine lv_iconst (v := 1) hx hb dX1_walkTo_57 (by decide) ?_
      refine lv_iadd hx hb dX1_walkTo_58 ?_
      refine gTop (y := 2) (by decide) ?_
      have hI : InW D A s.heap (wCn g q cI cH ad pf' n (zGo σ (nI p0)).2) H locs := hI
      refine gCalli (va_runV (As := [.int (x), .int (y), .int (2)]) (rest := []) hX (c_doDeed_1 l D cI cH g q ad pf' n (zGo σ (nI p0)).2 _ w' x y (by omega) (by have := hw3 hc0; omega) hgG hkG) (cwV 3 hts gX1_walkTo_X1_doDeed rfl rfl rfl (by decide +kernel) ⟨Nat.le_of_ble_eq_true rfl, Nat.le_of_ble_eq_true rfl⟩) ⟨gPre_blind, gRecv hI hK (ci := 1) (q0 := 0) rfl rfl, gPre_ok hI hK hN⟩ rfl rfl hl.1 rfl (lv_room (Nat.le_of_ble_eq_true rfl)) dX1_walkTo_59 ⟨Nat.zero_le _, Nat.zero_le _⟩) hI hA (fun r7 ur7 H locs hr7 hI => ?_)
      obtain ⟨pf'', hr7, rfl⟩ := hr7
      have hgD := gI_dd (f := 1) (x := x) (y := y) (by omega) (by have := hw3 hc0; omega) hgG
      refine lv_istore (lv' := [(7, .int (r7)), (6, .int (nI w)), (5, .int (nI k)), (0, .ref g), (1, .int (nI p0)), (2, .int (x)), (3, .int (y)), (4, .int (1))]) hx hb dX1_walkTo_62 hl (by decide) rfl (fun ls hl => ?_)
      refine lv_aload_n hx hb dX1_walkTo_64 rfl (lv_at hl 3 rfl) ?_
      refine lv_iload hx hb dX1_walkTo_65 (lv_at hl 1 rfl) ?_
      have hI : InW D A s.heap (wCn g q cI cH ad pf'' n (zDD 1 (zGo σ (nI p0)).2 x y).2) H locs := hI
      refine gCallv (va_runV (As := [.int (nI w)]) (rest := []) hX (c_X1_leaveUntil l D cI cH g q ad pf'' n (zDD 1 (zGo σ (nI p0)).2 x y).2 _ w w' (by omega) hgD) (cwV 1 hts gX1_walkTo_X1_leaveUntil rfl rfl rfl (by decide +kernel) ⟨Nat.le_of_ble_eq_true rfl, Nat.le_of_ble_eq_true rfl⟩) ⟨gPre_blind, gRecv hI hK (ci := 1) (q0 := 0) rfl rfl, gPre_ok hI hK hN⟩ rfl rfl hl.1 rfl (lv_room (Nat.le_of_ble_eq_true rfl)) dX1_walkTo_67 ⟨Nat.zero_le _, Nat.zero_le _⟩) hI hA (fun ur8 H locs hr8 hI => ?_)
      subst hr8
      refine lv_iload hx hb dX1_walkTo_70 (lv_at hl 0 rfl) ?_
      exact gIret hX hr hlk hI ⟨_, by rw [zWT_go hc0]; exact hr7, by rw [zWT_go hc0]; show _ = wCn g q cI cH ad pf'' n (zPops _ (zW _ - zW σ)); rw [zW_of hgD, zW_of hg]⟩ dX1_walkTo_72
  · have hGo : zGo σ (nI p0) = (8, (uS σ 15 (σ.2 15 + 1))) := zGo_none8 hall
    refine lv_istore (lv' := [(5, .int (0)), (0, .ref g), (1, .int (nI p0)), (2, .int (x)), (3, .int (y)), (4, .int (1))]) hx hb dX1_walkTo_23 hl (by decide) rfl (fun ls hl => ?_)
    refine lv_iload hx hb dX1_walkTo_25 (lv_at hl 0 rfl) ?_
    refine lv_if_ne (tgt := 33) hx hb dX1_walkTo_27 (by decide) (fun c9 => False.elim (by revert c9; decide)) (fun c9 => ?_)
    refine lv_bipush (v := 8) hx hb dX1_walkTo_30 (by decide) ?_
    exact gIret hX hr hlk hI ⟨_, by rw [zWT_no (by rw [hGo]; exact (show ¬ (8 : Int32) = 0 by decide)), hGo], by rw [zWT_no (by rw [hGo]; exact (show ¬ (8 : Int32) = 0 by decide)), hGo]; show _ = wCn g q cI cH ad pf' n (zPops (uS σ 15 (σ.2 15 + 1)) (zW σ - zW σ)); rw [Nat.sub_self]; rfl⟩ dX1_walkTo_32
set_option maxHeartbeats 4000000 in
set_option maxRecDepth 100000 in
theorem c_walkOn_2 (l : Launch) (D : va_G) (cI cH : ClassId) (g : Nat) (q : Nat → Nat) (ad : Nat → Nat) (pf : Nat → Int32) (n : Nat) (σ : gh_S) (sz : Nat) (w : Nat) (y : Int32) (hw10 : w + 10 * 2 ≤ 30) (hg : gI n w σ) (hkd : gKd n σ) : gMi l yX1_walkOn wsX1_walkOn ({ frames := 8, cells := 0, slots := 0, locals := 191 }) D (wCn g q cI cH ad pf n σ) (gTy cI cH) sz [.ref g, .int (y), .int (1)] (fun r u => ∃ pf' : Nat → Int32, r = (zWT 2 σ (zTen y) (if y / 10 = 0 then 0 else 5) (y / 10)).1 ∧ u = wCn g q cI cH ad pf' n (zWT 2 σ (zTen y) (if y / 10 = 0 then 0 else 5) (y / 10)).2) := by
  refine gEnter (cc := cX1_walkOn) (maxL := 4) (ret := (some .int)) (QF := fun A => va_Qi _ (gPost D A) A) (by decide) rfl (Nat.le_of_ble_eq_true rfl) ?_
  intro p e s m below meth c A ls hX hr hlk hnm hK hN hA hI hl
  have hx := hX.1
  have hb := hX.2.1
  have hts := hX.2.2.2.2
  have hown : s.vm.findClass RX1 = some m.cls := hX.2.2.2.1
  have hl : lv_has ls 4 [(0, .ref g), (1, .int (y)), (2, .int (1))] := hl
  have hI : InW D A s.heap (wCr g q cI cH ad pf (gfh ad σ) (gfp ad σ) n σ) s.heap [] := hI
  refine lv_iload_n hx hb dX1_walkOn_0 rfl (lv_at hl 1 rfl) ?_
  refine lv_bipush (v := 10) hx hb dX1_walkOn_1 (by decide) ?_
  refine lv_idiv hx hb dX1_walkOn_3 (by decide) ?_
  refine lv_istore_n (lv' := [(3, .int ((y) / (10))), (0, .ref g), (1, .int (y)), (2, .int (1))]) hx hb dX1_walkOn_4 rfl hl (by decide) rfl (fun ls hl => ?_)
  refine lv_aload_n hx hb dX1_walkOn_5 rfl (lv_at hl 1 rfl) ?_
  refine lv_iload_n hx hb dX1_walkOn_6 rfl (lv_at hl 2 rfl) ?_
  refine lv_bipush (v := 10) hx hb dX1_walkOn_7 (by decide) ?_
  refine vp_callSi (W.runS (As := [.int (y), .int (10)]) (rest := [.ref g]) hX (c_fm10 l (y)) (va_cwS 2 hts gX1_walkOn_J9_floorMod_7cf53 rfl rfl rfl (by decide +kernel) ⟨Nat.le_of_ble_eq_true rfl, Nat.le_of_ble_eq_true rfl⟩) preEq rfl rfl hl.1 rfl (lv_room (Nat.le_of_ble_eq_true rfl)) dX1_walkOn_9 ⟨Nat.le_of_ble_eq_true rfl, Nat.le_of_ble_eq_true rfl⟩) (fun r1 hr1 => ?_)
  obtain ⟨j, hj, hjE⟩ := zTen_in y
  refine gTop (y := nI j) (hr1.trans hjE) ?_
  refine lv_iload_n hx hb dX1_walkOn_12 rfl (lv_at hl 0 rfl) ?_
  refine lv_if_ne (tgt := 20) hx hb dX1_walkOn_13 (by decide) (fun c2 => ?_) (fun c2 => ?_)
  · refine lv_iconst (v := 5) hx hb dX1_walkOn_20 (by decide) ?_
    refine lv_iload_n hx hb dX1_walkOn_21 rfl (lv_at hl 0 rfl) ?_
    refine lv_iload_n hx hb dX1_walkOn_22 rfl (lv_at hl 3 rfl) ?_
    have hI : InW D A s.heap (wCn g q cI cH ad pf n σ) s.heap [] := hI
    refine gCalli (va_runV (As := [.int (nI j), .int (5), .int ((y) / (10)), .int (1)]) (rest := []) hX (c_walkTo_2 l D cI cH g q ad pf n σ _ j w (5) ((y) / (10)) hj (by omega) hg hkd) (cwV 4 hts gX1_walkOn_X1_walkTo rfl rfl rfl (by decide +kernel) ⟨Nat.le_of_ble_eq_true rfl, Nat.le_of_ble_eq_true rfl⟩) ⟨gPre_blind, gRecv hI hK (ci := 1) (q0 := 0) rfl rfl, gPre_ok hI hK hN⟩ rfl rfl hl.1 rfl (lv_room (Nat.le_of_ble_eq_true rfl)) dX1_walkOn_23 ⟨Nat.zero_le _, Nat.zero_le _⟩) hI hA (fun r3 ur3 H locs hr3 hI => ?_)
    obtain ⟨pf', hr3, rfl⟩ := hr3
    exact gIret hX hr hlk hI ⟨pf', by rw [hjE, if_neg c2]; exact hr3, by rw [hjE, if_neg c2]⟩ dX1_walkOn_26
  · refine lv_iconst (v := 0) hx hb dX1_walkOn_16 (by decide) ?_
    refine lv_goto (tgt := 21) hx hb dX1_walkOn_17 (by decide) ?_
    refine lv_iload_n hx hb dX1_walkOn_21 rfl (lv_at hl 0 rfl) ?_
    refine lv_iload_n hx hb dX1_walkOn_22 rfl (lv_at hl 3 rfl) ?_
    have hI : InW D A s.heap (wCn g q cI cH ad pf n σ) s.heap [] := hI
    refine gCalli (va_runV (As := [.int (nI j), .int (0), .int ((y) / (10)), .int (1)]) (rest := []) hX (c_walkTo_2 l D cI cH g q ad pf n σ _ j w (0) ((y) / (10)) hj (by omega) hg hkd) (cwV 4 hts gX1_walkOn_X1_walkTo rfl rfl rfl (by decide +kernel) ⟨Nat.le_of_ble_eq_true rfl, Nat.le_of_ble_eq_true rfl⟩) ⟨gPre_blind, gRecv hI hK (ci := 1) (q0 := 0) rfl rfl, gPre_ok hI hK hN⟩ rfl rfl hl.1 rfl (lv_room (Nat.le_of_ble_eq_true rfl)) dX1_walkOn_23 ⟨Nat.zero_le _, Nat.zero_le _⟩) hI hA (fun r4 ur4 H locs hr4 hI => ?_)
    obtain ⟨pf', hr4, rfl⟩ := hr4
    exact gIret hX hr hlk hI ⟨pf', by rw [hjE, if_pos c2]; exact hr4, by rw [hjE, if_pos c2]⟩ dX1_walkOn_26
set_option maxHeartbeats 4000000 in
set_option maxRecDepth 100000 in
theorem c_doDeed_2 (l : Launch) (D : va_G) (cI cH : ClassId) (g : Nat) (q : Nat → Nat) (ad : Nat → Nat) (pf : Nat → Int32) (n : Nat) (σ : gh_S) (sz : Nat) (w : Nat) (x y : Int32) (hw10 : w + 10 * 2 ≤ 30) (hw1 : 0 < w) (hg : gI n w σ) (hkd : gKd n σ) : gMi l yX1_doDeed wsX1_doDeed ({ frames := 9, cells := 0, slots := 0, locals := 214 }) D (wCn g q cI cH ad pf n σ) (gTy cI cH) sz [.ref g, .int (x), .int (y), .int (1)] (fun r u => ∃ pf' : Nat → Int32, r = (zDD 2 σ x y).1 ∧ u = wCn g q cI cH ad pf' n (zDD 2 σ x y).2) := by
  refine gEnter (cc := cX1_doDeed) (maxL := 5) (ret := (some .int)) (QF := fun A => va_Qi _ (gPost D A) A) (by decide) rfl (Nat.le_of_ble_eq_true rfl) ?_
  intro p e s m below meth c A ls hX hr hlk hnm hK hN hA hI hl
  have hx := hX.1
  have hb := hX.2.1
  have hts := hX.2.2.2.2
  have hown : s.vm.findClass RX1 = some m.cls := hX.2.2.2.1
  have hin0 := iX1_doDeed_0
  have hin1 := iX1_doDeed_1
  have hl : lv_has ls 5 [(0, .ref g), (1, .int (x)), (2, .int (y)), (3, .int (1))] := hl
  have hI : InW D A s.heap (wCr g q cI cH ad pf (gfh ad σ) (gfp ad σ) n σ) s.heap [] := hI
  obtain ⟨hn, hw, ⟨t, ht, htE⟩, hpl, hpar, hrow, hn4, hw30, hz⟩ := id hg
  obtain ⟨i, hi, hIn, hiE, e1⟩ := zInner_of hw1 hg
  refine lv_aload_n hx hb dX1_doDeed_0 rfl (lv_at hl 0 rfl) ?_
  have hI : InW D A s.heap (wCn g q cI cH ad pf n σ) s.heap [] := hI
  refine gCallq (va_runV (As := []) (rest := []) hX (c_X1_innermost l D cI cH g q ad pf n σ _ w i hw1 hg hi hiE) (cwV 0 hts gX1_doDeed_X1_innermost rfl rfl rfl (by decide +kernel) ⟨Nat.le_of_ble_eq_true rfl, Nat.le_of_ble_eq_true rfl⟩) ⟨gPre_blind, gRecv hI hK (ci := 1) (q0 := 0) rfl rfl, gPre_ok hI hK hN⟩ rfl rfl hl.1 rfl (lv_room (Nat.le_of_ble_eq_true rfl)) dX1_doDeed_1 ⟨Nat.zero_le _, Nat.zero_le _⟩) hI hA (fun r1 ur1 H locs hr1 hI => ?_)
  obtain ⟨rfl, rfl⟩ := hr1
  refine gTopR ?_
  refine lv_astore (lv' := [(4, .ref (ad i)), (0, .ref g), (1, .int (x)), (2, .int (y)), (3, .int (1))]) hx hb dX1_doDeed_4 hl (by decide) rfl (fun ls hl => ?_)
  refine lv_aload hx hb dX1_doDeed_6 (lv_at hl 0 rfl) ?_
  refine lv_ifnonnull (tgt := 13) hx hb dX1_doDeed_8 (by decide) ?_
  refine lv_iload_n hx hb dX1_doDeed_13 rfl (lv_at hl 2 rfl) ?_
  rcases g_sw17 x with h2 | rfl | rfl | rfl | rfl | rfl | rfl | rfl
  · refine lv_tableOut (tgt := 122) hx hb dX1_doDeed_14 h2 (by decide) ?_
    refine lv_iconst (v := 0) hx hb dX1_doDeed_122 (by decide) ?_
    exact gIret hX hr hlk hI ⟨pf, by rw [zDD_out h2], by rw [zDD_out h2]⟩ dX1_doDeed_123
  · refine lv_tableIn (tgt := 56) (off := 42) hx hb dX1_doDeed_14 (by decide) (by decide) (by decide) (by decide) ?_
    refine lv_aload hx hb dX1_doDeed_56 (lv_at hl 0 rfl) ?_
    refine lv_dup hx hb dX1_doDeed_58 rfl ?_
    refine hGet (i := i) (v := .int (σ.1 3 (i))) hX hin0 hK hI hi 3 (by decide) hN.2.1 rfl dX1_doDeed_59 ?_
    refine lv_iload_n hx hb dX1_doDeed_62 rfl (lv_at hl 3 rfl) ?_
    refine lv_iadd hx hb dX1_doDeed_63 ?_
    refine hPut (i := i) hX hin0 hK hI hi 3 (by decide) hN.2.1 rfl rfl gHs3 (by decide) (by decide) dX1_doDeed_64 (fun H locs hI => ?_)
    refine lv_iconst (v := 0) hx hb dX1_doDeed_67 (by decide) ?_
    exact gIret hX hr hlk hI ⟨pf, by rw [zDD_deed (by decide) hIn]; rfl, by rw [zDD_deed (by decide) hIn]; rfl⟩ dX1_doDeed_68
  · refine lv_tableIn (tgt := 69) (off := 55) hx hb dX1_doDeed_14 (by decide) (by decide) (by decide) (by decide) ?_
    refine lv_aload_n hx hb dX1_doDeed_69 rfl (lv_at hl 1 rfl) ?_
    refine lv_aload hx hb dX1_doDeed_70 (lv_at hl 0 rfl) ?_
    have hI : InW D A s.heap (wCn g q cI cH ad pf n σ) H locs := hI
    refine gCalli (va_runV (As := [.ref (ad i)]) (rest := []) hX (c_X1_takeGifts l D cI cH g q ad pf n σ _ i hi) (cwV 1 hts gX1_doDeed_X1_takeGifts rfl rfl rfl (by decide +kernel) ⟨Nat.le_of_ble_eq_true rfl, Nat.le_of_ble_eq_true rfl⟩) ⟨gPre_blind, gRecv hI hK (ci := 1) (q0 := 0) rfl rfl, gPre_ok hI hK hN⟩ rfl rfl hl.1 rfl (lv_room (Nat.le_of_ble_eq_true rfl)) dX1_doDeed_72 ⟨Nat.zero_le _, Nat.zero_le _⟩) hI hA (fun r3 ur3 H locs hr3 hI => ?_)
    obtain ⟨hr3, rfl⟩ := hr3
    exact gIret hX hr hlk hI ⟨pf, by rw [zDD_deed (by decide) hIn]; rw [zDeed2]; exact hr3, by rw [zDD_deed (by decide) hIn]; rw [zDeed2]⟩ dX1_doDeed_75
  · refine lv_tableIn (tgt := 76) (off := 62) hx hb dX1_doDeed_14 (by decide) (by decide) (by decide) (by decide) ?_
    refine lv_aload hx hb dX1_doDeed_76 (lv_at hl 0 rfl) ?_
    refine lv_iload_n hx hb dX1_doDeed_78 rfl (lv_at hl 3 rfl) ?_
    have hI : InW D A s.heap (wCn g q cI cH ad pf n σ) H locs := hI
    refine gCalli (va_runS (As := [.ref (ad i), .int (y)]) (rest := []) hX (c_X1_divideGifts l D cI cH g q ad pf n σ _ i hi y) (va_cwS 2 hts gX1_doDeed_X1_divideGifts rfl rfl rfl (by decide +kernel) ⟨Nat.le_of_ble_eq_true rfl, Nat.le_of_ble_eq_true rfl⟩) ⟨gPre_blind, gPre_ok hI hK hN⟩ rfl rfl hl.1 rfl (lv_room (Nat.le_of_ble_eq_true rfl)) dX1_doDeed_79 ⟨Nat.zero_le _, Nat.zero_le _⟩) hI hA (fun r4 ur4 H locs hr4 hI => ?_)
    obtain ⟨hr4, rfl⟩ := hr4
    exact gIret hX hr hlk hI ⟨pf, by rw [zDD_deed (by decide) hIn]; rw [zDeed3]; exact hr4, by rw [zDD_deed (by decide) hIn]; rw [zDeed3]⟩ dX1_doDeed_82
  · refine lv_tableIn (tgt := 83) (off := 69) hx hb dX1_doDeed_14 (by decide) (by decide) (by decide) (by decide) ?_
    refine lv_aload_n hx hb dX1_doDeed_83 rfl (lv_at hl 1 rfl) ?_
    refine cGet (v := .ref (q 0)) hX hin1 hK hI 0 (by decide) (hts (.fieldLink RX1 11 "GateHalls" "halls" "[LGateHalls$Hall;") (by decide +kernel)) rfl dX1_doDeed_84 ?_
    refine lv_iload_n hx hb dX1_doDeed_87 rfl (lv_at hl 3 rfl) ?_
    refine lv_bipush (v := 10) hx hb dX1_doDeed_88 (by decide) ?_
    refine vp_callSi (W.runS (As := [.int (y), .int (10)]) (rest := [.ref (q 0)]) hX (c_fm10 l (y)) (va_cwS 2 hts gX1_doDeed_J9_floorMod_7cf53 rfl rfl rfl (by decide +kernel) ⟨Nat.le_of_ble_eq_true rfl, Nat.le_of_ble_eq_true rfl⟩) preEq rfl rfl hl.1 rfl (lv_room (Nat.le_of_ble_eq_true rfl)) dX1_doDeed_90 ⟨Nat.le_of_ble_eq_true rfl, Nat.le_of_ble_eq_true rfl⟩) (fun r5 hr5 => ?_)
    obtain ⟨j, hj, hjE⟩ := zTen_in y
    have hjC : (zTen y).toNatClampNeg = j := by rw [hjE]; exact nI_clamp (by omega)
    refine lv_null hx hb dX1_doDeed_93 ?_
    refine gQstN (j := j) (w' := wCr g q cI cH ad pf (va_up (gfh ad σ) (j) none) (gfp ad σ) n σ) hX hK hI 1 1 rfl rfl (hr5.trans hjE) (by omega) (by decide) rfl dX1_doDeed_94 (fun H locs hI => ?_)
    refine lv_iconst (v := 0) hx hb dX1_doDeed_95 (by decide) ?_
    exact gIret hX hr hlk hI ⟨pf, by rw [zDD_deed (by decide) hIn]; unfold zDeed; rw [if_neg (by decide), if_neg (by decide), if_neg (by decide), if_pos rfl], by rw [zDD_deed (by decide) hIn]; unfold zDeed; rw [if_neg (by decide), if_neg (by decide), if_neg (by decide), if_pos rfl]; rw [hjC, gfh_none hj]; rfl⟩ dX1_doDeed_96
  · refine lv_tableIn (tgt := 97) (off := 83) hx hb dX1_doDeed_14 (by decide) (by decide) (by decide) (by decide) ?_
    refine lv_aload_n hx hb dX1_doDeed_97 rfl (lv_at hl 1 rfl) ?_
    refine lv_iload_n hx hb dX1_doDeed_98 rfl (lv_at hl 3 rfl) ?_
    refine lv_iload_n hx hb dX1_doDeed_99 rfl (lv_at hl 4 rfl) ?_
    have hI : InW D A s.heap (wCn g q cI cH ad pf n σ) H locs := hI
    refine gCalli (va_runV (As := [.int (y), .int (1)]) (rest := []) hX (c_walkOn_2 l D cI cH g q ad pf n σ _ w y (by omega) hg hkd) (cwV 2 hts gX1_doDeed_X1_walkOn rfl rfl rfl (by decide +kernel) ⟨Nat.le_of_ble_eq_true rfl, Nat.le_of_ble_eq_true rfl⟩) ⟨gPre_blind, gRecv hI hK (ci := 1) (q0 := 0) rfl rfl, gPre_ok hI hK hN⟩ rfl rfl hl.1 rfl (lv_room (Nat.le_of_ble_eq_true rfl)) dX1_doDeed_100 ⟨Nat.zero_le _, Nat.zero_le _⟩) hI hA (fun r6 ur6 H locs hr6 hI => ?_)
    obtain ⟨pf', hr6, rfl⟩ := hr6
    exact gIret hX hr hlk hI ⟨pf', by rw [zDD5]; exact hr6, by rw [zDD5]⟩ dX1_doDeed_103
  · refine lv_tableIn (tgt := 104) (off := 90) hx hb dX1_doDeed_14 (by decide) (by decide) (by decide) (by decide) ?_
    refine lv_bipush (v := 20) hx hb dX1_doDeed_104 (by decide) ?_
    refine lv_iload_n hx hb dX1_doDeed_106 rfl (lv_at hl 3 rfl) ?_
    refine lv_iconst (v := 4) hx hb dX1_doDeed_107 (by decide) ?_
    refine vp_callSi (W.runS (As := [.int (y), .int (4)]) (rest := [.int (20)]) hX (c_fm4 l (y)) (va_cwS 2 hts gX1_doDeed_J9_floorMod_7cf53 rfl rfl rfl (by decide +kernel) ⟨Nat.le_of_ble_eq_true rfl, Nat.le_of_ble_eq_true rfl⟩) preEq rfl rfl hl.1 rfl (lv_room (Nat.le_of_ble_eq_true rfl)) dX1_doDeed_108 ⟨Nat.le_of_ble_eq_true rfl, Nat.le_of_ble_eq_true rfl⟩) (fun r7 hr7 => ?_)
    refine lv_iadd hx hb dX1_doDeed_111 ?_
    exact gIret hX hr hlk hI ⟨pf, by rw [zDD_deed (by decide) hIn]; unfold zDeed; rw [if_neg (by decide), if_neg (by decide), if_neg (by decide), if_neg (by decide), if_pos rfl]; rw [hr7], by rw [zDD_deed (by decide) hIn]; unfold zDeed; rw [if_neg (by decide), if_neg (by decide), if_neg (by decide), if_neg (by decide), if_pos rfl]⟩ dX1_doDeed_112
  · refine lv_tableIn (tgt := 113) (off := 99) hx hb dX1_doDeed_14 (by decide) (by decide) (by decide) (by decide) ?_
    refine lv_aload_n hx hb dX1_doDeed_113 rfl (lv_at hl 1 rfl) ?_
    refine lv_aload_n hx hb dX1_doDeed_114 rfl (lv_at hl 1 rfl) ?_
    refine cGet (v := .int (σ.2 17)) hX hin1 hK hI 6 (by decide) (hts (.fieldLink RX1 96 "GateHalls" "depth" "I") (by decide +kernel)) rfl dX1_doDeed_115 ?_
    have hI : InW D A s.heap (wCn g q cI cH ad pf n σ) H locs := hI
    refine gCalli (va_runV (As := [.int (σ.2 17)]) (rest := []) hX (c_X1_addToPurse l D cI cH g q ad pf n σ _ (σ.2 17)) (cwV 1 hts gX1_doDeed_X1_addToPurse rfl rfl rfl (by decide +kernel) ⟨Nat.le_of_ble_eq_true rfl, Nat.le_of_ble_eq_true rfl⟩) ⟨gPre_blind, gRecv hI hK (ci := 1) (q0 := 0) rfl rfl, gPre_ok hI hK hN⟩ rfl rfl hl.1 rfl (lv_room (Nat.le_of_ble_eq_true rfl)) dX1_doDeed_118 ⟨Nat.zero_le _, Nat.zero_le _⟩) hI hA (fun r8 ur8 H locs hr8 hI => ?_)
    obtain ⟨hr8, rfl⟩ := hr8
    exact gIret hX hr hlk hI ⟨pf, by rw [zDD_deed (by decide) hIn]; unfold zDeed; rw [if_neg (by decide), if_neg (by decide), if_neg (by decide), if_neg (by decide), if_neg (by decide), if_pos rfl]; exact hr8, by rw [zDD_deed (by decide) hIn]; unfold zDeed; rw [if_neg (by decide), if_neg (by decide), if_neg (by decide), if_neg (by decide), if_neg (by decide), if_pos rfl]⟩ dX1_doDeed_121
set_option maxHeartbeats 4000000 in
set_option maxRecDepth 100000 in
theorem c_walkTo_3 (l : Launch) (D : va_G) (cI cH : ClassId) (g : Nat) (q : Nat → Nat) (ad : Nat → Nat) (pf : Nat → Int32) (n : Nat) (σ : gh_S) (sz : Nat) (p0 w : Nat) (x y : Int32) (hp : p0 < 10) (hw10 : w + 10 * 3 ≤ 30) (hg : gI n w σ) (hkd : gKd n σ) : gMi l yX1_walkTo wsX1_walkTo ({ frames := 10, cells := 0, slots := 0, locals := 238 }) D (wCn g q cI cH ad pf n σ) (gTy cI cH) sz [.ref g, .int (nI p0), .int (x), .int (y), .int (0)] (fun r u => ∃ pf' : Nat → Int32, r = (zWT 3 σ (nI p0) x y).1 ∧ u = wCn g q cI cH ad pf' n (zWT 3 σ (nI p0) x y).2) := by
  refine gEnter (cc := cX1_walkTo) (maxL := 8) (ret := (some .int)) (QF := fun A => va_Qi _ (gPost D A) A) (by decide) rfl (Nat.le_of_ble_eq_true rfl) ?_
  intro p e s m below meth c A ls hX hr hlk hnm hK hN hA hI hl
  have hx := hX.1
  have hb := hX.2.1
  have hts := hX.2.2.2.2
  have hown : s.vm.findClass RX1 = some m.cls := hX.2.2.2.1
  have hin1 := iX1_walkTo_1
  have hl : lv_has ls 8 [(0, .ref g), (1, .int (nI p0)), (2, .int (x)), (3, .int (y)), (4, .int (0))] := hl
  have hI : InW D A s.heap (wCr g q cI cH ad pf (gfh ad σ) (gfp ad σ) n σ) s.heap [] := hI
  obtain ⟨hn, hw, ⟨t, ht, htE⟩, hpl, hpar, hrow, hn4, hw30, hz⟩ := id hg
  have hg1 : gI n w (uS σ 15 (σ.2 15 + 1)) := gI_uS 15 _ (by decide) (by decide) (by decide) hg
  refine lv_iload hx hb dX1_walkTo_0 (lv_at hl 4 rfl) ?_
  refine lv_iconst (v := 3) hx hb dX1_walkTo_2 (by decide) ?_
  refine lv_icmp_lt (tgt := 8) hx hb dX1_walkTo_3 (by decide) (fun c1 => ?_) (fun c1 => False.elim (by revert c1; decide))
  refine lv_aload_n hx hb dX1_walkTo_8 rfl (lv_at hl 0 rfl) ?_
  refine lv_dup hx hb dX1_walkTo_9 rfl ?_
  refine cGet (v := .int (σ.2 15)) hX hin1 hK hI 11 (by decide) (hts (.fieldLink RX1 90 "GateHalls" "walksBegun" "I") (by decide +kernel)) rfl dX1_walkTo_10 ?_
  refine lv_iconst (v := 1) hx hb dX1_walkTo_13 (by decide) ?_
  refine lv_iadd hx hb dX1_walkTo_14 ?_
  refine cPut (σ' := (uS σ 15 ((σ.2 15) + (1)))) hX hin1 hK hI 11 (by decide) (hts (.fieldLink RX1 90 "GateHalls" "walksBegun" "I") (by decide +kernel)) rfl rfl rfl dX1_walkTo_15 (fun H locs hI => ?_)
  refine lv_aload_n hx hb dX1_walkTo_18 rfl (lv_at hl 0 rfl) ?_
  refine lv_iload_n hx hb dX1_walkTo_19 rfl (lv_at hl 1 rfl) ?_
  have hI : InW D A s.heap (wCn g q cI cH ad pf n (uS σ 15 ((σ.2 15) + (1)))) H locs := hI
  refine gCalli (va_runV (As := [.int (nI p0)]) (rest := []) hX (c_X1_findPath l D cI cH g q ad pf n (uS σ 15 ((σ.2 15) + (1))) _ p0 w hp hg1) (cwV 1 hts gX1_walkTo_X1_findPath rfl rfl rfl (by decide +kernel) ⟨Nat.le_of_ble_eq_true rfl, Nat.le_of_ble_eq_true rfl⟩) ⟨gPre_blind, gRecv hI hK (ci := 1) (q0 := 0) rfl rfl, gPre_ok hI hK hN⟩ rfl rfl hl.1 rfl (lv_room (Nat.le_of_ble_eq_true rfl)) dX1_walkTo_20 ⟨Nat.zero_le _, Nat.zero_le _⟩) hI hA (fun r2 ur2 H locs hr2 hI => ?_)
  obtain ⟨pf', rfl, hr2⟩ := hr2
  rcases hr2 with ⟨k, hk10, hk0, rfl, hkE, hkj⟩ | ⟨rfl, hall⟩
  · have hGo : zGo σ (nI p0) = zDown (zOrb (σ.1 10) (nI p0)) k (uS σ 15 (σ.2 15 + 1)) := zGo_some hk10 (fun j hj => (hkj j hj).2) hkE
    obtain ⟨w', hw1, hw2, hgG, hw3⟩ := gI_go (p := nI p0) (by omega) ⟨p0, hp, rfl⟩ hg
    have hkG : gKd n (zGo σ (nI p0)).2 := gKd_of k_go hkd
    refine lv_istore (lv' := [(5, .int (nI k)), (0, .ref g), (1, .int (nI p0)), (2, .int (x)), (3, .int (y)), (4, .int (0))]) hx hb dX1_walkTo_23 hl (by decide) rfl (fun ls hl => ?_)
    refine lv_iload hx hb dX1_walkTo_25 (lv_at hl 0 rfl) ?_
    refine lv_if_ne (tgt := 33) hx hb dX1_walkTo_27 (by decide) (fun c3 => ?_) (fun c3 => absurd c3 (nI_ne0 hk0 (by omega)))
    refine lv_aload_n hx hb dX1_walkTo_33 rfl (lv_at hl 1 rfl) ?_
    refine cGet (v := .int (σ.2 17)) hX hin1 hK hI 6 (by decide) (hts (.fieldLink RX1 96 "GateHalls" "depth" "I") (by decide +kernel)) rfl dX1_walkTo_34 ?_
    refine gTop (y := nI w) hw ?_
    refine lv_istore (lv' := [(6, .int (nI w)), (5, .int (nI k)), (0, .ref g), (1, .int (nI p0)), (2, .int (x)), (3, .int (y)), (4, .int (0))]) hx hb dX1_walkTo_37 hl (by decide) rfl (fun ls hl => ?_)
    refine lv_aload_n hx hb dX1_walkTo_39 rfl (lv_at hl 2 rfl) ?_
    refine lv_iload hx hb dX1_walkTo_40 (lv_at hl 1 rfl) ?_
    have hI : InW D A s.heap (wCn g q cI cH ad pf' n (uS σ 15 ((σ.2 15) + (1)))) H locs := hI
    refine gCalli (va_runV (As := [.int (nI k)]) (rest := []) hX (c_X1_passPath l D cI cH g q ad pf' n (uS σ 15 ((σ.2 15) + (1))) _ (zOrb (σ.1 10) (nI p0)) k w hk10 (by omega) (fun j hj => ⟨(hkj j hj).1, (zOrb_in hg ⟨p0, hp, rfl⟩ j).resolve_left (hkj j hj).2⟩) hg1 hkd) (cwV 1 hts gX1_walkTo_X1_passPath rfl rfl rfl (by decide +kernel) ⟨Nat.le_of_ble_eq_true rfl, Nat.le_of_ble_eq_true rfl⟩) ⟨gPre_blind, gRecv hI hK (ci := 1) (q0 := 0) rfl rfl, gPre_ok hI hK hN⟩ rfl rfl hl.1 rfl (lv_room (Nat.le_of_ble_eq_true rfl)) dX1_walkTo_42 ⟨Nat.zero_le _, Nat.zero_le _⟩) hI hA (fun r4 ur4 H locs hr4 hI => ?_)
    obtain ⟨hr4, rfl⟩ := hr4
    have hGo1 := congrArg Prod.fst hGo
    have hGo2 := congrArg Prod.snd hGo
    have hI : InW D A s.heap (wCn g q cI cH ad pf' n (zGo σ (nI p0)).2) H locs := by rw [hGo2]; exact hI
    have hr4G : r4 = (zGo σ (nI p0)).1 := by rw [hGo1]; exact hr4
    refine lv_istore (lv' := [(7, .int (r4)), (6, .int (nI w)), (5, .int (nI k)), (0, .ref g), (1, .int (nI p0)), (2, .int (x)), (3, .int (y)), (4, .int (0))]) hx hb dX1_walkTo_45 hl (by decide) rfl (fun ls hl => ?_)
    refine lv_iload hx hb dX1_walkTo_47 (lv_at hl 0 rfl) ?_
    refine lv_if_ne (tgt := 64) hx hb dX1_walkTo_49 (by decide) (fun c5 => ?_) (fun c5 => ?_)
    · have hc0 : ¬ (zGo σ (nI p0)).1 = 0 := by rw [← hr4G]; exact c5
      refine lv_aload_n hx hb dX1_walkTo_64 rfl (lv_at hl 3 rfl) ?_
      refine lv_iload hx hb dX1_walkTo_65 (lv_at hl 1 rfl) ?_
      have hI : InW D A s.heap (wCn g q cI cH ad pf' n (zGo σ (nI p0)).2) H locs := hI
      refine gCallv (va_runV (As := [.int (nI w)]) (rest := []) hX (c_X1_leaveUntil l D cI cH g q ad pf' n (zGo σ (nI p0)).2 _ w w' (by omega) hgG) (cwV 1 hts gX1_walkTo_X1_leaveUntil rfl rfl rfl (by decide +kernel) ⟨Nat.le_of_ble_eq_true rfl, Nat.le_of_ble_eq_true rfl⟩) ⟨gPre_blind, gRecv hI hK (ci := 1) (q0 := 0) rfl rfl, gPre_ok hI hK hN⟩ rfl rfl hl.1 rfl (lv_room (Nat.le_of_ble_eq_true rfl)) dX1_walkTo_67 ⟨Nat.zero_le _, Nat.zero_le _⟩) hI hA (fun ur6 H locs hr6 hI => ?_)
      subst hr6
      refine lv_iload hx hb dX1_walkTo_70 (lv_at hl 0 rfl) ?_
      exact gIret hX hr hlk hI ⟨_, by rw [zWT_no hc0]; exact hr4G, by rw [zWT_no hc0]; show _ = wCn g q cI cH ad pf' n (zPops _ (zW _ - zW σ)); rw [zW_of hgG, zW_of hg]⟩ dX1_walkTo_72
    · have hc0 : (zGo σ (nI p0)).1 = 0 := by rw [← hr4G]; exact c5
      refine lv_aload_n hx hb dX1_walkTo_52 rfl (lv_at hl 3 rfl) ?_
      refine lv_iload_n hx hb dX1_walkTo_53 rfl (lv_at hl 5 rfl) ?_
      refine lv_iload_n hx hb dX1_walkTo_54 rfl (lv_at hl 6 rfl) ?_
      refine lv_iload hx hb dX1_walkTo_55 (lv_at hl 7 rfl) ?_
      refine lv_iconst (v := 1) hx hb dX1_walkTo_57 (by decide) ?_
      refine lv_iadd hx hb dX1_walkTo_58 ?_
      refine gTop (y := 1) (by decide) ?_
      have hI : InW D A s.heap (wCn g q cI cH ad pf' n (zGo σ (nI p0)).2) H locs := hI
      refine gCalli (va_runV (As := [.int (x), .int (y), .int (1)]) (rest := []) hX (c_doDeed_2 l D cI cH g q ad pf' n (zGo σ (nI p0)).2 _ w' x y (by omega) (by have := hw3 hc0; omega) hgG hkG) (cwV 3 hts gX1_walkTo_X1_doDeed rfl rfl rfl (by decide +kernel) ⟨Nat.le_of_ble_eq_true rfl, Nat.le_of_ble_eq_true rfl⟩) ⟨gPre_blind, gRecv hI hK (ci := 1) (q0 := 0) rfl rfl, gPre_ok hI hK hN⟩ rfl rfl hl.1 rfl (lv_room (Nat.le_of_ble_eq_true rfl)) dX1_walkTo_59 ⟨Nat.zero_le _, Nat.zero_le _⟩) hI hA (fun r7 ur7 H locs hr7 hI => ?_)
      obtain ⟨pf'', hr7, rfl⟩ := hr7
      have hgD := gI_dd (f := 2) (x := x) (y := y) (by omega) (by have := hw3 hc0; omega) hgG
      refine lv_istore (lv' := [(7, .int (r7)), (6, .int (nI w)), (5, .int (nI k)), (0, .ref g), (1, .int (nI p0)), (2, .int (x)), (3, .int (y)), (4, .int (0))]) hx hb dX1_walkTo_62 hl (by decide) rfl (fun ls hl => ?_)
      refine lv_aload_n hx hb dX1_walkTo_64 rfl (lv_at hl 3 rfl) ?_
      refine lv_iload hx hb dX1_walkTo_65 (lv_at hl 1 rfl) ?_
      have hI : InW D A s.heap (wCn g q cI cH ad pf'' n (zDD 2 (zGo σ (nI p0)).2 x y).2) H locs := hI
      refine gCallv (va_runV (As := [.int (nI w)]) (rest := []) hX (c_X1_leaveUntil l D cI cH g q ad pf'' n (zDD 2 (zGo σ (nI p0)).2 x y).2 _ w w' (by omega) hgD) (cwV 1 hts gX1_walkTo_X1_leaveUntil rfl rfl rfl (by decide +kernel) ⟨Nat.le_of_ble_eq_true rfl, Nat.le_of_ble_eq_true rfl⟩) ⟨gPre_blind, gRecv hI hK (ci := 1) (q0 := 0) rfl rfl, gPre_ok hI hK hN⟩ rfl rfl hl.1 rfl (lv_room (Nat.le_of_ble_eq_true rfl)) dX1_walkTo_67 ⟨Nat.zero_le _, Nat.zero_le _⟩) hI hA (fun ur8 H locs hr8 hI => ?_)
      subst hr8
      refine lv_iload hx hb dX1_walkTo_70 (lv_at hl 0 rfl) ?_
      exact gIret hX hr hlk hI ⟨_, by rw [zWT_go hc0]; exact hr7, by rw [zWT_go hc0]; show _ = wCn g q cI cH ad pf'' n (zPops _ (zW _ - zW σ)); rw [zW_of hgD, zW_of hg]⟩ dX1_walkTo_72
  · have hGo : zGo σ (nI p0) = (8, (uS σ 15 (σ.2 15 + 1))) := zGo_none8 hall
    refine lv_istore (lv' := [(5, .int (0)), (0, .ref g), (1, .int (nI p0)), (2, .int (x)), (3, .int (y)), (4, .int (0))]) hx hb dX1_walkTo_23 hl (by decide) rfl (fun ls hl => ?_)
    refine lv_iload hx hb dX1_walkTo_25 (lv_at hl 0 rfl) ?_
    refine lv_if_ne (tgt := 33) hx hb dX1_walkTo_27 (by decide) (fun c9 => False.elim (by revert c9; decide)) (fun c9 => ?_)
    refine lv_bipush (v := 8) hx hb dX1_walkTo_30 (by decide) ?_
    exact gIret hX hr hlk hI ⟨_, by rw [zWT_no (by rw [hGo]; exact (show ¬ (8 : Int32) = 0 by decide)), hGo], by rw [zWT_no (by rw [hGo]; exact (show ¬ (8 : Int32) = 0 by decide)), hGo]; show _ = wCn g q cI cH ad pf' n (zPops (uS σ 15 (σ.2 15 + 1)) (zW σ - zW σ)); rw [Nat.sub_self]; rfl⟩ dX1_walkTo_32
theorem begin_eq {σ : gh_S} (h : σ.2 17 = 0) : sBegin σ = uS (uS σ 12 0) 16 0 := by
  unfold sBegin
  apply Prod.ext
  · rfl
  · funext j
    show upd (upd (upd σ.2 12 0) 16 0) 17 0 j = upd (upd σ.2 12 0) 16 0 j
    by_cases hj : j = 17
    · subst hj
      simp [upd, h]
    · simp [upd, hj]
set_option maxRecDepth 100000 in
theorem iX1_walk_1 : ∀ w ∈ wsX10, w ∈ wsX1_walk := by decide +kernel
set_option maxHeartbeats 4000000 in
set_option maxRecDepth 100000 in
theorem c_X1_walk (l : Launch) (D : va_G) (cI cH : ClassId) (g : Nat) (q : Nat → Nat) (ad : Nat → Nat) (pf : Nat → Int32) (n : Nat) (σ : gh_S) (sz : Nat) (x y z : Int32) (hg : gI n 0 σ) (hkd : gKd n σ) : gMi l yX1_walk wsX1_walk ({ frames := 11, cells := 0, slots := 0, locals := 265 }) D (wCn g q cI cH ad pf n σ) (gTy cI cH) sz [.ref g, .int (x), .int (y), .int (z)] (fun r u => ∃ pf' : Nat → Int32, r = (sWalk σ x y z).1 ∧ u = wCn g q cI cH ad pf' n (sWalk σ x y z).2) := by
  refine gEnter (cc := cX1_walk) (maxL := 4) (ret := (some .int)) (QF := fun A => va_Qi _ (gPost D A) A) (by decide) rfl (Nat.le_of_ble_eq_true rfl) ?_
  intro p e s m below meth c A ls hX hr hlk hnm hK hN hA hI hl
  have hx := hX.1
  have hb := hX.2.1
  have hts := hX.2.2.2.2
  have hown : s.vm.findClass RX1 = some m.cls := hX.2.2.2.1
  have hin1 := iX1_walk_1
  have hl : lv_has ls 4 [(0, .ref g), (1, .int (x)), (2, .int (y)), (3, .int (z))] := hl
  have hI : InW D A s.heap (wCr g q cI cH ad pf (gfh ad σ) (gfp ad σ) n σ) s.heap [] := hI
  refine lv_iload_n hx hb dX1_walk_0 rfl (lv_at hl 1 rfl) ?_
  refine vp_callSi (W.runS (As := [.int (x)]) (rest := []) hX (c_X1_isPlace l (x)) (va_cwS 1 hts gX1_walk_X1_isPlace rfl rfl rfl (by decide +kernel) ⟨Nat.le_of_ble_eq_true rfl, Nat.le_of_ble_eq_true rfl⟩) preEq rfl rfl hl.1 rfl (lv_room (Nat.le_of_ble_eq_true rfl)) dX1_walk_1 ⟨Nat.le_of_ble_eq_true rfl, Nat.le_of_ble_eq_true rfl⟩) (fun r1 hr1 => ?_)
  rcases hr1 with ⟨rfl, ha_r1, hb_r1⟩ | ⟨rfl, hc_r1⟩
  · refine lv_if_eq (tgt := 17) hx hb dX1_walk_4 (by decide) (fun c2 => False.elim (by revert c2; decide)) (fun c2 => ?_)
    refine lv_iload_n hx hb dX1_walk_7 rfl (lv_at hl 2 rfl) ?_
    refine lv_if_lt (tgt := 17) hx hb dX1_walk_8 (by decide) (fun c3 => ?_) (fun c3 => ?_)
    · refine lv_iconst (v := (-1)) hx hb dX1_walk_17 (by decide) ?_
      exact gIret hX hr hlk hI ⟨pf, by rw [sWalk, if_pos (Or.inr (Or.inr (Or.inl c3)))], by rw [sWalk, if_pos (Or.inr (Or.inr (Or.inl c3)))]⟩ dX1_walk_18
    · refine lv_iload_n hx hb dX1_walk_11 rfl (lv_at hl 2 rfl) ?_
      refine lv_bipush (v := 7) hx hb dX1_walk_12 (by decide) ?_
      refine lv_icmp_le (tgt := 19) hx hb dX1_walk_14 (by decide) (fun c4 => ?_) (fun c4 => ?_)
      · obtain ⟨j, hj, hjE, hjC⟩ := g_pl ha_r1 hb_r1
        refine lv_aload_n hx hb dX1_walk_19 rfl (lv_at hl 0 rfl) ?_
        refine lv_iconst (v := 0) hx hb dX1_walk_20 (by decide) ?_
        refine cPut (σ' := (uS σ 12 (0))) hX hin1 hK hI 9 (by decide) (hts (.fieldLink RX1 55 "GateHalls" "marksLeft" "I") (by decide +kernel)) rfl rfl rfl dX1_walk_21 (fun H locs hI => ?_)
        refine lv_aload_n hx hb dX1_walk_24 rfl (lv_at hl 0 rfl) ?_
        refine lv_iconst (v := 0) hx hb dX1_walk_25 (by decide) ?_
        refine cPut (σ' := (uS (uS σ 12 (0)) 16 (0))) hX hin1 hK hI 7 (by decide) (hts (.fieldLink RX1 58 "GateHalls" "deepest" "I") (by decide +kernel)) rfl rfl rfl dX1_walk_26 (fun H locs hI => ?_)
        refine lv_aload_n hx hb dX1_walk_29 rfl (lv_at hl 0 rfl) ?_
        have hgB := gI_begin hg
        have hI : InW D A s.heap (wCn g q cI cH ad pf n (sBegin σ)) H locs := by
          rw [begin_eq (hg.2.1.trans nI_0)]
          exact hI
        refine lv_aload_n hx hb dX1_walk_30 rfl (lv_at hl 0 rfl) ?_
        refine lv_iload_n hx hb dX1_walk_31 rfl (lv_at hl 1 rfl) ?_
        refine gTop (y := nI j) hjE ?_
        refine lv_iload_n hx hb dX1_walk_32 rfl (lv_at hl 2 rfl) ?_
        refine lv_iload_n hx hb dX1_walk_33 rfl (lv_at hl 3 rfl) ?_
        refine lv_iconst (v := 0) hx hb dX1_walk_34 (by decide) ?_
        have hI : InW D A s.heap (wCn g q cI cH ad pf n (sBegin σ)) H locs := hI
        refine gCalli (va_runV (As := [.int (nI j), .int (y), .int (z), .int (0)]) (rest := [.ref g]) hX (c_walkTo_3 l D cI cH g q ad pf n (sBegin σ) _ j 0 y z hj (by omega) hgB hkd) (cwV 4 hts gX1_walk_X1_walkTo rfl rfl rfl (by decide +kernel) ⟨Nat.le_of_ble_eq_true rfl, Nat.le_of_ble_eq_true rfl⟩) ⟨gPre_blind, gRecv hI hK (ci := 1) (q0 := 0) rfl rfl, gPre_ok hI hK hN⟩ rfl rfl hl.1 rfl (lv_room (Nat.le_of_ble_eq_true rfl)) dX1_walk_35 ⟨Nat.zero_le _, Nat.zero_le _⟩) hI hA (fun r5 ur5 H locs hr5 hI => ?_)
        obtain ⟨pf', hr5, rfl⟩ := hr5
        rw [← hjE] at hr5 hI
        have hgF := gI_wt 3 0 (p := x) (x := y) (y := z) (by omega) ⟨j, hj, hjE⟩ hgB
        refine cPut (σ' := (uS (zWT 3 (sBegin σ) x y z).2 14 (r5))) hX hin1 hK hI 10 (by decide) (hts (.fieldLink RX1 65 "GateHalls" "latestFailure" "I") (by decide +kernel)) rfl rfl rfl dX1_walk_38 (fun H locs hI => ?_)
        refine lv_aload_n hx hb dX1_walk_41 rfl (lv_at hl 0 rfl) ?_
        refine cGet (v := .int (r5)) hX hin1 hK hI 10 (by decide) (hts (.fieldLink RX1 65 "GateHalls" "latestFailure" "I") (by decide +kernel)) rfl dX1_walk_42 ?_
        refine lv_if_ne (tgt := 52) hx hb dX1_walk_45 (by decide) (fun c6 => ?_) (fun c6 => ?_)
        · refine lv_bipush (v := (-10)) hx hb dX1_walk_52 (by decide) ?_
          refine lv_aload_n hx hb dX1_walk_54 rfl (lv_at hl 0 rfl) ?_
          refine cGet (v := .int (r5)) hX hin1 hK hI 10 (by decide) (hts (.fieldLink RX1 65 "GateHalls" "latestFailure" "I") (by decide +kernel)) rfl dX1_walk_55 ?_
          refine lv_isub hx hb dX1_walk_58 ?_
          exact gIret hX hr hlk hI ⟨pf', by rw [sWalk, if_neg (fun h => h.elim ha_r1 (fun h => h.elim hb_r1 (fun h => h.elim c3 (g_nlt_of_le c4))))]; dsimp only; rw [← hr5, if_neg c6], by rw [sWalk, if_neg (fun h => h.elim ha_r1 (fun h => h.elim hb_r1 (fun h => h.elim c3 (g_nlt_of_le c4))))]; dsimp only; rw [← hr5]; rfl⟩ dX1_walk_59
        · refine lv_iconst (v := 1) hx hb dX1_walk_48 (by decide) ?_
          refine lv_goto (tgt := 59) hx hb dX1_walk_49 (by decide) ?_
          exact gIret hX hr hlk hI ⟨pf', by rw [sWalk, if_neg (fun h => h.elim ha_r1 (fun h => h.elim hb_r1 (fun h => h.elim c3 (g_nlt_of_le c4))))]; dsimp only; rw [← hr5, if_pos c6], by rw [sWalk, if_neg (fun h => h.elim ha_r1 (fun h => h.elim hb_r1 (fun h => h.elim c3 (g_nlt_of_le c4))))]; dsimp only; rw [← hr5]; rfl⟩ dX1_walk_59
      · refine lv_iconst (v := (-1)) hx hb dX1_walk_17 (by decide) ?_
        exact gIret hX hr hlk hI ⟨pf, by rw [sWalk, if_pos (Or.inr (Or.inr (Or.inr (g_lt_of_nle c4))))], by rw [sWalk, if_pos (Or.inr (Or.inr (Or.inr (g_lt_of_nle c4))))]⟩ dX1_walk_18
  · refine lv_if_eq (tgt := 17) hx hb dX1_walk_4 (by decide) (fun c7 => ?_) (fun c7 => False.elim (by revert c7; decide))
    refine lv_iconst (v := (-1)) hx hb dX1_walk_17 (by decide) ?_
    exact gIret hX hr hlk hI ⟨pf, by rw [sWalk, if_pos (hc_r1.elim Or.inl (fun h => Or.inr (Or.inl h)))], by rw [sWalk, if_pos (hc_r1.elim Or.inl (fun h => Or.inr (Or.inl h)))]⟩ dX1_walk_18
end
section
/-! NEW CELLS -/
section GN
variable {p : Program} {l : Launch} {e : Env} {R : Room} {s : State} {m : MethodId} {args : Array Value} {below : List Frame} {meth : Method} {c : Code} {H : Heap} {locs : List Loc} {cells slots : Nat} {Q : State → Prop}
variable {cc : ByteArray} {pc nL : Nat} {ls : Array Slot} {rest st0 : List Value} {D : va_G} {A : Nat → Prop} {a : Nat} {tys : List (ClassId × FieldType)} {w : va_W} {H0 : Heap} {Ts : List Cond} {own : String} {av : Array Value}
theorem gNew (hX : CallFix p m c cc nL s args Ts own) {C : String} {T : u_T} {N ci index : Nat} (hin : ∀ w ∈ u_ws C T N, w ∈ Ts) (ty0 : Nat → FieldType) (hty : ∀ k, k < N → parseFieldDescriptor (T k).2.2.1 = some (ty0 k)) (hcl : (Cond.classLink own index C).before args s = true) (hinst : (Cond.instantiable C N).before args s = true) (hini : (Cond.initialized C).before args s = true) (hK : va_K D vwCl tys s) (hI : InW D A H0 w H locs) (hA : ∀ q, H0.size ≤ q → A q) (hc : vwCl[ci]? = some (C, T, N)) {fs : List Value} (hfs : ∀ j, j < N → defaultValue (ty0 j) = vp_V fs j) (hcells : cells + 1 ≤ R.cells) (hslots : slots + N ≤ R.slots) (hdg : decode cc pc = .ok (.new index, 3))
    (kk : ∀ (q : Nat) (H1 : Heap), InW D A H0 (w ++ [(q, .inr (ci, fs))]) H1 locs → W p l e R s m args below meth c H1 locs (cells + 1) (slots + N) Q (F0 m (pc + 3) ls (.ref q :: rest))) : W p l e R s m args below meth c H locs cells slots Q (F0 m pc ls rest) :=
  va_new hX.1 hX.2.1 hX.2.2.2.2 hin ty0 hty hX.2.2.2.1 hcl hinst hini hK hI.1 hI.2.1 hI.2.2 hA hc hfs hcells hslots hdg (fun q H1 h1 h2 h3 => kk q H1 ⟨h1, h2, h3⟩)
theorem gNewa (hX : CallFix p m c cc nL s args Ts own) (harr : (Cond.arrayClass .int).before args s = true) (hK : va_K D vwCl tys s) (hI : InW D A H0 w H locs) (hA : ∀ q, H0.size ≤ q → A q) {n : Int32} {N' : Nat} (hn : ¬ n < 0) (hN : n.toNatClampNeg = N') (hbytes : N' * 4 ≤ 536870912) (hcells : cells + 1 ≤ R.cells) (hslots : slots + N' ≤ R.slots) (hdg : decode cc pc = .ok (.newarray .int, 2))
    (kk : ∀ (q : Nat) (cA : ClassId) (H1 : Heap), va_K D vwCl (tys ++ [(cA, .int)]) s → InW D A H0 (w ++ [(q, .inl (cA, N', .inl (fun _ => 0)))]) H1 locs → W p l e R s m args below meth c H1 locs (cells + 1) (slots + N') Q (F0 m (pc + 2) ls (.ref q :: rest))) : W p l e R s m args below meth c H locs cells slots Q (F0 m pc ls (.int n :: rest)) :=
  va_newa (atype := .int) (ty := .int) (a0 := (N', .inl (fun _ => 0))) hX.1 hX.2.1 harr rfl hK hI.1 hI.2.1 hI.2.2 hA (fun _ => rfl) hn hN hbytes hcells hslots hdg (fun q cA H1 h0 h1 h2 h3 => kk q cA H1 h0 ⟨h1, h2, h3⟩)
theorem gNewq (hX : CallFix p m c cc nL s args Ts own) {C : String} {index : Nat} (hcl : (Cond.classLink own index C).before args s = true) (hover : va_AO C s) (hK : va_K D vwCl tys s) (hI : InW D A H0 w H locs) (hA : ∀ q, H0.size ≤ q → A q) {n : Int32} {N' : Nat} (hn : ¬ n < 0) (hN : n.toNatClampNeg = N') (hbytes : N' * 4 ≤ 536870912) (hcells : cells + 1 ≤ R.cells) (hslots : slots + N' ≤ R.slots) (hdg : decode cc pc = .ok (.anewarray index, 3))
    (kk : ∀ (q : Nat) (cA : ClassId) (H1 : Heap), va_K D vwCl (tys ++ [(cA, .object C)]) s → InW D A H0 (w ++ [(q, .inl (cA, N', .inr (.inr (.inr (.inr (fun _ => none))))))]) H1 locs → W p l e R s m args below meth c H1 locs (cells + 1) (slots + N') Q (F0 m (pc + 3) ls (.ref q :: rest))) : W p l e R s m args below meth c H locs cells slots Q (F0 m pc ls (.int n :: rest)) :=
  va_newq hX.1 hX.2.1 hX.2.2.2.1 hcl hover hK hI.1 hI.2.1 hI.2.2 hA hn hN hbytes hcells hslots hdg (fun q cA H1 h0 h1 h2 h3 => kk q cA H1 h0 ⟨h1, h2, h3⟩)
end GN
theorem gK_int {D : va_G} {tys : List (ClassId × FieldType)} {s : State} {a b : ClassId} (hK : va_K D vwCl tys s) (i j : Nat) (hi : tys[i]? = some (a, .int)) (hj : tys[j]? = some (b, .int)) : a = b :=
  Option.some.inj ((va_nm_int (hK.2 i _ hi).2).symm.trans (va_nm_int (hK.2 j _ hj).2))
theorem gK_obj {D : va_G} {tys : List (ClassId × FieldType)} {s : State} {a b : ClassId} {C : String} (hK : va_K D vwCl tys s) (i j : Nat) (hi : tys[i]? = some (a, .object C)) (hj : tys[j]? = some (b, .object C)) : a = b := by
  obtain ⟨_, _, -, -, -, h1⟩ := (hK.2 i _ hi).2
  obtain ⟨_, _, -, -, -, h2⟩ := (hK.2 j _ hj).2
  exact Option.some.inj (h1.symm.trans h2)
theorem g_last {α : Type} (w : List α) (x : α) : (w ++ [x])[w.length]? = some x := by
  rw [List.getElem?_append_right (Nat.le_refl _), Nat.sub_self]; rfl
theorem g_setlast {α : Type} (w : List α) (x y : α) : (w ++ [x]).set w.length y = w ++ [y] := by
  rw [List.set_append_right _ _ (Nat.le_refl _), Nat.sub_self]; rfl
/-! a new hall -/
theorem gPool_new {ad : Nat → Nat} {n a : Nat} {σ : gh_S} {k f : Int32} (hz : ∀ k' i : Nat, 3 ≤ k' → k' ≤ 8 → n ≤ i → σ.1 k' i = 0) : gPool ad n σ ++ [(a, .inr (0, [.int (nI n), .int k, .int f, .int 0, .int 0, .int 0, .int 0, .int 0, .int 0]))] = gPool (va_up ad n a) (n + 1) (uA (uA σ 1 n k) 2 n f) := by
  unfold gPool
  rw [List.range_succ, List.map_append]
  congr 1
  · apply List.map_congr_left
    intro i hi
    have hi' : i < n := List.mem_range.mp hi
    rw [va_up_ne _ _ (by omega), gHf_ne (by omega), gHf_ne (by omega)]
  · show [(a, _)] = [(va_up ad n a n, Sum.inr (0, gHf (uA (uA σ 1 n k) 2 n f) n))]
    rw [va_up_self]
    have e3 := hz 3 n (by omega) (by omega) (Nat.le_refl _)
    have e4 := hz 4 n (by omega) (by omega) (Nat.le_refl _)
    have e5 := hz 5 n (by omega) (by omega) (Nat.le_refl _)
    have e6 := hz 6 n (by omega) (by omega) (Nat.le_refl _)
    have e7 := hz 7 n (by omega) (by omega) (Nat.le_refl _)
    have e8 := hz 8 n (by omega) (by omega) (Nat.le_refl _)
    simp [gHf, uA, upd, e3, e4, e5, e6, e7, e8]
theorem wCr_new {g : Nat} {q : Nat → Nat} {cI cH : ClassId} {ad : Nat → Nat} {pf : Nat → Int32} {fh fp : Nat → Option Nat} {n a : Nat} {σ : gh_S} {k f : Int32} (hz : ∀ k' i : Nat, 3 ≤ k' → k' ≤ 8 → n ≤ i → σ.1 k' i = 0) : wCr g q cI cH ad pf fh fp n σ ++ [(a, .inr (0, [.int (nI n), .int k, .int f, .int 0, .int 0, .int 0, .int 0, .int 0, .int 0]))] = wCr g q cI cH (va_up ad n a) pf fh fp (n + 1) (uA (uA σ 1 n k) 2 n f) := by
  unfold wCr
  rw [List.append_assoc, gPool_new hz]
  rfl
theorem gfh_new {ad : Nat → Nat} {σ : gh_S} {n j a : Nat} (hj : j < 10) (hn : n < 2 ^ 31) (hpl : ∀ k : Nat, k < 10 → σ.1 9 k = -1 ∨ ∃ h : Nat, h < n ∧ σ.1 9 k = nI h) : va_up (gfh ad σ) j (some a) = gfh (va_up ad n a) (uA σ 9 j (nI n)) := by
  funext k
  unfold gfh
  rw [uA_ki]
  by_cases hk : k = j
  · subst hk
    rw [va_up_self, if_pos hj, if_pos rfl, if_neg (nI_ne_m1 hn), nI_clamp hn, va_up_self]
  · rw [va_up_ne _ _ hk, if_neg hk]
    by_cases h10 : k < 10
    · rw [if_pos h10, if_pos h10]
      rcases hpl k h10 with h | ⟨h, hh, hE⟩
      · rw [if_pos h, if_pos h]
      · rw [hE, if_neg (nI_ne_m1 (by omega)), if_neg (nI_ne_m1 (by omega)), nI_clamp (by omega), va_up_ne _ _ (by omega)]
    · rw [if_neg h10, if_neg h10]
theorem gfp_new {ad : Nat → Nat} {σ : gh_S} {n w a : Nat} (hw : σ.2 17 = nI w) (hw2 : w < 1000) (hn : n < 2 ^ 31) (hrow : ∀ j : Nat, j < w → ∃ h : Nat, h < n ∧ σ.1 18 j = nI h) : gfp ad σ = gfp (va_up ad n a) σ := by
  funext j
  unfold gfp
  rw [hw, nI_clamp (by omega)]
  by_cases hj : j < w
  · obtain ⟨h, hh, hE⟩ := hrow j hj
    rw [if_pos hj, if_pos hj, hE, nI_clamp (by omega), va_up_ne _ _ (by omega)]
  · rw [if_neg hj, if_neg hj]
def zN (n : Nat) (x k f : Int32) : Nat := if x < 0 ∨ 9 < x ∨ k < 0 ∨ 2 < k ∨ f < 0 ∨ 1000 < f then n else n + 1
/-! the state at first -/
def gFill : Nat → Nat → Int32
  | 0 => fun _ => 0
  | k + 1 => upd (gFill k) k (-1)
def g0 : gh_S := (fun k => if k = 9 then gFill 10 else if k = 10 then gFill 10 else fun _ => 0, fun _ => 0)
theorem gFill_at : ∀ (k j : Nat), j < k → gFill k j = -1
  | 0, _, h => absurd h (by omega)
  | k + 1, j, h => by
    show upd (gFill k) k (-1) j = -1
    unfold upd
    by_cases hj : j = k
    · rw [if_pos hj]
    · rw [if_neg hj]; exact gFill_at k j (by omega)
theorem g0_I : gI 0 0 g0 := by
  refine ⟨rfl, rfl, ⟨0, by omega, rfl⟩, fun j hj => Or.inl (gFill_at 10 j hj), fun j hj => Or.inl (gFill_at 10 j hj), fun j hj => absurd hj (by omega), by omega, by omega, fun k i h3 h8 _ => ?_⟩
  show (if k = 9 then gFill 10 else if k = 10 then gFill 10 else fun _ => 0) i = 0
  rw [if_neg (by omega), if_neg (by omega)]
theorem g0_K : gKd 0 g0 := fun i hi => absurd hi (by omega)
theorem g0_fh {ad : Nat → Nat} : gfh ad g0 = fun _ => none := by
  funext j
  unfold gfh
  by_cases hj : j < 10
  · rw [if_pos hj]
    have : g0.1 9 j = -1 := gFill_at 10 j hj
    rw [if_pos this]
  · rw [if_neg hj]
theorem g0_fp {ad : Nat → Nat} : gfp ad g0 = fun _ => none := by
  funext j
  unfold gfp
  have e : (g0.2 17).toNatClampNeg = 0 := by decide
  rw [e, if_neg (by omega)]
end
section
set_option maxRecDepth 100000 in
theorem iX1_hall_0 : ∀ w ∈ wsX00, w ∈ wsX1_hall := by decide +kernel
set_option maxRecDepth 100000 in
theorem iX1_hall_1 : ∀ w ∈ wsX10, w ∈ wsX1_hall := by decide +kernel
set_option maxHeartbeats 4000000 in
set_option maxRecDepth 100000 in
theorem c_X1_hall (l : Launch) (D : va_G) (cI cH : ClassId) (g : Nat) (q : Nat → Nat) (ad : Nat → Nat) (pf : Nat → Int32) (n : Nat) (σ : gh_S) (sz : Nat) (x k f : Int32) (w : Nat) (hg : gI n w σ) : Met l yX1_hall wsX1_hall ({ frames := 2, cells := 1, slots := 9, locals := 43 }) (va_Pc [.ref g, .int x, .int k, .int f] (gPre D (wCn g q cI cH ad pf n σ) (gTy cI cH) sz)) (va_Qi (fun r u => ∃ ad' : Nat → Nat, r = (sHall σ x k f).1 ∧ u = wCn g q cI cH ad' pf (zN n x k f) (sHall σ x k f).2) (gPost D (va_A (wCn g q cI cH ad pf n σ) sz)) (va_A (wCn g q cI cH ad pf n σ) sz)) 1 9 (va_A (wCn g q cI cH ad pf n σ) sz) := by
  refine gEnter (cc := cX1_hall) (maxL := 5) (ret := (some .int)) (QF := fun A => va_Qi _ (gPost D A) A) (by decide) rfl (Nat.le_of_ble_eq_true rfl) ?_
  intro p e s m below meth c A ls hX hr hlk hnm hK hN hA hI hl
  have hx := hX.1
  have hb := hX.2.1
  have hts := hX.2.2.2.2
  have hown : s.vm.findClass RX1 = some m.cls := hX.2.2.2.1
  have hin0 := iX1_hall_0
  have hin1 := iX1_hall_1
  have hl : lv_has ls 5 [(0, .ref g), (1, .int (x)), (2, .int (k)), (3, .int (f))] := hl
  have hI : InW D A s.heap (wCr g q cI cH ad pf (gfh ad σ) (gfp ad σ) n σ) s.heap [] := hI
  obtain ⟨hn, hw, ⟨t, ht, htE⟩, hpl, hpar, hrow, hn4, hw30, hz⟩ := id hg
  refine lv_iload_n hx hb dX1_hall_0 rfl (lv_at hl 1 rfl) ?_
  refine vp_callSi (W.runS (As := [.int (x)]) (rest := []) hX (c_X1_isPlace l (x)) (va_cwS 1 hts gX1_hall_X1_isPlace rfl rfl rfl (by decide +kernel) ⟨Nat.le_of_ble_eq_true rfl, Nat.le_of_ble_eq_true rfl⟩) preEq rfl rfl hl.1 rfl (lv_room (Nat.le_of_ble_eq_true rfl)) dX1_hall_1 ⟨Nat.le_of_ble_eq_true rfl, Nat.le_of_ble_eq_true rfl⟩) (fun r1 hr1 => ?_)
  rcases hr1 with ⟨rfl, ha_r1, hb_r1⟩ | ⟨rfl, hc_r1⟩
  · refine lv_if_eq (tgt := 27) hx hb dX1_hall_4 (by decide) (fun c2 => False.elim (by revert c2; decide)) (fun c2 => ?_)
    refine lv_iload_n hx hb dX1_hall_7 rfl (lv_at hl 2 rfl) ?_
    refine lv_if_lt (tgt := 27) hx hb dX1_hall_8 (by decide) (fun c3 => ?_) (fun c3 => ?_)
    · refine lv_iconst (v := (-1)) hx hb dX1_hall_27 (by decide) ?_
      refine W.widen (k := 1) (n := 9) (Nat.zero_le _) (Nat.zero_le _) ?_
      exact gIret hX hr hlk hI ⟨ad, by rw [sHall, if_pos (Or.inr (Or.inr (Or.inl c3)))], by rw [zN, if_pos (Or.inr (Or.inr (Or.inl c3))), sHall, if_pos (Or.inr (Or.inr (Or.inl c3)))]⟩ dX1_hall_28
    · refine lv_iload_n hx hb dX1_hall_11 rfl (lv_at hl 2 rfl) ?_
      refine lv_iconst (v := 2) hx hb dX1_hall_12 (by decide) ?_
      refine lv_icmp_gt (tgt := 27) hx hb dX1_hall_13 (by decide) (fun c4 => ?_) (fun c4 => ?_)
      · refine lv_iconst (v := (-1)) hx hb dX1_hall_27 (by decide) ?_
        refine W.widen (k := 1) (n := 9) (Nat.zero_le _) (Nat.zero_le _) ?_
        exact gIret hX hr hlk hI ⟨ad, by rw [sHall, if_pos (Or.inr (Or.inr (Or.inr (Or.inl c4))))], by rw [zN, if_pos (Or.inr (Or.inr (Or.inr (Or.inl c4)))), sHall, if_pos (Or.inr (Or.inr (Or.inr (Or.inl c4))))]⟩ dX1_hall_28
      · refine lv_iload_n hx hb dX1_hall_16 rfl (lv_at hl 3 rfl) ?_
        refine lv_if_lt (tgt := 27) hx hb dX1_hall_17 (by decide) (fun c5 => ?_) (fun c5 => ?_)
        · refine lv_iconst (v := (-1)) hx hb dX1_hall_27 (by decide) ?_
          refine W.widen (k := 1) (n := 9) (Nat.zero_le _) (Nat.zero_le _) ?_
          exact gIret hX hr hlk hI ⟨ad, by rw [sHall, if_pos (Or.inr (Or.inr (Or.inr (Or.inr (Or.inl c5)))))], by rw [zN, if_pos (Or.inr (Or.inr (Or.inr (Or.inr (Or.inl c5))))), sHall, if_pos (Or.inr (Or.inr (Or.inr (Or.inr (Or.inl c5)))))]⟩ dX1_hall_28
        · refine lv_iload_n hx hb dX1_hall_20 rfl (lv_at hl 3 rfl) ?_
          refine lv_sipush (v := 1000) hx hb dX1_hall_21 (by decide) ?_
          refine lv_icmp_le (tgt := 29) hx hb dX1_hall_24 (by decide) (fun c6 => ?_) (fun c6 => ?_)
          · obtain ⟨j, hj, hjE, hjC⟩ := g_pl ha_r1 hb_r1
            have hnC : (σ.2 0).toNatClampNeg = n := by rw [hn]; exact nI_clamp (by omega)
            refine lv_aload_n hx hb dX1_hall_29 rfl (lv_at hl 0 rfl) ?_
            refine cGet (v := .int (σ.2 0)) hX hin1 hK hI 3 (by decide) (hts (.fieldLink RX1 38 "GateHalls" "hallsMade" "I") (by decide +kernel)) rfl dX1_hall_30 ?_
            refine lv_istore (lv' := [(4, .int (σ.2 0)), (0, .ref g), (1, .int (x)), (2, .int (k)), (3, .int (f))]) hx hb dX1_hall_33 hl (by decide) rfl (fun ls hl => ?_)
            refine lv_aload_n hx hb dX1_hall_35 rfl (lv_at hl 1 rfl) ?_
            refine cGet (v := .ref (q 0)) hX hin1 hK hI 0 (by decide) (hts (.fieldLink RX1 11 "GateHalls" "halls" "[LGateHalls$Hall;") (by decide +kernel)) rfl dX1_hall_36 ?_
            refine lv_iload_n hx hb dX1_hall_39 rfl (lv_at hl 2 rfl) ?_
            refine gNew (ci := 0) (fs := [.int 0, .int 0, .int 0, .int 0, .int 0, .int 0, .int 0, .int 0, .int 0]) hX hin0 tyX0 tyX0_ok (hts (.classLink RX1 9 RX0) (by decide +kernel)) (hts (.instantiable RX0 9) (by decide +kernel)) (hts (.initialized RX0) (by decide +kernel)) hK hI hA rfl (fun j hj => by rcases (show j = 0 ∨ j = 1 ∨ j = 2 ∨ j = 3 ∨ j = 4 ∨ j = 5 ∨ j = 6 ∨ j = 7 ∨ j = 8 by omega) with rfl | rfl | rfl | rfl | rfl | rfl | rfl | rfl | rfl <;> rfl) (Nat.le_of_ble_eq_true rfl) (Nat.le_of_ble_eq_true rfl) dX1_hall_40 (fun a H hI => ?_)
            refine lv_dup hx hb dX1_hall_43 rfl ?_
            refine lv_iload hx hb dX1_hall_44 (lv_at hl 0 rfl) ?_
            refine lv_iload_n hx hb dX1_hall_46 rfl (lv_at hl 3 rfl) ?_
            refine lv_iload_n hx hb dX1_hall_47 rfl (lv_at hl 4 rfl) ?_
            refine gCallv (va_runIN (As := [.int (σ.2 0), .int k, .int f]) (rest := [.ref a, .int x, .ref (q 0)]) hX (c_X0_init l D cI cH ((wCn g q cI cH ad pf n σ) ++ [(a, .inr (0, [.int 0, .int 0, .int 0, .int 0, .int 0, .int 0, .int 0, .int 0, .int 0]))]) a ((wCn g q cI cH ad pf n σ)).length 0 0 0 0 0 0 0 0 0 H.size (σ.2 0) k f (g_last _ _)) ⟨va_cnB 3 hts gX1_hall_X0_init_n42 rfl rfl rfl hN.1 (hts (.initialized RX0) (by decide +kernel)) (by decide +kernel) ⟨Nat.le_of_ble_eq_true rfl, Nat.le_of_ble_eq_true rfl⟩, rfl, hts (.instanceMethod yX0_init) (by decide +kernel)⟩ ⟨gPre_blind, gPre_ok hI hK hN⟩ rfl rfl hl.1 rfl (lv_room (Nat.le_of_ble_eq_true rfl)) dX1_hall_48 ⟨Nat.le_of_ble_eq_true rfl, Nat.le_of_ble_eq_true rfl⟩) hI hA (fun u H locs hu hI => ?_)
            subst hu
            have hI : InW D A s.heap (wCr g q cI cH (va_up ad n a) pf (gfh ad σ) (gfp ad σ) (n + 1) (uA (uA σ 1 n k) 2 n f)) H locs := by
              rw [← wCr_new hz, ← hn]
              rw [g_setlast] at hI
              exact hI
            have hv : (wCr g q cI cH (va_up ad n a) pf (gfh ad σ) (gfp ad σ) (n + 1) (uA (uA σ 1 n k) 2 n f))[6 + n]? = some (a, .inr (0, gHf (uA (uA σ 1 n k) 2 n f) n)) := by
              have h7 := wCr_hall (g := g) (q := q) (cI := cI) (cH := cH) (ad := va_up ad n a) (pf := pf) (fh := gfh ad σ) (fp := gfp ad σ) (n := n + 1) (i := n) (σ := (uA (uA σ 1 n k) 2 n f)) (Nat.lt_succ_self n)
              rwa [va_up_self] at h7
            refine gQst (j := j) (w' := wCr g q cI cH (va_up ad n a) pf (va_up (gfh ad σ) j (some a)) (gfp ad σ) (n + 1) (uA (uA σ 1 n k) 2 n f)) (r := (RX0, TX0, 9)) hX hK hI 1 1 (6 + n) 0 rfl rfl hv rfl hjE (by omega) (by decide) rfl dX1_hall_51 (fun H locs hI => ?_)
            refine lv_aload_n hx hb dX1_hall_52 rfl (lv_at hl 1 rfl) ?_
            refine lv_dup hx hb dX1_hall_53 rfl ?_
            refine cGet (v := .int (σ.2 0)) hX hin1 hK hI 3 (by decide) (hts (.fieldLink RX1 38 "GateHalls" "hallsMade" "I") (by decide +kernel)) rfl dX1_hall_54 ?_
            refine lv_iconst (v := 1) hx hb dX1_hall_57 (by decide) ?_
            refine lv_iadd hx hb dX1_hall_58 ?_
            refine cPut (σ' := (uS (uA (uA σ 1 (n) (k)) 2 (n) (f)) 0 ((σ.2 0) + (1)))) hX hin1 hK hI 3 (by decide) (hts (.fieldLink RX1 38 "GateHalls" "hallsMade" "I") (by decide +kernel)) rfl rfl rfl dX1_hall_59 (fun H locs hI => ?_)
            refine lv_iload hx hb dX1_hall_62 (lv_at hl 0 rfl) ?_
            have e1 : gfh (va_up ad n a) (uS (uA (uA (uA σ 1 n k) 2 n f) 9 j (σ.2 0)) 0 (σ.2 0 + 1)) = va_up (gfh ad σ) j (some a) := by
              show gfh (va_up ad n a) (uA σ 9 j (σ.2 0)) = _
              rw [hn]
              exact (gfh_new hj (by omega) hpl).symm
            have e2 : gfp (va_up ad n a) (uS (uA (uA (uA σ 1 n k) 2 n f) 9 j (σ.2 0)) 0 (σ.2 0 + 1)) = gfp ad σ := (gfp_new hw (by omega) (by omega) hrow).symm
            have hneg : ¬ (x < 0 ∨ 9 < x ∨ k < 0 ∨ 2 < k ∨ f < 0 ∨ 1000 < f) := (fun h => h.elim ha_r1 (fun h => h.elim hb_r1 (fun h => h.elim c3 (fun h => h.elim c4 (fun h => h.elim c5 (g_nlt_of_le c6))))))
            exact gIret hX hr hlk hI ⟨va_up ad n a, by rw [sHall, if_neg hneg], by
              rw [zN, if_neg hneg, sHall, if_neg hneg, hjC, hnC]
              show _ = wCr g q cI cH (va_up ad n a) pf (gfh (va_up ad n a) (uS (uA (uA (uA σ 1 n k) 2 n f) 9 j (σ.2 0)) 0 (σ.2 0 + 1))) (gfp (va_up ad n a) (uS (uA (uA (uA σ 1 n k) 2 n f) 9 j (σ.2 0)) 0 (σ.2 0 + 1))) (n + 1) (uS (uA (uA (uA σ 1 n k) 2 n f) 9 j (σ.2 0)) 0 (σ.2 0 + 1))
              rw [e1, e2]
              rfl⟩ dX1_hall_64
          · refine lv_iconst (v := (-1)) hx hb dX1_hall_27 (by decide) ?_
            refine W.widen (k := 1) (n := 9) (Nat.zero_le _) (Nat.zero_le _) ?_
            exact gIret hX hr hlk hI ⟨ad, by rw [sHall, if_pos (Or.inr (Or.inr (Or.inr (Or.inr (Or.inr (g_lt_of_nle c6))))))], by rw [zN, if_pos (Or.inr (Or.inr (Or.inr (Or.inr (Or.inr (g_lt_of_nle c6)))))), sHall, if_pos (Or.inr (Or.inr (Or.inr (Or.inr (Or.inr (g_lt_of_nle c6))))))]⟩ dX1_hall_28
  · refine lv_if_eq (tgt := 27) hx hb dX1_hall_4 (by decide) (fun c7 => ?_) (fun c7 => False.elim (by revert c7; decide))
    refine lv_iconst (v := (-1)) hx hb dX1_hall_27 (by decide) ?_
    refine W.widen (k := 1) (n := 9) (Nat.zero_le _) (Nat.zero_le _) ?_
    exact gIret hX hr hlk hI ⟨ad, by rw [sHall, if_pos (hc_r1.elim Or.inl (fun h => Or.inr (Or.inl h)))], by rw [zN, if_pos (hc_r1.elim Or.inl (fun h => Or.inr (Or.inl h))), sHall, if_pos (hc_r1.elim Or.inl (fun h => Or.inr (Or.inl h)))]⟩ dX1_hall_28
set_option maxHeartbeats 4000000 in
set_option maxRecDepth 100000 in
theorem c_fill (l : Launch) (D : va_G) (tys : List (ClassId × FieldType)) (cI : ClassId) (w : va_W) (a q0 t0 : Nat) (sz : Nat) (he : w[q0]? = some (a, .inl (cI, 10, .inl (fun _ => 0)))) (ht : tys[t0]? = some (cI, .int)) : gMv l yJ7_fill_53178 wsJ7_fill_53178 ({ frames := 0, cells := 0, slots := 0, locals := 0 }) D w tys sz [.ref a, .int (-1)] (fun u => u = w.set q0 (a, .inl (cI, 10, .inl (gFill 10)))) := by
  refine gEnterF (cc := cJ7_fill_53178) (maxL := 4) (ret := none) (QF := fun A => va_Qv _ (gPost D A) A) (by decide +kernel) rfl (Nat.le_of_ble_eq_true rfl) ?_
  intro p e s m below meth c A ls hX hr hlk hnm hK hN hA hI hl
  have hx := hX.1
  have hb := hX.2.1
  have hl : lv_has ls 4 [(0, .ref a), (1, .int (-1))] := hl
  refine lv_iconst (v := 0) hx hb dJ7_fill_53178_0 (by decide) ?_
  refine lv_istore_n (lv' := [(2, .int 0), (0, .ref a), (1, .int (-1))]) hx hb dJ7_fill_53178_1 rfl hl (by decide) rfl (fun ls hl => ?_)
  refine lv_aload_n hx hb dJ7_fill_53178_2 rfl (lv_at hl 1 rfl) ?_
  refine gAlen (n := 10) hX hK hI q0 t0 he ht rfl dJ7_fill_53178_3 ?_
  refine lv_istore_n (lv' := [(3, .int (nI 10)), (2, .int 0), (0, .ref a), (1, .int (-1))]) hx hb dJ7_fill_53178_4 rfl hl (by decide) rfl (fun ls hl => ?_)
  have loop : ∀ (f j : Nat) (H : Heap) (locs : List Loc) (ls : Array Slot), j + f = 10 → InW D A s.heap (w.set q0 (a, .inl (cI, 10, .inl (gFill j)))) H locs → lv_has ls 4 [(0, .ref a), (1, .int (-1)), (2, .int (nI j)), (3, .int (nI 10))] → W p l e ({ frames := 0, cells := 0, slots := 0, locals := 0 }) s m ([.ref a, .int (-1)] : List Value).toArray below meth c H locs 0 0 (MQ below (va_Qv (fun u => u = w.set q0 (a, .inl (cI, 10, .inl (gFill 10)))) (gPost D A) A) ([.ref a, .int (-1)] : List Value).toArray s 0 0 A) (F0 m 5 ls []) := by
    intro f
    induction f with
    | zero =>
      intro j H locs ls hj hI hl
      refine lv_iload_n hx hb dJ7_fill_53178_5 rfl (lv_at hl 2 rfl) ?_
      refine lv_iload_n hx hb dJ7_fill_53178_6 rfl (lv_at hl 3 rfl) ?_
      refine lv_icmp_ge (tgt := 20) hx hb dJ7_fill_53178_7 (by decide) (fun c1 => ?_) (fun c1 => absurd (nI_le (by omega) (by omega)) c1)
      exact gVret hX hr hlk hI (by rw [show j = 10 by omega]) dJ7_fill_53178_20
    | succ f ih =>
      intro j H locs ls hj hI hl
      refine lv_iload_n hx hb dJ7_fill_53178_5 rfl (lv_at hl 2 rfl) ?_
      refine lv_iload_n hx hb dJ7_fill_53178_6 rfl (lv_at hl 3 rfl) ?_
      refine lv_icmp_ge (tgt := 20) hx hb dJ7_fill_53178_7 (by decide) (fun c1 => absurd c1 (nI_ge (by omega) (by omega))) (fun c1 => ?_)
      refine lv_aload_n hx hb dJ7_fill_53178_10 rfl (lv_at hl 0 rfl) ?_
      refine lv_iload_n hx hb dJ7_fill_53178_11 rfl (lv_at hl 2 rfl) ?_
      refine lv_iload_n hx hb dJ7_fill_53178_12 rfl (lv_at hl 1 rfl) ?_
      refine gAst (j := j) (w' := w.set q0 (a, .inl (cI, 10, .inl (gFill (j + 1))))) hX hK hI q0 t0 (g_set_get he) ht rfl (by omega) (by decide) (by rw [List.set_set]; rfl) dJ7_fill_53178_13 (fun H locs hI => ?_)
      refine lv_iinc (v := nI (j + 1)) (lv' := [(2, .int (nI (j + 1))), (0, .ref a), (1, .int (-1)), (3, .int (nI 10))]) hx hb dJ7_fill_53178_14 hl (k := 2) rfl (nI_1 _) (by decide) rfl (fun ls hl => ?_)
      refine lv_goto (tgt := 5) hx hb dJ7_fill_53178_17 (by decide) ?_
      exact ih (j + 1) _ _ ls (by omega) hI (lv_sub hl [1, 2, 0, 3] rfl)
  refine loop 10 0 _ _ ls (by omega) ?_ (lv_sub hl [2, 3, 1, 0] rfl)
  have e : w.set q0 (a, .inl (cI, 10, .inl (gFill 0))) = w := by
    apply List.ext_getElem?
    intro k
    by_cases hk : k = q0
    · subst hk
      rw [g_set_get he, he]; rfl
    · rw [List.getElem?_set_ne (Ne.symm hk)]
  rw [e]
  exact hI
theorem gEnterE {l : Launch} {y : MethodName} {ws ws' : List Cond} {rm : Room} {cc : ByteArray} {maxL mc ms : Nat} {ret : Option FieldType} {D : va_G} {w : va_W} {tys : List (ClassId × FieldType)} {sz : Nat} {av : List Value} {QF : (Nat → Prop) → Array Value → State → Outcome → State → Prop} (hy : plainName y.cls = true) (hw : ws = Cond.code y cc maxL ret :: ws') (hn : (lg_sl av).length ≤ maxL)
    (body : ∀ (p : Program) (e : Env) (s : State) (m : MethodId) (below : List Frame) (meth : Method) (c : Code) (A : Nat → Prop) (ls : Array Slot), CallFix p m c cc maxL s av.toArray ws y.cls → meth.sig.returnType = ret → meth.locks = false → meth.name = y.name → va_K D vwCl tys s → gNw s → va_AO "GateHalls$Hall" s → (∀ q, s.heap.size ≤ q → A q) → InW D A s.heap w s.heap [] → lv_has ls maxL (lv_args 0 av) → W p l e rm s m av.toArray below meth c s.heap [] 0 0 (MQ below (QF A) av.toArray s mc ms A) (F0 m 0 ls [])) :
    Met l y ws rm (va_Pc av (fun U => gPre D w tys sz U ∧ va_AO "GateHalls$Hall" U)) (QF (va_A w sz)) mc ms (va_A w sz) := by
  refine Met.ofW hy hw ?_
  intro p e s m args below meth c s₁ B hml hv
  obtain ⟨rfl, ⟨hsz, hP, hK, hD0, hN⟩, hO⟩ := hv
  subst hsz
  have hl := lv_entry av (n := maxL) hn
  rw [lg_entry_eq]
  exact body p e s m below meth c _ _ ⟨B.exec, B.bytes, hml, findClass_of_methodNamed B.named, atoms_spec (ws := ws) B.pre⟩ B.returns B.notSynchronized (name_of_methodNamed B.named B.method).1 hK hN hO (fun q h => Or.inr h) ⟨hP, hD0.self, va_S.rf⟩ hl
set_option maxRecDepth 100000 in
theorem iX1_init_1 : ∀ w ∈ wsX10, w ∈ wsX1_init := by decide +kernel
set_option maxHeartbeats 4000000 in
set_option maxRecDepth 100000 in
theorem c_X1_init (l : Launch) (D : va_G) (g : Nat) (ad : Nat → Nat) (sz : Nat) : Met l yX1_init wsX1_init ({ frames := 1, cells := 5, slots := 160, locals := 24 }) (va_Pc [.ref g] (fun U => gPre D [(g, .inr (1, [.null, .null, .int 0, .int 0, .null, .null, .int 0, .int 0, .null, .int 0, .int 0, .int 0]))] [] sz U ∧ va_AO "GateHalls$Hall" U)) (va_Qv (fun _ : (Nat → Nat) × ClassId × ClassId => True) (fun u t => (va_P D vwCl (wCn g u.1 u.2.1 u.2.2 ad (fun _ => 0) 0 g0) t.heap ∧ va_D (va_A [(g, .inr (1, [.null, .null, .int 0, .int 0, .null, .null, .int 0, .int 0, .null, .int 0, .int 0, .int 0]))] sz) (wCn g u.1 u.2.1 u.2.2 ad (fun _ => 0) 0 g0)) ∧ va_K D vwCl (gTy u.2.1 u.2.2) t) (va_A [(g, .inr (1, [.null, .null, .int 0, .int 0, .null, .null, .int 0, .int 0, .null, .int 0, .int 0, .int 0]))] sz)) 5 160 (va_A [(g, .inr (1, [.null, .null, .int 0, .int 0, .null, .null, .int 0, .int 0, .null, .int 0, .int 0, .int 0]))] sz) := by
  refine gEnterE (cc := cX1_init) (maxL := 1) (ret := none) (QF := fun A => va_Qv (fun _ : (Nat → Nat) × ClassId × ClassId => True) (fun u t => (va_P D vwCl (wCn g u.1 u.2.1 u.2.2 ad (fun _ => 0) 0 g0) t.heap ∧ va_D A (wCn g u.1 u.2.1 u.2.2 ad (fun _ => 0) 0 g0)) ∧ va_K D vwCl (gTy u.2.1 u.2.2) t) A) (by decide) rfl (Nat.le_of_ble_eq_true rfl) ?_
  intro p e s m below meth c A ls hX hr hlk hnm hK hN hO hA hI hl
  have hx := hX.1
  have hb := hX.2.1
  have hts := hX.2.2.2.2
  have hown : s.vm.findClass RX1 = some m.cls := hX.2.2.2.1
  have hin1 := iX1_init_1
  have hl : lv_has ls 1 [(0, .ref g)] := hl
  refine lv_aload_n hx hb dX1_init_0 rfl (lv_at hl 0 rfl) ?_
  refine W.objInit hx hb hown (hts (.methodLink RX1 1 objectInit) (by decide +kernel)) (hts (.instanceMethod objectInit) (by decide +kernel)) (hts _ (List.mem_cons_of_mem _ (List.mem_append_left _ (List.mem_of_getElem? (i := 2) rfl)))) rfl (by rw [hX.2.2.1]; exact hl.1) rfl dX1_init_1 (Nat.le_of_ble_eq_true rfl) (Nat.le_of_ble_eq_true rfl) ?_
  refine W.eq (g2 := F0 m 4 ls []) rfl ?_
  refine lv_aload_n hx hb dX1_init_4 rfl (lv_at hl 0 rfl) ?_
  refine lv_bipush (v := 10) hx hb dX1_init_5 (by decide) ?_
  refine gNewq hX (hts (.classLink RX1 9 RX0) (by decide +kernel)) hO hK hI hA (by decide) (show (10 : Int32).toNatClampNeg = 10 by decide) (by decide) (Nat.le_of_ble_eq_true rfl) (Nat.le_of_ble_eq_true rfl) dX1_init_7 (fun a0 cA H hK hI => ?_)
  obtain ⟨cH, hcH⟩ : ∃ z : ClassId, z = cA := ⟨_, rfl⟩
  subst hcH
  have hK : va_K D vwCl [(cH, .object "GateHalls$Hall")] s := hK
  have hI : InW D A s.heap [(g, .inr (1, [.null, .null, .int 0, .int 0, .null, .null, .int 0, .int 0, .null, .int 0, .int 0, .int 0])), (a0, .inl (cH, 10, .inr (.inr (.inr (.inr (fun _ => none))))))] H _ := hI
  refine gPutF (ci := 1) hX hin1 tyX1 tyX1_ok nmX1 hK hI 0 rfl rfl 0 (by decide) (hts (.fieldLink RX1 11 "GateHalls" "halls" "[LGateHalls$Hall;") (by decide +kernel)) rfl hnm rfl rfl rfl (Nat.le_of_ble_eq_true rfl) (w' := [(g, .inr (1, [.ref a0, .null, .int 0, .int 0, .null, .null, .int 0, .int 0, .null, .int 0, .int 0, .int 0])), (a0, .inl (cH, 10, .inr (.inr (.inr (.inr (fun _ => none))))))]) rfl dX1_init_10 (fun H locs hI => ?_)
  refine lv_aload_n hx hb dX1_init_13 rfl (lv_at hl 0 rfl) ?_
  refine lv_bipush (v := 10) hx hb dX1_init_14 (by decide) ?_
  refine gNewa hX (hts (.arrayClass .int) (by decide +kernel)) hK hI hA (by decide) (show (10 : Int32).toNatClampNeg = 10 by decide) (by decide) (Nat.le_of_ble_eq_true rfl) (Nat.le_of_ble_eq_true rfl) dX1_init_16 (fun a1 cA H hK hI => ?_)
  obtain ⟨cI, hcI⟩ : ∃ z : ClassId, z = cA := ⟨_, rfl⟩
  subst hcI
  have hK : va_K D vwCl [(cH, .object "GateHalls$Hall"), (cI, .int)] s := hK
  have hI : InW D A s.heap [(g, .inr (1, [.ref a0, .null, .int 0, .int 0, .null, .null, .int 0, .int 0, .null, .int 0, .int 0, .int 0])), (a0, .inl (cH, 10, .inr (.inr (.inr (.inr (fun _ => none)))))), (a1, .inl (cI, 10, .inl (fun _ => 0)))] H _ := hI
  refine gPutF (ci := 1) hX hin1 tyX1 tyX1_ok nmX1 hK hI 0 rfl rfl 1 (by decide) (hts (.fieldLink RX1 15 "GateHalls" "parents" "[I") (by decide +kernel)) rfl hnm rfl rfl rfl (Nat.le_of_ble_eq_true rfl) (w' := [(g, .inr (1, [.ref a0, .ref a1, .int 0, .int 0, .null, .null, .int 0, .int 0, .null, .int 0, .int 0, .int 0])), (a0, .inl (cH, 10, .inr (.inr (.inr (.inr (fun _ => none)))))), (a1, .inl (cI, 10, .inl (fun _ => 0)))]) rfl dX1_init_18 (fun H locs hI => ?_)
  refine lv_aload_n hx hb dX1_init_21 rfl (lv_at hl 0 rfl) ?_
  refine lv_bipush (v := 10) hx hb dX1_init_22 (by decide) ?_
  refine gNewa hX (hts (.arrayClass .int) (by decide +kernel)) hK hI hA (by decide) (show (10 : Int32).toNatClampNeg = 10 by decide) (by decide) (Nat.le_of_ble_eq_true rfl) (Nat.le_of_ble_eq_true rfl) dX1_init_24 (fun a4 cA H hK hI => ?_)
  obtain rfl := gK_int hK 1 2 rfl rfl
  have hK := hK.sub (tys' := [(cH, .object "GateHalls$Hall"), (cI, .int)]) [0, 1] rfl
  have hI : InW D A s.heap [(g, .inr (1, [.ref a0, .ref a1, .int 0, .int 0, .null, .null, .int 0, .int 0, .null, .int 0, .int 0, .int 0])), (a0, .inl (cH, 10, .inr (.inr (.inr (.inr (fun _ => none)))))), (a1, .inl (cI, 10, .inl (fun _ => 0))), (a4, .inl (cI, 10, .inl (fun _ => 0)))] H _ := hI
  refine gPutF (ci := 1) hX hin1 tyX1 tyX1_ok nmX1 hK hI 0 rfl rfl 4 (by decide) (hts (.fieldLink RX1 19 "GateHalls" "path" "[I") (by decide +kernel)) rfl hnm rfl rfl rfl (Nat.le_of_ble_eq_true rfl) (w' := [(g, .inr (1, [.ref a0, .ref a1, .int 0, .int 0, .ref a4, .null, .int 0, .int 0, .null, .int 0, .int 0, .int 0])), (a0, .inl (cH, 10, .inr (.inr (.inr (.inr (fun _ => none)))))), (a1, .inl (cI, 10, .inl (fun _ => 0))), (a4, .inl (cI, 10, .inl (fun _ => 0)))]) rfl dX1_init_26 (fun H locs hI => ?_)
  refine lv_aload_n hx hb dX1_init_29 rfl (lv_at hl 0 rfl) ?_
  refine lv_bipush (v := 30) hx hb dX1_init_30 (by decide) ?_
  refine gNewq hX (hts (.classLink RX1 9 RX0) (by decide +kernel)) hO hK hI hA (by decide) (show (30 : Int32).toNatClampNeg = 30 by decide) (by decide) (Nat.le_of_ble_eq_true rfl) (Nat.le_of_ble_eq_true rfl) dX1_init_32 (fun a5 cA H hK hI => ?_)
  obtain rfl := gK_obj hK 0 2 rfl rfl
  have hK := hK.sub (tys' := [(cH, .object "GateHalls$Hall"), (cI, .int)]) [0, 1] rfl
  have hI : InW D A s.heap [(g, .inr (1, [.ref a0, .ref a1, .int 0, .int 0, .ref a4, .null, .int 0, .int 0, .null, .int 0, .int 0, .int 0])), (a0, .inl (cH, 10, .inr (.inr (.inr (.inr (fun _ => none)))))), (a1, .inl (cI, 10, .inl (fun _ => 0))), (a4, .inl (cI, 10, .inl (fun _ => 0))), (a5, .inl (cH, 30, .inr (.inr (.inr (.inr (fun _ => none))))))] H _ := hI
  refine gPutF (ci := 1) hX hin1 tyX1 tyX1_ok nmX1 hK hI 0 rfl rfl 5 (by decide) (hts (.fieldLink RX1 22 "GateHalls" "passed" "[LGateHalls$Hall;") (by decide +kernel)) rfl hnm rfl rfl rfl (Nat.le_of_ble_eq_true rfl) (w' := [(g, .inr (1, [.ref a0, .ref a1, .int 0, .int 0, .ref a4, .ref a5, .int 0, .int 0, .null, .int 0, .int 0, .int 0])), (a0, .inl (cH, 10, .inr (.inr (.inr (.inr (fun _ => none)))))), (a1, .inl (cI, 10, .inl (fun _ => 0))), (a4, .inl (cI, 10, .inl (fun _ => 0))), (a5, .inl (cH, 30, .inr (.inr (.inr (.inr (fun _ => none))))))]) rfl dX1_init_35 (fun H locs hI => ?_)
  refine lv_aload_n hx hb dX1_init_38 rfl (lv_at hl 0 rfl) ?_
  refine lv_bipush (v := 100) hx hb dX1_init_39 (by decide) ?_
  refine gNewa hX (hts (.arrayClass .int) (by decide +kernel)) hK hI hA (by decide) (show (100 : Int32).toNatClampNeg = 100 by decide) (by decide) (Nat.le_of_ble_eq_true rfl) (Nat.le_of_ble_eq_true rfl) dX1_init_41 (fun a8 cA H hK hI => ?_)
  obtain rfl := gK_int hK 1 2 rfl rfl
  have hK := hK.sub (tys' := [(cH, .object "GateHalls$Hall"), (cI, .int)]) [0, 1] rfl
  have hI : InW D A s.heap [(g, .inr (1, [.ref a0, .ref a1, .int 0, .int 0, .ref a4, .ref a5, .int 0, .int 0, .null, .int 0, .int 0, .int 0])), (a0, .inl (cH, 10, .inr (.inr (.inr (.inr (fun _ => none)))))), (a1, .inl (cI, 10, .inl (fun _ => 0))), (a4, .inl (cI, 10, .inl (fun _ => 0))), (a5, .inl (cH, 30, .inr (.inr (.inr (.inr (fun _ => none)))))), (a8, .inl (cI, 100, .inl (fun _ => 0)))] H _ := hI
  refine gPutF (ci := 1) hX hin1 tyX1 tyX1_ok nmX1 hK hI 0 rfl rfl 8 (by decide) (hts (.fieldLink RX1 25 "GateHalls" "marks" "[I") (by decide +kernel)) rfl hnm rfl rfl rfl (Nat.le_of_ble_eq_true rfl) (w' := [(g, .inr (1, [.ref a0, .ref a1, .int 0, .int 0, .ref a4, .ref a5, .int 0, .int 0, .ref a8, .int 0, .int 0, .int 0])), (a0, .inl (cH, 10, .inr (.inr (.inr (.inr (fun _ => none)))))), (a1, .inl (cI, 10, .inl (fun _ => 0))), (a4, .inl (cI, 10, .inl (fun _ => 0))), (a5, .inl (cH, 30, .inr (.inr (.inr (.inr (fun _ => none)))))), (a8, .inl (cI, 100, .inl (fun _ => 0)))]) rfl dX1_init_43 (fun H locs hI => ?_)
  refine lv_aload_n hx hb dX1_init_46 rfl (lv_at hl 0 rfl) ?_
  refine gGet (ci := 1) (v := .ref a1) hX hin1 hK hI 0 rfl rfl 1 (by decide) (hts (.fieldLink RX1 15 "GateHalls" "parents" "[I") (by decide +kernel)) rfl dX1_init_47 ?_
  refine lv_iconst (v := -1) hx hb dX1_init_50 (by decide) ?_
  refine gCallv (va_runS (As := [.ref a1, .int (-1)]) (rest := []) hX (c_fill l D [(cH, .object "GateHalls$Hall"), (cI, .int)] cI [(g, .inr (1, [.ref a0, .ref a1, .int 0, .int 0, .ref a4, .ref a5, .int 0, .int 0, .ref a8, .int 0, .int 0, .int 0])), (a0, .inl (cH, 10, .inr (.inr (.inr (.inr (fun _ => none)))))), (a1, .inl (cI, 10, .inl (fun _ => 0))), (a4, .inl (cI, 10, .inl (fun _ => 0))), (a5, .inl (cH, 30, .inr (.inr (.inr (.inr (fun _ => none)))))), (a8, .inl (cI, 100, .inl (fun _ => 0)))] a1 2 1 H.size rfl rfl) (va_cwS 2 hts gX1_init_J7_fill_53178 rfl rfl rfl (by decide +kernel) ⟨Nat.le_of_ble_eq_true rfl, Nat.le_of_ble_eq_true rfl⟩) ⟨gPre_blind, gPre_ok hI hK hN⟩ rfl rfl hl.1 rfl (lv_room (Nat.le_of_ble_eq_true rfl)) dX1_init_51 ⟨Nat.le_of_ble_eq_true rfl, Nat.le_of_ble_eq_true rfl⟩) hI hA (fun u H locs hu hI => ?_)
  subst hu
  obtain ⟨q, hq⟩ : ∃ q : Nat → Nat, q = fun k => if k = 0 then a0 else if k = 1 then a1 else if k = 4 then a4 else if k = 5 then a5 else a8 := ⟨_, rfl⟩
  have hI : InW D A s.heap (wCn g q cI cH ad (fun _ => 0) 0 g0) H locs := by
    show InW D A s.heap (wCr g q cI cH ad (fun _ => 0) (gfh ad g0) (gfp ad g0) 0 g0) H locs
    rw [g0_fh, g0_fp, hq]
    exact hI
  have hK := hK.sub (tys' := gTy cI cH) [1, 0] rfl
  exact W.vret hx hb hr (fun t ht hW => ⟨⟨(q, cI, cH), rfl, trivial, ⟨by rw [ht]; exact hI.1, hI.2.1⟩, va_K.moved hW.alike hK⟩, hI.2.2.F ht⟩) hI.2.2.2.2 dX1_init_54 hlk
set_option maxRecDepth 100000 in
theorem iX2_init_2 : ∀ w ∈ wsX20, w ∈ wsX2_init := by decide +kernel
set_option maxHeartbeats 40000000 in
set_option maxRecDepth 100000 in
theorem c_X2_init (l : Launch) (D : va_G) (h : Nat) (sz : Nat) : Met l yX2_init wsX2_init ({ frames := 1, cells := 13, slots := 33794, locals := 24 }) (va_Pc [.ref h] (gPre D [(h, .inr (2, [.int 0, .null, .null, .null, .null, .null, .null, .null, .null, .null, .null, .int 0, .int 0, .null, .int 0, .int 0, .int 0, .int 0, .null, .null]))] [] sz)) (va_Qv (fun _ : (Nat → Nat) × ClassId => True) (fun u t => (va_P D vwCl (wM h u.1 u.2 (fun _ => 0) g0) t.heap ∧ va_D (va_A [(h, .inr (2, [.int 0, .null, .null, .null, .null, .null, .null, .null, .null, .null, .null, .int 0, .int 0, .null, .int 0, .int 0, .int 0, .int 0, .null, .null]))] sz) (wM h u.1 u.2 (fun _ => 0) g0)) ∧ va_K D vwCl [(u.2, .int)] t) (va_A [(h, .inr (2, [.int 0, .null, .null, .null, .null, .null, .null, .null, .null, .null, .null, .int 0, .int 0, .null, .int 0, .int 0, .int 0, .int 0, .null, .null]))] sz)) 13 33794 (va_A [(h, .inr (2, [.int 0, .null, .null, .null, .null, .null, .null, .null, .null, .null, .null, .int 0, .int 0, .null, .int 0, .int 0, .int 0, .int 0, .null, .null]))] sz) := by
  refine gEnter (cc := cX2_init) (maxL := 1) (ret := none) (QF := fun A => va_Qv (fun _ : (Nat → Nat) × ClassId => True) (fun u t => (va_P D vwCl (wM h u.1 u.2 (fun _ => 0) g0) t.heap ∧ va_D A (wM h u.1 u.2 (fun _ => 0) g0)) ∧ va_K D vwCl [(u.2, .int)] t) A) (by decide) rfl (Nat.le_of_ble_eq_true rfl) ?_
  intro p e s m below meth c A ls hX hr hlk hnm hK hN hA hI hl
  have hx := hX.1
  have hb := hX.2.1
  have hts := hX.2.2.2.2
  have hown : s.vm.findClass RX2 = some m.cls := hX.2.2.2.1
  have hin2 := iX2_init_2
  have hl : lv_has ls 1 [(0, .ref h)] := hl
  refine lv_aload_n hx hb dX2_init_0 rfl (lv_at hl 0 rfl) ?_
  refine W.objInit hx hb hown (hts (.methodLink RX2 1 objectInit) (by decide +kernel)) (hts (.instanceMethod objectInit) (by decide +kernel)) (hts _ (List.mem_cons_of_mem _ (List.mem_append_left _ (List.mem_of_getElem? (i := 2) rfl)))) rfl (by rw [hX.2.2.1]; exact hl.1) rfl dX2_init_1 (Nat.le_of_ble_eq_true rfl) (Nat.le_of_ble_eq_true rfl) ?_
  refine W.eq (g2 := F0 m 4 ls []) rfl ?_
  refine lv_aload_n hx hb dX2_init_4 rfl (lv_at hl 0 rfl) ?_
  refine lv_sipush (v := 4200) hx hb dX2_init_5 (by decide) ?_
  refine gNewa hX (hts (.arrayClass .int) (by decide +kernel)) hK hI hA (by decide) (show (4200 : Int32).toNatClampNeg = 4200 by decide) (by decide) (Nat.le_of_ble_eq_true rfl) (Nat.le_of_ble_eq_true rfl) dX2_init_8 (fun a1 cA H hK hI => ?_)
  obtain ⟨cI, hcI⟩ : ∃ z : ClassId, z = cA := ⟨_, rfl⟩
  subst hcI
  have hK : va_K D vwCl [(cI, .int)] s := hK
  have hI : InW D A s.heap [(h, .inr (2, [.int 0, .null, .null, .null, .null, .null, .null, .null, .null, .null, .null, .int 0, .int 0, .null, .int 0, .int 0, .int 0, .int 0, .null, .null])), (a1, .inl (cI, 4200, .inl (fun _ => 0)))] H _ := hI
  refine gPutF (ci := 2) hX hin2 tyX2 tyX2_ok nmX2 hK hI 0 rfl rfl 1 (by decide) (hts (.fieldLink RX2 7 "GateHallsModel" "kinds" "[I") (by decide +kernel)) rfl hnm rfl rfl rfl (Nat.le_of_ble_eq_true rfl) (w' := [(h, .inr (2, [.int 0, .ref a1, .null, .null, .null, .null, .null, .null, .null, .null, .null, .int 0, .int 0, .null, .int 0, .int 0, .int 0, .int 0, .null, .null])), (a1, .inl (cI, 4200, .inl (fun _ => 0)))]) rfl dX2_init_10 (fun H locs hI => ?_)
  refine lv_aload_n hx hb dX2_init_13 rfl (lv_at hl 0 rfl) ?_
  refine lv_sipush (v := 4200) hx hb dX2_init_14 (by decide) ?_
  refine gNewa hX (hts (.arrayClass .int) (by decide +kernel)) hK hI hA (by decide) (show (4200 : Int32).toNatClampNeg = 4200 by decide) (by decide) (Nat.le_of_ble_eq_true rfl) (Nat.le_of_ble_eq_true rfl) dX2_init_17 (fun a2 cA H hK hI => ?_)
  obtain rfl := gK_int hK 0 1 rfl rfl
  have hK := hK.sub (tys' := [(cI, .int)]) [0] rfl
  have hI : InW D A s.heap [(h, .inr (2, [.int 0, .ref a1, .null, .null, .null, .null, .null, .null, .null, .null, .null, .int 0, .int 0, .null, .int 0, .int 0, .int 0, .int 0, .null, .null])), (a1, .inl (cI, 4200, .inl (fun _ => 0))), (a2, .inl (cI, 4200, .inl (fun _ => 0)))] H _ := hI
  refine gPutF (ci := 2) hX hin2 tyX2 tyX2_ok nmX2 hK hI 0 rfl rfl 2 (by decide) (hts (.fieldLink RX2 13 "GateHallsModel" "fees" "[I") (by decide +kernel)) rfl hnm rfl rfl rfl (Nat.le_of_ble_eq_true rfl) (w' := [(h, .inr (2, [.int 0, .ref a1, .ref a2, .null, .null, .null, .null, .null, .null, .null, .null, .int 0, .int 0, .null, .int 0, .int 0, .int 0, .int 0, .null, .null])), (a1, .inl (cI, 4200, .inl (fun _ => 0))), (a2, .inl (cI, 4200, .inl (fun _ => 0)))]) rfl dX2_init_19 (fun H locs hI => ?_)
  refine lv_aload_n hx hb dX2_init_22 rfl (lv_at hl 0 rfl) ?_
  refine lv_sipush (v := 4200) hx hb dX2_init_23 (by decide) ?_
  refine gNewa hX (hts (.arrayClass .int) (by decide +kernel)) hK hI hA (by decide) (show (4200 : Int32).toNatClampNeg = 4200 by decide) (by decide) (Nat.le_of_ble_eq_true rfl) (Nat.le_of_ble_eq_true rfl) dX2_init_26 (fun a3 cA H hK hI => ?_)
  obtain rfl := gK_int hK 0 1 rfl rfl
  have hK := hK.sub (tys' := [(cI, .int)]) [0] rfl
  have hI : InW D A s.heap [(h, .inr (2, [.int 0, .ref a1, .ref a2, .null, .null, .null, .null, .null, .null, .null, .null, .int 0, .int 0, .null, .int 0, .int 0, .int 0, .int 0, .null, .null])), (a1, .inl (cI, 4200, .inl (fun _ => 0))), (a2, .inl (cI, 4200, .inl (fun _ => 0))), (a3, .inl (cI, 4200, .inl (fun _ => 0)))] H _ := hI
  refine gPutF (ci := 2) hX hin2 tyX2 tyX2_ok nmX2 hK hI 0 rfl rfl 3 (by decide) (hts (.fieldLink RX2 16 "GateHallsModel" "gifts" "[I") (by decide +kernel)) rfl hnm rfl rfl rfl (Nat.le_of_ble_eq_true rfl) (w' := [(h, .inr (2, [.int 0, .ref a1, .ref a2, .ref a3, .null, .null, .null, .null, .null, .null, .null, .int 0, .int 0, .null, .int 0, .int 0, .int 0, .int 0, .null, .null])), (a1, .inl (cI, 4200, .inl (fun _ => 0))), (a2, .inl (cI, 4200, .inl (fun _ => 0))), (a3, .inl (cI, 4200, .inl (fun _ => 0)))]) rfl dX2_init_28 (fun H locs hI => ?_)
  refine lv_aload_n hx hb dX2_init_31 rfl (lv_at hl 0 rfl) ?_
  refine lv_sipush (v := 4200) hx hb dX2_init_32 (by decide) ?_
  refine gNewa hX (hts (.arrayClass .int) (by decide +kernel)) hK hI hA (by decide) (show (4200 : Int32).toNatClampNeg = 4200 by decide) (by decide) (Nat.le_of_ble_eq_true rfl) (Nat.le_of_ble_eq_true rfl) dX2_init_35 (fun a4 cA H hK hI => ?_)
  obtain rfl := gK_int hK 0 1 rfl rfl
  have hK := hK.sub (tys' := [(cI, .int)]) [0] rfl
  have hI : InW D A s.heap [(h, .inr (2, [.int 0, .ref a1, .ref a2, .ref a3, .null, .null, .null, .null, .null, .null, .null, .int 0, .int 0, .null, .int 0, .int 0, .int 0, .int 0, .null, .null])), (a1, .inl (cI, 4200, .inl (fun _ => 0))), (a2, .inl (cI, 4200, .inl (fun _ => 0))), (a3, .inl (cI, 4200, .inl (fun _ => 0))), (a4, .inl (cI, 4200, .inl (fun _ => 0)))] H _ := hI
  refine gPutF (ci := 2) hX hin2 tyX2 tyX2_ok nmX2 hK hI 0 rfl rfl 4 (by decide) (hts (.fieldLink RX2 19 "GateHallsModel" "passes" "[I") (by decide +kernel)) rfl hnm rfl rfl rfl (Nat.le_of_ble_eq_true rfl) (w' := [(h, .inr (2, [.int 0, .ref a1, .ref a2, .ref a3, .ref a4, .null, .null, .null, .null, .null, .null, .int 0, .int 0, .null, .int 0, .int 0, .int 0, .int 0, .null, .null])), (a1, .inl (cI, 4200, .inl (fun _ => 0))), (a2, .inl (cI, 4200, .inl (fun _ => 0))), (a3, .inl (cI, 4200, .inl (fun _ => 0))), (a4, .inl (cI, 4200, .inl (fun _ => 0)))]) rfl dX2_init_37 (fun H locs hI => ?_)
  refine lv_aload_n hx hb dX2_init_40 rfl (lv_at hl 0 rfl) ?_
  refine lv_sipush (v := 4200) hx hb dX2_init_41 (by decide) ?_
  refine gNewa hX (hts (.arrayClass .int) (by decide +kernel)) hK hI hA (by decide) (show (4200 : Int32).toNatClampNeg = 4200 by decide) (by decide) (Nat.le_of_ble_eq_true rfl) (Nat.le_of_ble_eq_true rfl) dX2_init_44 (fun a5 cA H hK hI => ?_)
  obtain rfl := gK_int hK 0 1 rfl rfl
  have hK := hK.sub (tys' := [(cI, .int)]) [0] rfl
  have hI : InW D A s.heap [(h, .inr (2, [.int 0, .ref a1, .ref a2, .ref a3, .ref a4, .null, .null, .null, .null, .null, .null, .int 0, .int 0, .null, .int 0, .int 0, .int 0, .int 0, .null, .null])), (a1, .inl (cI, 4200, .inl (fun _ => 0))), (a2, .inl (cI, 4200, .inl (fun _ => 0))), (a3, .inl (cI, 4200, .inl (fun _ => 0))), (a4, .inl (cI, 4200, .inl (fun _ => 0))), (a5, .inl (cI, 4200, .inl (fun _ => 0)))] H _ := hI
  refine gPutF (ci := 2) hX hin2 tyX2 tyX2_ok nmX2 hK hI 0 rfl rfl 5 (by decide) (hts (.fieldLink RX2 22 "GateHallsModel" "asks" "[I") (by decide +kernel)) rfl hnm rfl rfl rfl (Nat.le_of_ble_eq_true rfl) (w' := [(h, .inr (2, [.int 0, .ref a1, .ref a2, .ref a3, .ref a4, .ref a5, .null, .null, .null, .null, .null, .int 0, .int 0, .null, .int 0, .int 0, .int 0, .int 0, .null, .null])), (a1, .inl (cI, 4200, .inl (fun _ => 0))), (a2, .inl (cI, 4200, .inl (fun _ => 0))), (a3, .inl (cI, 4200, .inl (fun _ => 0))), (a4, .inl (cI, 4200, .inl (fun _ => 0))), (a5, .inl (cI, 4200, .inl (fun _ => 0)))]) rfl dX2_init_46 (fun H locs hI => ?_)
  refine lv_aload_n hx hb dX2_init_49 rfl (lv_at hl 0 rfl) ?_
  refine lv_sipush (v := 4200) hx hb dX2_init_50 (by decide) ?_
  refine gNewa hX (hts (.arrayClass .int) (by decide +kernel)) hK hI hA (by decide) (show (4200 : Int32).toNatClampNeg = 4200 by decide) (by decide) (Nat.le_of_ble_eq_true rfl) (Nat.le_of_ble_eq_true rfl) dX2_init_53 (fun a6 cA H hK hI => ?_)
  obtain rfl := gK_int hK 0 1 rfl rfl
  have hK := hK.sub (tys' := [(cI, .int)]) [0] rfl
  have hI : InW D A s.heap [(h, .inr (2, [.int 0, .ref a1, .ref a2, .ref a3, .ref a4, .ref a5, .null, .null, .null, .null, .null, .int 0, .int 0, .null, .int 0, .int 0, .int 0, .int 0, .null, .null])), (a1, .inl (cI, 4200, .inl (fun _ => 0))), (a2, .inl (cI, 4200, .inl (fun _ => 0))), (a3, .inl (cI, 4200, .inl (fun _ => 0))), (a4, .inl (cI, 4200, .inl (fun _ => 0))), (a5, .inl (cI, 4200, .inl (fun _ => 0))), (a6, .inl (cI, 4200, .inl (fun _ => 0)))] H _ := hI
  refine gPutF (ci := 2) hX hin2 tyX2 tyX2_ok nmX2 hK hI 0 rfl rfl 6 (by decide) (hts (.fieldLink RX2 25 "GateHallsModel" "paid" "[I") (by decide +kernel)) rfl hnm rfl rfl rfl (Nat.le_of_ble_eq_true rfl) (w' := [(h, .inr (2, [.int 0, .ref a1, .ref a2, .ref a3, .ref a4, .ref a5, .ref a6, .null, .null, .null, .null, .int 0, .int 0, .null, .int 0, .int 0, .int 0, .int 0, .null, .null])), (a1, .inl (cI, 4200, .inl (fun _ => 0))), (a2, .inl (cI, 4200, .inl (fun _ => 0))), (a3, .inl (cI, 4200, .inl (fun _ => 0))), (a4, .inl (cI, 4200, .inl (fun _ => 0))), (a5, .inl (cI, 4200, .inl (fun _ => 0))), (a6, .inl (cI, 4200, .inl (fun _ => 0)))]) rfl dX2_init_55 (fun H locs hI => ?_)
  refine lv_aload_n hx hb dX2_init_58 rfl (lv_at hl 0 rfl) ?_
  refine lv_sipush (v := 4200) hx hb dX2_init_59 (by decide) ?_
  refine gNewa hX (hts (.arrayClass .int) (by decide +kernel)) hK hI hA (by decide) (show (4200 : Int32).toNatClampNeg = 4200 by decide) (by decide) (Nat.le_of_ble_eq_true rfl) (Nat.le_of_ble_eq_true rfl) dX2_init_62 (fun a7 cA H hK hI => ?_)
  obtain rfl := gK_int hK 0 1 rfl rfl
  have hK := hK.sub (tys' := [(cI, .int)]) [0] rfl
  have hI : InW D A s.heap [(h, .inr (2, [.int 0, .ref a1, .ref a2, .ref a3, .ref a4, .ref a5, .ref a6, .null, .null, .null, .null, .int 0, .int 0, .null, .int 0, .int 0, .int 0, .int 0, .null, .null])), (a1, .inl (cI, 4200, .inl (fun _ => 0))), (a2, .inl (cI, 4200, .inl (fun _ => 0))), (a3, .inl (cI, 4200, .inl (fun _ => 0))), (a4, .inl (cI, 4200, .inl (fun _ => 0))), (a5, .inl (cI, 4200, .inl (fun _ => 0))), (a6, .inl (cI, 4200, .inl (fun _ => 0))), (a7, .inl (cI, 4200, .inl (fun _ => 0)))] H _ := hI
  refine gPutF (ci := 2) hX hin2 tyX2 tyX2_ok nmX2 hK hI 0 rfl rfl 7 (by decide) (hts (.fieldLink RX2 28 "GateHallsModel" "inside" "[I") (by decide +kernel)) rfl hnm rfl rfl rfl (Nat.le_of_ble_eq_true rfl) (w' := [(h, .inr (2, [.int 0, .ref a1, .ref a2, .ref a3, .ref a4, .ref a5, .ref a6, .ref a7, .null, .null, .null, .int 0, .int 0, .null, .int 0, .int 0, .int 0, .int 0, .null, .null])), (a1, .inl (cI, 4200, .inl (fun _ => 0))), (a2, .inl (cI, 4200, .inl (fun _ => 0))), (a3, .inl (cI, 4200, .inl (fun _ => 0))), (a4, .inl (cI, 4200, .inl (fun _ => 0))), (a5, .inl (cI, 4200, .inl (fun _ => 0))), (a6, .inl (cI, 4200, .inl (fun _ => 0))), (a7, .inl (cI, 4200, .inl (fun _ => 0)))]) rfl dX2_init_64 (fun H locs hI => ?_)
  refine lv_aload_n hx hb dX2_init_67 rfl (lv_at hl 0 rfl) ?_
  refine lv_sipush (v := 4200) hx hb dX2_init_68 (by decide) ?_
  refine gNewa hX (hts (.arrayClass .int) (by decide +kernel)) hK hI hA (by decide) (show (4200 : Int32).toNatClampNeg = 4200 by decide) (by decide) (Nat.le_of_ble_eq_true rfl) (Nat.le_of_ble_eq_true rfl) dX2_init_71 (fun a8 cA H hK hI => ?_)
  obtain rfl := gK_int hK 0 1 rfl rfl
  have hK := hK.sub (tys' := [(cI, .int)]) [0] rfl
  have hI : InW D A s.heap [(h, .inr (2, [.int 0, .ref a1, .ref a2, .ref a3, .ref a4, .ref a5, .ref a6, .ref a7, .null, .null, .null, .int 0, .int 0, .null, .int 0, .int 0, .int 0, .int 0, .null, .null])), (a1, .inl (cI, 4200, .inl (fun _ => 0))), (a2, .inl (cI, 4200, .inl (fun _ => 0))), (a3, .inl (cI, 4200, .inl (fun _ => 0))), (a4, .inl (cI, 4200, .inl (fun _ => 0))), (a5, .inl (cI, 4200, .inl (fun _ => 0))), (a6, .inl (cI, 4200, .inl (fun _ => 0))), (a7, .inl (cI, 4200, .inl (fun _ => 0))), (a8, .inl (cI, 4200, .inl (fun _ => 0)))] H _ := hI
  refine gPutF (ci := 2) hX hin2 tyX2 tyX2_ok nmX2 hK hI 0 rfl rfl 8 (by decide) (hts (.fieldLink RX2 31 "GateHallsModel" "mosts" "[I") (by decide +kernel)) rfl hnm rfl rfl rfl (Nat.le_of_ble_eq_true rfl) (w' := [(h, .inr (2, [.int 0, .ref a1, .ref a2, .ref a3, .ref a4, .ref a5, .ref a6, .ref a7, .ref a8, .null, .null, .int 0, .int 0, .null, .int 0, .int 0, .int 0, .int 0, .null, .null])), (a1, .inl (cI, 4200, .inl (fun _ => 0))), (a2, .inl (cI, 4200, .inl (fun _ => 0))), (a3, .inl (cI, 4200, .inl (fun _ => 0))), (a4, .inl (cI, 4200, .inl (fun _ => 0))), (a5, .inl (cI, 4200, .inl (fun _ => 0))), (a6, .inl (cI, 4200, .inl (fun _ => 0))), (a7, .inl (cI, 4200, .inl (fun _ => 0))), (a8, .inl (cI, 4200, .inl (fun _ => 0)))]) rfl dX2_init_73 (fun H locs hI => ?_)
  refine lv_aload_n hx hb dX2_init_76 rfl (lv_at hl 0 rfl) ?_
  refine lv_bipush (v := 10) hx hb dX2_init_77 (by decide) ?_
  refine gNewa hX (hts (.arrayClass .int) (by decide +kernel)) hK hI hA (by decide) (show (10 : Int32).toNatClampNeg = 10 by decide) (by decide) (Nat.le_of_ble_eq_true rfl) (Nat.le_of_ble_eq_true rfl) dX2_init_79 (fun a9 cA H hK hI => ?_)
  obtain rfl := gK_int hK 0 1 rfl rfl
  have hK := hK.sub (tys' := [(cI, .int)]) [0] rfl
  have hI : InW D A s.heap [(h, .inr (2, [.int 0, .ref a1, .ref a2, .ref a3, .ref a4, .ref a5, .ref a6, .ref a7, .ref a8, .null, .null, .int 0, .int 0, .null, .int 0, .int 0, .int 0, .int 0, .null, .null])), (a1, .inl (cI, 4200, .inl (fun _ => 0))), (a2, .inl (cI, 4200, .inl (fun _ => 0))), (a3, .inl (cI, 4200, .inl (fun _ => 0))), (a4, .inl (cI, 4200, .inl (fun _ => 0))), (a5, .inl (cI, 4200, .inl (fun _ => 0))), (a6, .inl (cI, 4200, .inl (fun _ => 0))), (a7, .inl (cI, 4200, .inl (fun _ => 0))), (a8, .inl (cI, 4200, .inl (fun _ => 0))), (a9, .inl (cI, 10, .inl (fun _ => 0)))] H _ := hI
  refine lv_dup hx hb dX2_init_81 rfl ?_
  refine lv_iconst (v := 0) hx hb dX2_init_82 (by decide) ?_
  refine lv_iconst (v := -1) hx hb dX2_init_83 (by decide) ?_
  refine gAst (j := 0) (w' := [(h, .inr (2, [.int 0, .ref a1, .ref a2, .ref a3, .ref a4, .ref a5, .ref a6, .ref a7, .ref a8, .null, .null, .int 0, .int 0, .null, .int 0, .int 0, .int 0, .int 0, .null, .null])), (a1, .inl (cI, 4200, .inl (fun _ => 0))), (a2, .inl (cI, 4200, .inl (fun _ => 0))), (a3, .inl (cI, 4200, .inl (fun _ => 0))), (a4, .inl (cI, 4200, .inl (fun _ => 0))), (a5, .inl (cI, 4200, .inl (fun _ => 0))), (a6, .inl (cI, 4200, .inl (fun _ => 0))), (a7, .inl (cI, 4200, .inl (fun _ => 0))), (a8, .inl (cI, 4200, .inl (fun _ => 0))), (a9, .inl (cI, 10, .inl (gFill 1)))]) hX hK hI 9 0 rfl rfl rfl (by decide) (by decide) rfl dX2_init_84 (fun H locs hI => ?_)
  refine lv_dup hx hb dX2_init_85 rfl ?_
  refine lv_iconst (v := 1) hx hb dX2_init_86 (by decide) ?_
  refine lv_iconst (v := -1) hx hb dX2_init_87 (by decide) ?_
  refine gAst (j := 1) (w' := [(h, .inr (2, [.int 0, .ref a1, .ref a2, .ref a3, .ref a4, .ref a5, .ref a6, .ref a7, .ref a8, .null, .null, .int 0, .int 0, .null, .int 0, .int 0, .int 0, .int 0, .null, .null])), (a1, .inl (cI, 4200, .inl (fun _ => 0))), (a2, .inl (cI, 4200, .inl (fun _ => 0))), (a3, .inl (cI, 4200, .inl (fun _ => 0))), (a4, .inl (cI, 4200, .inl (fun _ => 0))), (a5, .inl (cI, 4200, .inl (fun _ => 0))), (a6, .inl (cI, 4200, .inl (fun _ => 0))), (a7, .inl (cI, 4200, .inl (fun _ => 0))), (a8, .inl (cI, 4200, .inl (fun _ => 0))), (a9, .inl (cI, 10, .inl (gFill 2)))]) hX hK hI 9 0 rfl rfl rfl (by decide) (by decide) rfl dX2_init_88 (fun H locs hI => ?_)
  refine lv_dup hx hb dX2_init_89 rfl ?_
  refine lv_iconst (v := 2) hx hb dX2_init_90 (by decide) ?_
  refine lv_iconst (v := -1) hx hb dX2_init_91 (by decide) ?_
  refine gAst (j := 2) (w' := [(h, .inr (2, [.int 0, .ref a1, .ref a2, .ref a3, .ref a4, .ref a5, .ref a6, .ref a7, .ref a8, .null, .null, .int 0, .int 0, .null, .int 0, .int 0, .int 0, .int 0, .null, .null])), (a1, .inl (cI, 4200, .inl (fun _ => 0))), (a2, .inl (cI, 4200, .inl (fun _ => 0))), (a3, .inl (cI, 4200, .inl (fun _ => 0))), (a4, .inl (cI, 4200, .inl (fun _ => 0))), (a5, .inl (cI, 4200, .inl (fun _ => 0))), (a6, .inl (cI, 4200, .inl (fun _ => 0))), (a7, .inl (cI, 4200, .inl (fun _ => 0))), (a8, .inl (cI, 4200, .inl (fun _ => 0))), (a9, .inl (cI, 10, .inl (gFill 3)))]) hX hK hI 9 0 rfl rfl rfl (by decide) (by decide) rfl dX2_init_92 (fun H locs hI => ?_)
  refine lv_dup hx hb dX2_init_93 rfl ?_
  refine lv_iconst (v := 3) hx hb dX2_init_94 (by decide) ?_
  refine lv_iconst (v := -1) hx hb dX2_init_95 (by decide) ?_
  refine gAst (j := 3) (w' := [(h, .inr (2, [.int 0, .ref a1, .ref a2, .ref a3, .ref a4, .ref a5, .ref a6, .ref a7, .ref a8, .null, .null, .int 0, .int 0, .null, .int 0, .int 0, .int 0, .int 0, .null, .null])), (a1, .inl (cI, 4200, .inl (fun _ => 0))), (a2, .inl (cI, 4200, .inl (fun _ => 0))), (a3, .inl (cI, 4200, .inl (fun _ => 0))), (a4, .inl (cI, 4200, .inl (fun _ => 0))), (a5, .inl (cI, 4200, .inl (fun _ => 0))), (a6, .inl (cI, 4200, .inl (fun _ => 0))), (a7, .inl (cI, 4200, .inl (fun _ => 0))), (a8, .inl (cI, 4200, .inl (fun _ => 0))), (a9, .inl (cI, 10, .inl (gFill 4)))]) hX hK hI 9 0 rfl rfl rfl (by decide) (by decide) rfl dX2_init_96 (fun H locs hI => ?_)
  refine lv_dup hx hb dX2_init_97 rfl ?_
  refine lv_iconst (v := 4) hx hb dX2_init_98 (by decide) ?_
  refine lv_iconst (v := -1) hx hb dX2_init_99 (by decide) ?_
  refine gAst (j := 4) (w' := [(h, .inr (2, [.int 0, .ref a1, .ref a2, .ref a3, .ref a4, .ref a5, .ref a6, .ref a7, .ref a8, .null, .null, .int 0, .int 0, .null, .int 0, .int 0, .int 0, .int 0, .null, .null])), (a1, .inl (cI, 4200, .inl (fun _ => 0))), (a2, .inl (cI, 4200, .inl (fun _ => 0))), (a3, .inl (cI, 4200, .inl (fun _ => 0))), (a4, .inl (cI, 4200, .inl (fun _ => 0))), (a5, .inl (cI, 4200, .inl (fun _ => 0))), (a6, .inl (cI, 4200, .inl (fun _ => 0))), (a7, .inl (cI, 4200, .inl (fun _ => 0))), (a8, .inl (cI, 4200, .inl (fun _ => 0))), (a9, .inl (cI, 10, .inl (gFill 5)))]) hX hK hI 9 0 rfl rfl rfl (by decide) (by decide) rfl dX2_init_100 (fun H locs hI => ?_)
  refine lv_dup hx hb dX2_init_101 rfl ?_
  refine lv_iconst (v := 5) hx hb dX2_init_102 (by decide) ?_
  refine lv_iconst (v := -1) hx hb dX2_init_103 (by decide) ?_
  refine gAst (j := 5) (w' := [(h, .inr (2, [.int 0, .ref a1, .ref a2, .ref a3, .ref a4, .ref a5, .ref a6, .ref a7, .ref a8, .null, .null, .int 0, .int 0, .null, .int 0, .int 0, .int 0, .int 0, .null, .null])), (a1, .inl (cI, 4200, .inl (fun _ => 0))), (a2, .inl (cI, 4200, .inl (fun _ => 0))), (a3, .inl (cI, 4200, .inl (fun _ => 0))), (a4, .inl (cI, 4200, .inl (fun _ => 0))), (a5, .inl (cI, 4200, .inl (fun _ => 0))), (a6, .inl (cI, 4200, .inl (fun _ => 0))), (a7, .inl (cI, 4200, .inl (fun _ => 0))), (a8, .inl (cI, 4200, .inl (fun _ => 0))), (a9, .inl (cI, 10, .inl (gFill 6)))]) hX hK hI 9 0 rfl rfl rfl (by decide) (by decide) rfl dX2_init_104 (fun H locs hI => ?_)
  refine lv_dup hx hb dX2_init_105 rfl ?_
  refine lv_bipush (v := 6) hx hb dX2_init_106 (by decide) ?_
  refine lv_iconst (v := -1) hx hb dX2_init_108 (by decide) ?_
  refine gAst (j := 6) (w' := [(h, .inr (2, [.int 0, .ref a1, .ref a2, .ref a3, .ref a4, .ref a5, .ref a6, .ref a7, .ref a8, .null, .null, .int 0, .int 0, .null, .int 0, .int 0, .int 0, .int 0, .null, .null])), (a1, .inl (cI, 4200, .inl (fun _ => 0))), (a2, .inl (cI, 4200, .inl (fun _ => 0))), (a3, .inl (cI, 4200, .inl (fun _ => 0))), (a4, .inl (cI, 4200, .inl (fun _ => 0))), (a5, .inl (cI, 4200, .inl (fun _ => 0))), (a6, .inl (cI, 4200, .inl (fun _ => 0))), (a7, .inl (cI, 4200, .inl (fun _ => 0))), (a8, .inl (cI, 4200, .inl (fun _ => 0))), (a9, .inl (cI, 10, .inl (gFill 7)))]) hX hK hI 9 0 rfl rfl rfl (by decide) (by decide) rfl dX2_init_109 (fun H locs hI => ?_)
  refine lv_dup hx hb dX2_init_110 rfl ?_
  refine lv_bipush (v := 7) hx hb dX2_init_111 (by decide) ?_
  refine lv_iconst (v := -1) hx hb dX2_init_113 (by decide) ?_
  refine gAst (j := 7) (w' := [(h, .inr (2, [.int 0, .ref a1, .ref a2, .ref a3, .ref a4, .ref a5, .ref a6, .ref a7, .ref a8, .null, .null, .int 0, .int 0, .null, .int 0, .int 0, .int 0, .int 0, .null, .null])), (a1, .inl (cI, 4200, .inl (fun _ => 0))), (a2, .inl (cI, 4200, .inl (fun _ => 0))), (a3, .inl (cI, 4200, .inl (fun _ => 0))), (a4, .inl (cI, 4200, .inl (fun _ => 0))), (a5, .inl (cI, 4200, .inl (fun _ => 0))), (a6, .inl (cI, 4200, .inl (fun _ => 0))), (a7, .inl (cI, 4200, .inl (fun _ => 0))), (a8, .inl (cI, 4200, .inl (fun _ => 0))), (a9, .inl (cI, 10, .inl (gFill 8)))]) hX hK hI 9 0 rfl rfl rfl (by decide) (by decide) rfl dX2_init_114 (fun H locs hI => ?_)
  refine lv_dup hx hb dX2_init_115 rfl ?_
  refine lv_bipush (v := 8) hx hb dX2_init_116 (by decide) ?_
  refine lv_iconst (v := -1) hx hb dX2_init_118 (by decide) ?_
  refine gAst (j := 8) (w' := [(h, .inr (2, [.int 0, .ref a1, .ref a2, .ref a3, .ref a4, .ref a5, .ref a6, .ref a7, .ref a8, .null, .null, .int 0, .int 0, .null, .int 0, .int 0, .int 0, .int 0, .null, .null])), (a1, .inl (cI, 4200, .inl (fun _ => 0))), (a2, .inl (cI, 4200, .inl (fun _ => 0))), (a3, .inl (cI, 4200, .inl (fun _ => 0))), (a4, .inl (cI, 4200, .inl (fun _ => 0))), (a5, .inl (cI, 4200, .inl (fun _ => 0))), (a6, .inl (cI, 4200, .inl (fun _ => 0))), (a7, .inl (cI, 4200, .inl (fun _ => 0))), (a8, .inl (cI, 4200, .inl (fun _ => 0))), (a9, .inl (cI, 10, .inl (gFill 9)))]) hX hK hI 9 0 rfl rfl rfl (by decide) (by decide) rfl dX2_init_119 (fun H locs hI => ?_)
  refine lv_dup hx hb dX2_init_120 rfl ?_
  refine lv_bipush (v := 9) hx hb dX2_init_121 (by decide) ?_
  refine lv_iconst (v := -1) hx hb dX2_init_123 (by decide) ?_
  refine gAst (j := 9) (w' := [(h, .inr (2, [.int 0, .ref a1, .ref a2, .ref a3, .ref a4, .ref a5, .ref a6, .ref a7, .ref a8, .null, .null, .int 0, .int 0, .null, .int 0, .int 0, .int 0, .int 0, .null, .null])), (a1, .inl (cI, 4200, .inl (fun _ => 0))), (a2, .inl (cI, 4200, .inl (fun _ => 0))), (a3, .inl (cI, 4200, .inl (fun _ => 0))), (a4, .inl (cI, 4200, .inl (fun _ => 0))), (a5, .inl (cI, 4200, .inl (fun _ => 0))), (a6, .inl (cI, 4200, .inl (fun _ => 0))), (a7, .inl (cI, 4200, .inl (fun _ => 0))), (a8, .inl (cI, 4200, .inl (fun _ => 0))), (a9, .inl (cI, 10, .inl (gFill 10)))]) hX hK hI 9 0 rfl rfl rfl (by decide) (by decide) rfl dX2_init_124 (fun H locs hI => ?_)
  refine gPutF (ci := 2) hX hin2 tyX2 tyX2_ok nmX2 hK hI 0 rfl rfl 9 (by decide) (hts (.fieldLink RX2 34 "GateHallsModel" "places" "[I") (by decide +kernel)) rfl hnm rfl rfl rfl (Nat.le_of_ble_eq_true rfl) (w' := [(h, .inr (2, [.int 0, .ref a1, .ref a2, .ref a3, .ref a4, .ref a5, .ref a6, .ref a7, .ref a8, .ref a9, .null, .int 0, .int 0, .null, .int 0, .int 0, .int 0, .int 0, .null, .null])), (a1, .inl (cI, 4200, .inl (fun _ => 0))), (a2, .inl (cI, 4200, .inl (fun _ => 0))), (a3, .inl (cI, 4200, .inl (fun _ => 0))), (a4, .inl (cI, 4200, .inl (fun _ => 0))), (a5, .inl (cI, 4200, .inl (fun _ => 0))), (a6, .inl (cI, 4200, .inl (fun _ => 0))), (a7, .inl (cI, 4200, .inl (fun _ => 0))), (a8, .inl (cI, 4200, .inl (fun _ => 0))), (a9, .inl (cI, 10, .inl (gFill 10)))]) rfl dX2_init_125 (fun H locs hI => ?_)
  refine lv_aload_n hx hb dX2_init_128 rfl (lv_at hl 0 rfl) ?_
  refine lv_bipush (v := 10) hx hb dX2_init_129 (by decide) ?_
  refine gNewa hX (hts (.arrayClass .int) (by decide +kernel)) hK hI hA (by decide) (show (10 : Int32).toNatClampNeg = 10 by decide) (by decide) (Nat.le_of_ble_eq_true rfl) (Nat.le_of_ble_eq_true rfl) dX2_init_131 (fun a10 cA H hK hI => ?_)
  obtain rfl := gK_int hK 0 1 rfl rfl
  have hK := hK.sub (tys' := [(cI, .int)]) [0] rfl
  have hI : InW D A s.heap [(h, .inr (2, [.int 0, .ref a1, .ref a2, .ref a3, .ref a4, .ref a5, .ref a6, .ref a7, .ref a8, .ref a9, .null, .int 0, .int 0, .null, .int 0, .int 0, .int 0, .int 0, .null, .null])), (a1, .inl (cI, 4200, .inl (fun _ => 0))), (a2, .inl (cI, 4200, .inl (fun _ => 0))), (a3, .inl (cI, 4200, .inl (fun _ => 0))), (a4, .inl (cI, 4200, .inl (fun _ => 0))), (a5, .inl (cI, 4200, .inl (fun _ => 0))), (a6, .inl (cI, 4200, .inl (fun _ => 0))), (a7, .inl (cI, 4200, .inl (fun _ => 0))), (a8, .inl (cI, 4200, .inl (fun _ => 0))), (a9, .inl (cI, 10, .inl (gFill 10))), (a10, .inl (cI, 10, .inl (fun _ => 0)))] H _ := hI
  refine lv_dup hx hb dX2_init_133 rfl ?_
  refine lv_iconst (v := 0) hx hb dX2_init_134 (by decide) ?_
  refine lv_iconst (v := -1) hx hb dX2_init_135 (by decide) ?_
  refine gAst (j := 0) (w' := [(h, .inr (2, [.int 0, .ref a1, .ref a2, .ref a3, .ref a4, .ref a5, .ref a6, .ref a7, .ref a8, .ref a9, .null, .int 0, .int 0, .null, .int 0, .int 0, .int 0, .int 0, .null, .null])), (a1, .inl (cI, 4200, .inl (fun _ => 0))), (a2, .inl (cI, 4200, .inl (fun _ => 0))), (a3, .inl (cI, 4200, .inl (fun _ => 0))), (a4, .inl (cI, 4200, .inl (fun _ => 0))), (a5, .inl (cI, 4200, .inl (fun _ => 0))), (a6, .inl (cI, 4200, .inl (fun _ => 0))), (a7, .inl (cI, 4200, .inl (fun _ => 0))), (a8, .inl (cI, 4200, .inl (fun _ => 0))), (a9, .inl (cI, 10, .inl (gFill 10))), (a10, .inl (cI, 10, .inl (gFill 1)))]) hX hK hI 10 0 rfl rfl rfl (by decide) (by decide) rfl dX2_init_136 (fun H locs hI => ?_)
  refine lv_dup hx hb dX2_init_137 rfl ?_
  refine lv_iconst (v := 1) hx hb dX2_init_138 (by decide) ?_
  refine lv_iconst (v := -1) hx hb dX2_init_139 (by decide) ?_
  refine gAst (j := 1) (w' := [(h, .inr (2, [.int 0, .ref a1, .ref a2, .ref a3, .ref a4, .ref a5, .ref a6, .ref a7, .ref a8, .ref a9, .null, .int 0, .int 0, .null, .int 0, .int 0, .int 0, .int 0, .null, .null])), (a1, .inl (cI, 4200, .inl (fun _ => 0))), (a2, .inl (cI, 4200, .inl (fun _ => 0))), (a3, .inl (cI, 4200, .inl (fun _ => 0))), (a4, .inl (cI, 4200, .inl (fun _ => 0))), (a5, .inl (cI, 4200, .inl (fun _ => 0))), (a6, .inl (cI, 4200, .inl (fun _ => 0))), (a7, .inl (cI, 4200, .inl (fun _ => 0))), (a8, .inl (cI, 4200, .inl (fun _ => 0))), (a9, .inl (cI, 10, .inl (gFill 10))), (a10, .inl (cI, 10, .inl (gFill 2)))]) hX hK hI 10 0 rfl rfl rfl (by decide) (by decide) rfl dX2_init_140 (fun H locs hI => ?_)
  refine lv_dup hx hb dX2_init_141 rfl ?_
  refine lv_iconst (v := 2) hx hb dX2_init_142 (by decide) ?_
  refine lv_iconst (v := -1) hx hb dX2_init_143 (by decide) ?_
  refine gAst (j := 2) (w' := [(h, .inr (2, [.int 0, .ref a1, .ref a2, .ref a3, .ref a4, .ref a5, .ref a6, .ref a7, .ref a8, .ref a9, .null, .int 0, .int 0, .null, .int 0, .int 0, .int 0, .int 0, .null, .null])), (a1, .inl (cI, 4200, .inl (fun _ => 0))), (a2, .inl (cI, 4200, .inl (fun _ => 0))), (a3, .inl (cI, 4200, .inl (fun _ => 0))), (a4, .inl (cI, 4200, .inl (fun _ => 0))), (a5, .inl (cI, 4200, .inl (fun _ => 0))), (a6, .inl (cI, 4200, .inl (fun _ => 0))), (a7, .inl (cI, 4200, .inl (fun _ => 0))), (a8, .inl (cI, 4200, .inl (fun _ => 0))), (a9, .inl (cI, 10, .inl (gFill 10))), (a10, .inl (cI, 10, .inl (gFill 3)))]) hX hK hI 10 0 rfl rfl rfl (by decide) (by decide) rfl dX2_init_144 (fun H locs hI => ?_)
  refine lv_dup hx hb dX2_init_145 rfl ?_
  refine lv_iconst (v := 3) hx hb dX2_init_146 (by decide) ?_
  refine lv_iconst (v := -1) hx hb dX2_init_147 (by decide) ?_
  refine gAst (j := 3) (w' := [(h, .inr (2, [.int 0, .ref a1, .ref a2, .ref a3, .ref a4, .ref a5, .ref a6, .ref a7, .ref a8, .ref a9, .null, .int 0, .int 0, .null, .int 0, .int 0, .int 0, .int 0, .null, .null])), (a1, .inl (cI, 4200, .inl (fun _ => 0))), (a2, .inl (cI, 4200, .inl (fun _ => 0))), (a3, .inl (cI, 4200, .inl (fun _ => 0))), (a4, .inl (cI, 4200, .inl (fun _ => 0))), (a5, .inl (cI, 4200, .inl (fun _ => 0))), (a6, .inl (cI, 4200, .inl (fun _ => 0))), (a7, .inl (cI, 4200, .inl (fun _ => 0))), (a8, .inl (cI, 4200, .inl (fun _ => 0))), (a9, .inl (cI, 10, .inl (gFill 10))), (a10, .inl (cI, 10, .inl (gFill 4)))]) hX hK hI 10 0 rfl rfl rfl (by decide) (by decide) rfl dX2_init_148 (fun H locs hI => ?_)
  refine lv_dup hx hb dX2_init_149 rfl ?_
  refine lv_iconst (v := 4) hx hb dX2_init_150 (by decide) ?_
  refine lv_iconst (v := -1) hx hb dX2_init_151 (by decide) ?_
  refine gAst (j := 4) (w' := [(h, .inr (2, [.int 0, .ref a1, .ref a2, .ref a3, .ref a4, .ref a5, .ref a6, .ref a7, .ref a8, .ref a9, .null, .int 0, .int 0, .null, .int 0, .int 0, .int 0, .int 0, .null, .null])), (a1, .inl (cI, 4200, .inl (fun _ => 0))), (a2, .inl (cI, 4200, .inl (fun _ => 0))), (a3, .inl (cI, 4200, .inl (fun _ => 0))), (a4, .inl (cI, 4200, .inl (fun _ => 0))), (a5, .inl (cI, 4200, .inl (fun _ => 0))), (a6, .inl (cI, 4200, .inl (fun _ => 0))), (a7, .inl (cI, 4200, .inl (fun _ => 0))), (a8, .inl (cI, 4200, .inl (fun _ => 0))), (a9, .inl (cI, 10, .inl (gFill 10))), (a10, .inl (cI, 10, .inl (gFill 5)))]) hX hK hI 10 0 rfl rfl rfl (by decide) (by decide) rfl dX2_init_152 (fun H locs hI => ?_)
  refine lv_dup hx hb dX2_init_153 rfl ?_
  refine lv_iconst (v := 5) hx hb dX2_init_154 (by decide) ?_
  refine lv_iconst (v := -1) hx hb dX2_init_155 (by decide) ?_
  refine gAst (j := 5) (w' := [(h, .inr (2, [.int 0, .ref a1, .ref a2, .ref a3, .ref a4, .ref a5, .ref a6, .ref a7, .ref a8, .ref a9, .null, .int 0, .int 0, .null, .int 0, .int 0, .int 0, .int 0, .null, .null])), (a1, .inl (cI, 4200, .inl (fun _ => 0))), (a2, .inl (cI, 4200, .inl (fun _ => 0))), (a3, .inl (cI, 4200, .inl (fun _ => 0))), (a4, .inl (cI, 4200, .inl (fun _ => 0))), (a5, .inl (cI, 4200, .inl (fun _ => 0))), (a6, .inl (cI, 4200, .inl (fun _ => 0))), (a7, .inl (cI, 4200, .inl (fun _ => 0))), (a8, .inl (cI, 4200, .inl (fun _ => 0))), (a9, .inl (cI, 10, .inl (gFill 10))), (a10, .inl (cI, 10, .inl (gFill 6)))]) hX hK hI 10 0 rfl rfl rfl (by decide) (by decide) rfl dX2_init_156 (fun H locs hI => ?_)
  refine lv_dup hx hb dX2_init_157 rfl ?_
  refine lv_bipush (v := 6) hx hb dX2_init_158 (by decide) ?_
  refine lv_iconst (v := -1) hx hb dX2_init_160 (by decide) ?_
  refine gAst (j := 6) (w' := [(h, .inr (2, [.int 0, .ref a1, .ref a2, .ref a3, .ref a4, .ref a5, .ref a6, .ref a7, .ref a8, .ref a9, .null, .int 0, .int 0, .null, .int 0, .int 0, .int 0, .int 0, .null, .null])), (a1, .inl (cI, 4200, .inl (fun _ => 0))), (a2, .inl (cI, 4200, .inl (fun _ => 0))), (a3, .inl (cI, 4200, .inl (fun _ => 0))), (a4, .inl (cI, 4200, .inl (fun _ => 0))), (a5, .inl (cI, 4200, .inl (fun _ => 0))), (a6, .inl (cI, 4200, .inl (fun _ => 0))), (a7, .inl (cI, 4200, .inl (fun _ => 0))), (a8, .inl (cI, 4200, .inl (fun _ => 0))), (a9, .inl (cI, 10, .inl (gFill 10))), (a10, .inl (cI, 10, .inl (gFill 7)))]) hX hK hI 10 0 rfl rfl rfl (by decide) (by decide) rfl dX2_init_161 (fun H locs hI => ?_)
  refine lv_dup hx hb dX2_init_162 rfl ?_
  refine lv_bipush (v := 7) hx hb dX2_init_163 (by decide) ?_
  refine lv_iconst (v := -1) hx hb dX2_init_165 (by decide) ?_
  refine gAst (j := 7) (w' := [(h, .inr (2, [.int 0, .ref a1, .ref a2, .ref a3, .ref a4, .ref a5, .ref a6, .ref a7, .ref a8, .ref a9, .null, .int 0, .int 0, .null, .int 0, .int 0, .int 0, .int 0, .null, .null])), (a1, .inl (cI, 4200, .inl (fun _ => 0))), (a2, .inl (cI, 4200, .inl (fun _ => 0))), (a3, .inl (cI, 4200, .inl (fun _ => 0))), (a4, .inl (cI, 4200, .inl (fun _ => 0))), (a5, .inl (cI, 4200, .inl (fun _ => 0))), (a6, .inl (cI, 4200, .inl (fun _ => 0))), (a7, .inl (cI, 4200, .inl (fun _ => 0))), (a8, .inl (cI, 4200, .inl (fun _ => 0))), (a9, .inl (cI, 10, .inl (gFill 10))), (a10, .inl (cI, 10, .inl (gFill 8)))]) hX hK hI 10 0 rfl rfl rfl (by decide) (by decide) rfl dX2_init_166 (fun H locs hI => ?_)
  refine lv_dup hx hb dX2_init_167 rfl ?_
  refine lv_bipush (v := 8) hx hb dX2_init_168 (by decide) ?_
  refine lv_iconst (v := -1) hx hb dX2_init_170 (by decide) ?_
  refine gAst (j := 8) (w' := [(h, .inr (2, [.int 0, .ref a1, .ref a2, .ref a3, .ref a4, .ref a5, .ref a6, .ref a7, .ref a8, .ref a9, .null, .int 0, .int 0, .null, .int 0, .int 0, .int 0, .int 0, .null, .null])), (a1, .inl (cI, 4200, .inl (fun _ => 0))), (a2, .inl (cI, 4200, .inl (fun _ => 0))), (a3, .inl (cI, 4200, .inl (fun _ => 0))), (a4, .inl (cI, 4200, .inl (fun _ => 0))), (a5, .inl (cI, 4200, .inl (fun _ => 0))), (a6, .inl (cI, 4200, .inl (fun _ => 0))), (a7, .inl (cI, 4200, .inl (fun _ => 0))), (a8, .inl (cI, 4200, .inl (fun _ => 0))), (a9, .inl (cI, 10, .inl (gFill 10))), (a10, .inl (cI, 10, .inl (gFill 9)))]) hX hK hI 10 0 rfl rfl rfl (by decide) (by decide) rfl dX2_init_171 (fun H locs hI => ?_)
  refine lv_dup hx hb dX2_init_172 rfl ?_
  refine lv_bipush (v := 9) hx hb dX2_init_173 (by decide) ?_
  refine lv_iconst (v := -1) hx hb dX2_init_175 (by decide) ?_
  refine gAst (j := 9) (w' := [(h, .inr (2, [.int 0, .ref a1, .ref a2, .ref a3, .ref a4, .ref a5, .ref a6, .ref a7, .ref a8, .ref a9, .null, .int 0, .int 0, .null, .int 0, .int 0, .int 0, .int 0, .null, .null])), (a1, .inl (cI, 4200, .inl (fun _ => 0))), (a2, .inl (cI, 4200, .inl (fun _ => 0))), (a3, .inl (cI, 4200, .inl (fun _ => 0))), (a4, .inl (cI, 4200, .inl (fun _ => 0))), (a5, .inl (cI, 4200, .inl (fun _ => 0))), (a6, .inl (cI, 4200, .inl (fun _ => 0))), (a7, .inl (cI, 4200, .inl (fun _ => 0))), (a8, .inl (cI, 4200, .inl (fun _ => 0))), (a9, .inl (cI, 10, .inl (gFill 10))), (a10, .inl (cI, 10, .inl (gFill 10)))]) hX hK hI 10 0 rfl rfl rfl (by decide) (by decide) rfl dX2_init_176 (fun H locs hI => ?_)
  refine gPutF (ci := 2) hX hin2 tyX2 tyX2_ok nmX2 hK hI 0 rfl rfl 10 (by decide) (hts (.fieldLink RX2 37 "GateHallsModel" "parents" "[I") (by decide +kernel)) rfl hnm rfl rfl rfl (Nat.le_of_ble_eq_true rfl) (w' := [(h, .inr (2, [.int 0, .ref a1, .ref a2, .ref a3, .ref a4, .ref a5, .ref a6, .ref a7, .ref a8, .ref a9, .ref a10, .int 0, .int 0, .null, .int 0, .int 0, .int 0, .int 0, .null, .null])), (a1, .inl (cI, 4200, .inl (fun _ => 0))), (a2, .inl (cI, 4200, .inl (fun _ => 0))), (a3, .inl (cI, 4200, .inl (fun _ => 0))), (a4, .inl (cI, 4200, .inl (fun _ => 0))), (a5, .inl (cI, 4200, .inl (fun _ => 0))), (a6, .inl (cI, 4200, .inl (fun _ => 0))), (a7, .inl (cI, 4200, .inl (fun _ => 0))), (a8, .inl (cI, 4200, .inl (fun _ => 0))), (a9, .inl (cI, 10, .inl (gFill 10))), (a10, .inl (cI, 10, .inl (gFill 10)))]) rfl dX2_init_177 (fun H locs hI => ?_)
  refine lv_aload_n hx hb dX2_init_180 rfl (lv_at hl 0 rfl) ?_
  refine lv_bipush (v := 100) hx hb dX2_init_181 (by decide) ?_
  refine gNewa hX (hts (.arrayClass .int) (by decide +kernel)) hK hI hA (by decide) (show (100 : Int32).toNatClampNeg = 100 by decide) (by decide) (Nat.le_of_ble_eq_true rfl) (Nat.le_of_ble_eq_true rfl) dX2_init_183 (fun a13 cA H hK hI => ?_)
  obtain rfl := gK_int hK 0 1 rfl rfl
  have hK := hK.sub (tys' := [(cI, .int)]) [0] rfl
  have hI : InW D A s.heap [(h, .inr (2, [.int 0, .ref a1, .ref a2, .ref a3, .ref a4, .ref a5, .ref a6, .ref a7, .ref a8, .ref a9, .ref a10, .int 0, .int 0, .null, .int 0, .int 0, .int 0, .int 0, .null, .null])), (a1, .inl (cI, 4200, .inl (fun _ => 0))), (a2, .inl (cI, 4200, .inl (fun _ => 0))), (a3, .inl (cI, 4200, .inl (fun _ => 0))), (a4, .inl (cI, 4200, .inl (fun _ => 0))), (a5, .inl (cI, 4200, .inl (fun _ => 0))), (a6, .inl (cI, 4200, .inl (fun _ => 0))), (a7, .inl (cI, 4200, .inl (fun _ => 0))), (a8, .inl (cI, 4200, .inl (fun _ => 0))), (a9, .inl (cI, 10, .inl (gFill 10))), (a10, .inl (cI, 10, .inl (gFill 10))), (a13, .inl (cI, 100, .inl (fun _ => 0)))] H _ := hI
  refine gPutF (ci := 2) hX hin2 tyX2 tyX2_ok nmX2 hK hI 0 rfl rfl 13 (by decide) (hts (.fieldLink RX2 40 "GateHallsModel" "traced" "[I") (by decide +kernel)) rfl hnm rfl rfl rfl (Nat.le_of_ble_eq_true rfl) (w' := [(h, .inr (2, [.int 0, .ref a1, .ref a2, .ref a3, .ref a4, .ref a5, .ref a6, .ref a7, .ref a8, .ref a9, .ref a10, .int 0, .int 0, .ref a13, .int 0, .int 0, .int 0, .int 0, .null, .null])), (a1, .inl (cI, 4200, .inl (fun _ => 0))), (a2, .inl (cI, 4200, .inl (fun _ => 0))), (a3, .inl (cI, 4200, .inl (fun _ => 0))), (a4, .inl (cI, 4200, .inl (fun _ => 0))), (a5, .inl (cI, 4200, .inl (fun _ => 0))), (a6, .inl (cI, 4200, .inl (fun _ => 0))), (a7, .inl (cI, 4200, .inl (fun _ => 0))), (a8, .inl (cI, 4200, .inl (fun _ => 0))), (a9, .inl (cI, 10, .inl (gFill 10))), (a10, .inl (cI, 10, .inl (gFill 10))), (a13, .inl (cI, 100, .inl (fun _ => 0)))]) rfl dX2_init_185 (fun H locs hI => ?_)
  refine lv_aload_n hx hb dX2_init_188 rfl (lv_at hl 0 rfl) ?_
  refine lv_bipush (v := 64) hx hb dX2_init_189 (by decide) ?_
  refine gNewa hX (hts (.arrayClass .int) (by decide +kernel)) hK hI hA (by decide) (show (64 : Int32).toNatClampNeg = 64 by decide) (by decide) (Nat.le_of_ble_eq_true rfl) (Nat.le_of_ble_eq_true rfl) dX2_init_191 (fun a18 cA H hK hI => ?_)
  obtain rfl := gK_int hK 0 1 rfl rfl
  have hK := hK.sub (tys' := [(cI, .int)]) [0] rfl
  have hI : InW D A s.heap [(h, .inr (2, [.int 0, .ref a1, .ref a2, .ref a3, .ref a4, .ref a5, .ref a6, .ref a7, .ref a8, .ref a9, .ref a10, .int 0, .int 0, .ref a13, .int 0, .int 0, .int 0, .int 0, .null, .null])), (a1, .inl (cI, 4200, .inl (fun _ => 0))), (a2, .inl (cI, 4200, .inl (fun _ => 0))), (a3, .inl (cI, 4200, .inl (fun _ => 0))), (a4, .inl (cI, 4200, .inl (fun _ => 0))), (a5, .inl (cI, 4200, .inl (fun _ => 0))), (a6, .inl (cI, 4200, .inl (fun _ => 0))), (a7, .inl (cI, 4200, .inl (fun _ => 0))), (a8, .inl (cI, 4200, .inl (fun _ => 0))), (a9, .inl (cI, 10, .inl (gFill 10))), (a10, .inl (cI, 10, .inl (gFill 10))), (a13, .inl (cI, 100, .inl (fun _ => 0))), (a18, .inl (cI, 64, .inl (fun _ => 0)))] H _ := hI
  refine gPutF (ci := 2) hX hin2 tyX2 tyX2_ok nmX2 hK hI 0 rfl rfl 18 (by decide) (hts (.fieldLink RX2 43 "GateHallsModel" "row" "[I") (by decide +kernel)) rfl hnm rfl rfl rfl (Nat.le_of_ble_eq_true rfl) (w' := [(h, .inr (2, [.int 0, .ref a1, .ref a2, .ref a3, .ref a4, .ref a5, .ref a6, .ref a7, .ref a8, .ref a9, .ref a10, .int 0, .int 0, .ref a13, .int 0, .int 0, .int 0, .int 0, .ref a18, .null])), (a1, .inl (cI, 4200, .inl (fun _ => 0))), (a2, .inl (cI, 4200, .inl (fun _ => 0))), (a3, .inl (cI, 4200, .inl (fun _ => 0))), (a4, .inl (cI, 4200, .inl (fun _ => 0))), (a5, .inl (cI, 4200, .inl (fun _ => 0))), (a6, .inl (cI, 4200, .inl (fun _ => 0))), (a7, .inl (cI, 4200, .inl (fun _ => 0))), (a8, .inl (cI, 4200, .inl (fun _ => 0))), (a9, .inl (cI, 10, .inl (gFill 10))), (a10, .inl (cI, 10, .inl (gFill 10))), (a13, .inl (cI, 100, .inl (fun _ => 0))), (a18, .inl (cI, 64, .inl (fun _ => 0)))]) rfl dX2_init_193 (fun H locs hI => ?_)
  refine lv_aload_n hx hb dX2_init_196 rfl (lv_at hl 0 rfl) ?_
  refine lv_bipush (v := 10) hx hb dX2_init_197 (by decide) ?_
  refine gNewa hX (hts (.arrayClass .int) (by decide +kernel)) hK hI hA (by decide) (show (10 : Int32).toNatClampNeg = 10 by decide) (by decide) (Nat.le_of_ble_eq_true rfl) (Nat.le_of_ble_eq_true rfl) dX2_init_199 (fun a19 cA H hK hI => ?_)
  obtain rfl := gK_int hK 0 1 rfl rfl
  have hK := hK.sub (tys' := [(cI, .int)]) [0] rfl
  have hI : InW D A s.heap [(h, .inr (2, [.int 0, .ref a1, .ref a2, .ref a3, .ref a4, .ref a5, .ref a6, .ref a7, .ref a8, .ref a9, .ref a10, .int 0, .int 0, .ref a13, .int 0, .int 0, .int 0, .int 0, .ref a18, .null])), (a1, .inl (cI, 4200, .inl (fun _ => 0))), (a2, .inl (cI, 4200, .inl (fun _ => 0))), (a3, .inl (cI, 4200, .inl (fun _ => 0))), (a4, .inl (cI, 4200, .inl (fun _ => 0))), (a5, .inl (cI, 4200, .inl (fun _ => 0))), (a6, .inl (cI, 4200, .inl (fun _ => 0))), (a7, .inl (cI, 4200, .inl (fun _ => 0))), (a8, .inl (cI, 4200, .inl (fun _ => 0))), (a9, .inl (cI, 10, .inl (gFill 10))), (a10, .inl (cI, 10, .inl (gFill 10))), (a13, .inl (cI, 100, .inl (fun _ => 0))), (a18, .inl (cI, 64, .inl (fun _ => 0))), (a19, .inl (cI, 10, .inl (fun _ => 0)))] H _ := hI
  refine gPutF (ci := 2) hX hin2 tyX2 tyX2_ok nmX2 hK hI 0 rfl rfl 19 (by decide) (hts (.fieldLink RX2 46 "GateHallsModel" "path" "[I") (by decide +kernel)) rfl hnm rfl rfl rfl (Nat.le_of_ble_eq_true rfl) (w' := [(h, .inr (2, [.int 0, .ref a1, .ref a2, .ref a3, .ref a4, .ref a5, .ref a6, .ref a7, .ref a8, .ref a9, .ref a10, .int 0, .int 0, .ref a13, .int 0, .int 0, .int 0, .int 0, .ref a18, .ref a19])), (a1, .inl (cI, 4200, .inl (fun _ => 0))), (a2, .inl (cI, 4200, .inl (fun _ => 0))), (a3, .inl (cI, 4200, .inl (fun _ => 0))), (a4, .inl (cI, 4200, .inl (fun _ => 0))), (a5, .inl (cI, 4200, .inl (fun _ => 0))), (a6, .inl (cI, 4200, .inl (fun _ => 0))), (a7, .inl (cI, 4200, .inl (fun _ => 0))), (a8, .inl (cI, 4200, .inl (fun _ => 0))), (a9, .inl (cI, 10, .inl (gFill 10))), (a10, .inl (cI, 10, .inl (gFill 10))), (a13, .inl (cI, 100, .inl (fun _ => 0))), (a18, .inl (cI, 64, .inl (fun _ => 0))), (a19, .inl (cI, 10, .inl (fun _ => 0)))]) rfl dX2_init_201 (fun H locs hI => ?_)
  obtain ⟨q, hq⟩ : ∃ q : Nat → Nat, q = fun k => if k = 1 then a1 else if k = 2 then a2 else if k = 3 then a3 else if k = 4 then a4 else if k = 5 then a5 else if k = 6 then a6 else if k = 7 then a7 else if k = 8 then a8 else if k = 9 then a9 else if k = 10 then a10 else if k = 13 then a13 else if k = 18 then a18 else a19 := ⟨_, rfl⟩
  have hI : InW D A s.heap (wM h q cI (fun _ => 0) g0) H locs := by
    rw [hq]
    exact hI
  exact W.vret hx hb hr (fun t ht hW => ⟨⟨(q, cI), rfl, trivial, ⟨by rw [ht]; exact hI.1, hI.2.1⟩, va_K.moved hW.alike hK⟩, hI.2.2.F ht⟩) hI.2.2.2.2 dX2_init_204 hlk
end
section
/-! THE CLAIM OUT OF ONE WALK OF THE LAW'S BODY. Your part is whole_start (and what it stands on); all else here is the same for every law, but numbers. -/
def R_law : String := "GateHallsLaw"
def lw_P (b : Addr) (xs : List Int32) (args : Array Value) (s : State) : Prop := args = #[.ref b] ∧ s.IntsAt b xs ∧ xs.length ≤ 2048 ∧ (Jvm.Cond.and given_1 narrow_1).before args s = true
def lw_Q (_ : Array Value) (s : State) (o : Outcome) (t : State) : Prop := o = .returned (some (.int 1)) ∧ Framed s o t [] 600000 7302250
def lw_Z (below : List Frame) (a : Array Value) (s : State) : State → Prop := fun t => ∃ o, t.status = .running ∧ Ended t below o ∧ lw_Q a s o t
/-- the law's own end, with 1 on the stack, nothing written that was there before, its room as the claim has it -/
theorem lw_ret {p : Program} {l : Launch} {e : Env} {s : State} {m : MethodId} {below : List Frame} {meth : Method} {c : Code} {b : Nat} (hx : p.tables.exec = Jvm.exec) (hb : c.code = code) (hr : meth.sig.returnType = ret) (hlocks : meth.locks = false) {pc : Nat} {H : Heap} {ls : Array Slot} (hdg : decode code pc = .ok (.ireturn, 1)) : W p l e room_1 s m #[Value.ref b] below meth c H [] 600000 7302250 (lw_Z below #[Value.ref b] s) (F0 m pc ls [.int 1]) := by
  intro T hT X
  obtain ⟨fs, hret, hrun, hended, hW, hframe⟩ := X.leave (v := some (.int 1)) (hlocks := hlocks) (fun h => by rw [hr] at h; cases h)
  have hmeth' : T.vm.method? m = some meth := X.method'
  refine ⟨T.setFrames fs, ?_, .returned (some (.int 1)), hrun, hended, rfl, ⟨_, rfl⟩, hW, hframe⟩
  jvm_step X.here [X.here.top, hx, hb, hdg, hmeth', hr, ret, narrow_b1]
  (try refine ⟨rfl, ?_⟩); (try refine ⟨rfl, ?_⟩)
  first | (intro acts; rw [hret _ acts rfl rfl rfl]) | rw [hret _ _ rfl rfl rfl]
  exact Steps.refl _
/-- what holds at the law's entry: the machine, the code, the tables' words (any of lw_tbl by 'hts w (by decide +kernel)'), the script of L ints xs at the cell b, what the Statement gives of the start (any of its parts by flat_of_before) -/
def lw_At (p : Program) (s : State) (m : MethodId) (meth : Method) (c : Code) (b L : Nat) (xs : Nat → Int32) : Prop :=
  p.tables.exec = Jvm.exec ∧ c.code = code ∧ meth.sig.returnType = ret ∧ c.maxLocals = 4 ∧ s.vm.findClass R_law = some m.cls ∧ (∀ w ∈ lw_tbl, w.before #[Value.ref b] s = true) ∧ va_X b L xs s s.heap ∧ b < s.heap.size ∧ meth.locks = false ∧ (Jvm.Cond.and given_1 narrow_1).before #[Value.ref b] s = true
/-! two worlds side by side -/
theorem InW_left {D : va_G} {A : Nat → Prop} {H0 : Heap} {w1 w2 : va_W} {H : Heap} {locs : List Loc} (hI : InW D A H0 (w1 ++ w2) H locs) : InW D A H0 w1 H locs := by
  have key : ∀ (k : Nat) (q : Nat × va_E), w1[k]? = some q → (w1 ++ w2)[k]? = some q := fun k q h => by
    rw [List.getElem?_append_left (List.getElem?_eq_some_iff.mp h).1]; exact h
  exact ⟨fun k q h => hI.1 k q (key k q h), ⟨fun i j x y hx hy e => hI.2.1.1 i j x y (key i x hx) (key j y hy) e, fun k q h => hI.2.1.2 k q (key k q h)⟩, hI.2.2⟩
theorem InW_rightk {w1 w2 : va_W} (k : Nat) (q : Nat × va_E) (h : w2[k]? = some q) : (w1 ++ w2)[w1.length + k]? = some q := by
  rw [List.getElem?_append_right (by omega), Nat.add_sub_cancel_left]; exact h
theorem InW_right {D : va_G} {A : Nat → Prop} {H0 : Heap} {w1 w2 : va_W} {H : Heap} {locs : List Loc} (hI : InW D A H0 (w1 ++ w2) H locs) : InW D A H0 w2 H locs :=
  ⟨fun k q h => hI.1 _ q (InW_rightk k q h), ⟨fun i j x y hx hy e => by
    have := hI.2.1.1 _ _ x y (InW_rightk i x hx) (InW_rightk j y hy) e
    omega, fun k q h => hI.2.1.2 _ q (InW_rightk k q h)⟩, hI.2.2⟩
theorem InW_apart {D : va_G} {A : Nat → Prop} {H0 : Heap} {w1 w2 : va_W} {H : Heap} {locs : List Loc} (hI : InW D A H0 (w1 ++ w2) H locs) {i j : Nat} {x y : Nat × va_E} (hx : w1[i]? = some x) (hy : w2[j]? = some y) : x.1 ≠ y.1 := fun e => by
  have hl := (List.getElem?_eq_some_iff.mp hx).1
  have h1 : (w1 ++ w2)[i]? = some x := by rw [List.getElem?_append_left hl]; exact hx
  have := hI.2.1.1 i (w1.length + j) x y h1 (InW_rightk j y hy) e
  omega
/-- behind a call over the first world -/
theorem gJoinL {D : va_G} {A : Nat → Prop} {H0 : Heap} {w1 w2 u : va_W} {H H1 : Heap} {locs : List Loc} (hI : InW D A H0 (w1 ++ w2) H locs) (hA : ∀ q, H0.size ≤ q → A q) (hk : ∀ q : Nat, q < H.size → ¬ va_A w1 H.size q → H1[q]? = H[q]?) (hP : va_P D vwCl u H1) (hD : va_D (va_A w1 H.size) u) : va_P D vwCl (u ++ w2) H1 ∧ va_D A (u ++ w2) := by
  have hF := gFree (InW_left hI) hA
  have out : ∀ (k : Nat) (q : Nat × va_E), w2[k]? = some q → q.1 < H.size ∧ ¬ va_A w1 H.size q.1 := fun k q hq => by
    have hlt := ((InW_right hI).1 k q hq).lt
    refine ⟨hlt, fun h => ?_⟩
    rcases h with ⟨i, e, h⟩ | h
    · exact InW_apart hI h hq rfl
    · omega
  refine ⟨va_P.app hP (fun k q hq => ((InW_right hI).1 k q hq).kept (hk q.1 (out k q hq).1 (out k q hq).2)), va_D.app (hD.weaken (fun _ q _ h => hF q.1 h)) (InW_right hI).2.1 (fun i j x y hx hy e => ?_)⟩
  exact (out j y hy).2 (by rw [← e]; exact hD.2 i x hx)
/-- behind a call over the second -/
theorem gJoinR {D : va_G} {A : Nat → Prop} {H0 : Heap} {w1 w2 u : va_W} {H H1 : Heap} {locs : List Loc} (hI : InW D A H0 (w1 ++ w2) H locs) (hA : ∀ q, H0.size ≤ q → A q) (hk : ∀ q : Nat, q < H.size → ¬ va_A w2 H.size q → H1[q]? = H[q]?) (hP : va_P D vwCl u H1) (hD : va_D (va_A w2 H.size) u) : va_P D vwCl (w1 ++ u) H1 ∧ va_D A (w1 ++ u) := by
  have hF := gFree (InW_right hI) hA
  have out : ∀ (k : Nat) (q : Nat × va_E), w1[k]? = some q → q.1 < H.size ∧ ¬ va_A w2 H.size q.1 := fun k q hq => by
    have hlt := ((InW_left hI).1 k q hq).lt
    refine ⟨hlt, fun h => ?_⟩
    rcases h with ⟨i, e, h⟩ | h
    · exact InW_apart hI hq h rfl
    · omega
  refine ⟨va_P.app (fun k q hq => ((InW_left hI).1 k q hq).kept (hk q.1 (out k q hq).1 (out k q hq).2)) hP, va_D.app (InW_left hI).2.1 (hD.weaken (fun _ q _ h => hF q.1 h)) (fun i j x y hx hy e => ?_)⟩
  exact (out i x hx).2 (by rw [e]; exact hD.2 j y hy)
section LC
variable {p : Program} {l : Launch} {e : Env} {R : Room} {s : State} {m : MethodId} {args : Array Value} {below : List Frame} {meth : Method} {c : Code} {H : Heap} {locs : List Loc} {cells slots mc ms : Nat} {Q : State → Prop}
variable {cc : ByteArray} {pc nL : Nat} {ls : Array Slot} {rest st0 : List Value} {D : va_G} {A : Nat → Prop} {w1 w2 : va_W} {H0 : Heap} {Ts : List Cond} {own : String} {av : Array Value}
theorem gCallL {post : Int32 → va_W → Prop} (hr : va_Run p l e R s m args below meth c H locs cells slots mc ms (F0 m pc ls st0) rest (va_Qi post (gPost D (va_A w1 H.size)) (va_A w1 H.size) av) (va_A w1 H.size)) (hI : InW D A H0 (w1 ++ w2) H locs) (hA : ∀ q, H0.size ≤ q → A q)
    (kk : ∀ (r : Int32) (u : va_W) (H1 : Heap) (locs1 : List Loc), post r u → InW D A H0 (u ++ w2) H1 locs1 → W p l e R s m args below meth c H1 locs1 (cells + mc) (slots + ms) Q (F0 m (pc + 3) ls (.int r :: rest))) : W p l e R s m args below meth c H locs cells slots Q (F0 m pc ls st0) := by
  have hF := gFree (InW_left hI) hA
  refine va_calli hr hI.2.2 (fun q _ h => hF q h) hF (fun r u t H1 locs1 ht hvm hw hB hz hk hS => ?_)
  obtain ⟨hP1, hD1⟩ := hB
  rw [ht] at hP1
  obtain ⟨h1, h2⟩ := gJoinL hI hA hk hP1 hD1
  exact kk r u H1 locs1 hw ⟨h1, h2, hS⟩
theorem gCallR {post : Int32 → va_W → Prop} (hr : va_Run p l e R s m args below meth c H locs cells slots mc ms (F0 m pc ls st0) rest (va_Qi post (gPost D (va_A w2 H.size)) (va_A w2 H.size) av) (va_A w2 H.size)) (hI : InW D A H0 (w1 ++ w2) H locs) (hA : ∀ q, H0.size ≤ q → A q)
    (kk : ∀ (r : Int32) (u : va_W) (H1 : Heap) (locs1 : List Loc), post r u → InW D A H0 (w1 ++ u) H1 locs1 → W p l e R s m args below meth c H1 locs1 (cells + mc) (slots + ms) Q (F0 m (pc + 3) ls (.int r :: rest))) : W p l e R s m args below meth c H locs cells slots Q (F0 m pc ls st0) := by
  have hF := gFree (InW_right hI) hA
  refine va_calli hr hI.2.2 (fun q _ h => hF q h) hF (fun r u t H1 locs1 ht hvm hw hB hz hk hS => ?_)
  obtain ⟨hP1, hD1⟩ := hB
  rw [ht] at hP1
  obtain ⟨h1, h2⟩ := gJoinR hI hA hk hP1 hD1
  exact kk r u H1 locs1 hw ⟨h1, h2, hS⟩
/-- a read of the script -/
theorem gSld (hX : CallFix p m c cc nL s args Ts own) {b L : Nat} {xs : Nat → Int32} (hXs : va_X b L xs s H0) (hbl : b < H0.size) (hbA : ¬ A b) {w : va_W} (hI : InW D A H0 w H locs) {i : Int32} {j : Nat} (hij : i = nI j) (hj : j < L) (hL : L < 2 ^ 31) (hdg : decode cc pc = .ok (.iaload, 1))
    (kk : W p l e R s m args below meth c H locs cells slots Q (F0 m (pc + 1) ls (.int (xs j) :: rest))) : W p l e R s m args below meth c H locs cells slots Q (F0 m pc ls (.int i :: .ref b :: rest)) := by
  subst hij
  refine va_sld hX.1 hX.2.1 hXs hbl hbA hI.2.2 (vp_in_nI hj hL) hdg ?_
  rw [nI_clamp (by omega)]
  exact kk
end LC
/-! the invariant over the calls -/
theorem gI_sHall {n w : Nat} {σ : gh_S} {x k f : Int32} (hn : n < 4000) (hg : gI n w σ) : gI (zN n x k f) w (sHall σ x k f).2 := by
  unfold zN sHall
  by_cases hb : x < 0 ∨ 9 < x ∨ k < 0 ∨ 2 < k ∨ f < 0 ∨ 1000 < f
  · rw [if_pos hb, if_pos hb]; exact hg
  · rw [if_neg hb, if_neg hb]
    obtain ⟨a1, a2, a3, a4, a5, a6, a7, a8, a9⟩ := hg
    refine ⟨by show σ.2 0 + 1 = _; rw [a1]; exact nI_1 n, a2, a3, ?_, a5, ?_, by omega, a8, ?_⟩
    · intro j hj
      show (uA (uA (uA σ 1 (σ.2 0).toNatClampNeg k) 2 (σ.2 0).toNatClampNeg f) 9 x.toNatClampNeg (σ.2 0)).1 9 j = -1 ∨ ∃ h : Nat, h < n + 1 ∧ (uA (uA (uA σ 1 (σ.2 0).toNatClampNeg k) 2 (σ.2 0).toNatClampNeg f) 9 x.toNatClampNeg (σ.2 0)).1 9 j = nI h
      rw [uA_ki]
      split
      · exact Or.inr ⟨n, by omega, a1⟩
      · rcases a4 j hj with h | ⟨h, h1, h2⟩
        · exact Or.inl h
        · exact Or.inr ⟨h, by omega, h2⟩
    · intro j hj
      obtain ⟨h, h1, h2⟩ := a6 j hj
      exact ⟨h, by omega, h2⟩
    · intro k' i h3 h8 hi
      show (uA (uA (uA σ 1 _ k) 2 _ f) 9 x.toNatClampNeg (σ.2 0)).1 k' i = 0
      rw [uA_k (by omega), uA_k (by omega), uA_k (by omega)]
      exact a9 k' i h3 h8 (by omega)
theorem gKd_sHall {n w : Nat} {σ : gh_S} {x k f : Int32} (hg : gI n w σ) (hk : gKd n σ) : gKd (zN n x k f) (sHall σ x k f).2 := by
  unfold zN sHall
  by_cases hb : x < 0 ∨ 9 < x ∨ k < 0 ∨ 2 < k ∨ f < 0 ∨ 1000 < f
  · rw [if_pos hb, if_pos hb]; exact hk
  · rw [if_neg hb, if_neg hb]
    have h0 : ¬ k < 0 := fun h => hb (Or.inr (Or.inr (Or.inl h)))
    have h2 : ¬ 2 < k := fun h => hb (Or.inr (Or.inr (Or.inr (Or.inl h))))
    have hn4 := hg.2.2.2.2.2.2.1
    have hnC : (σ.2 0).toNatClampNeg = n := by rw [hg.1]; exact nI_clamp (by omega)
    have hkk : k = 0 ∨ k = 1 ∨ k = 2 := by
      obtain ⟨j, hj, e⟩ := nI_of2 (x := k) (M := 2) (n := 2) (by decide) h0 (by rw [Int32.le_iff_toInt_le]; rw [Int32.lt_iff_toInt_lt] at h2; omega)
      subst e
      rcases (show j = 0 ∨ j = 1 ∨ j = 2 by omega) with rfl | rfl | rfl <;> decide
    intro i hi
    show upd (σ.1 1) (σ.2 0).toNatClampNeg k i = 0 ∨ upd (σ.1 1) (σ.2 0).toNatClampNeg k i = 1 ∨ upd (σ.1 1) (σ.2 0).toNatClampNeg k i = 2
    rw [hnC]
    unfold upd
    by_cases hin : i = n
    · rw [if_pos hin]; exact hkk
    · rw [if_neg hin]; exact hk i (by omega)
theorem gI_sShare {n w : Nat} {σ : gh_S} {x y : Int32} (hg : gI n w σ) : gI n w (sShare σ x y).2 := by
  unfold sShare
  by_cases hb : x < 0 ∨ 9 < x ∨ y < 0 ∨ 9 < y
  · rw [if_pos hb]; exact hg
  · rw [if_neg hb]
    obtain ⟨j, hj, hjE, hjC⟩ := g_pl (x := x) (fun h => hb (Or.inl h)) (fun h => hb (Or.inr (Or.inl h)))
    exact gI_u9 (by rw [hjC]; exact hg.2.2.2.1 j hj) hg
theorem k_share {σ : gh_S} {x y : Int32} : (sShare σ x y).2.1 1 = σ.1 1 := by
  unfold sShare
  split <;> rfl
theorem gI_sParent {n w : Nat} {σ : gh_S} {x y : Int32} (hg : gI n w σ) : gI n w (sParent σ x y).2 := by
  unfold sParent
  by_cases hb : x < 0 ∨ 9 < x ∨ y < -1 ∨ 9 < y
  · rw [if_pos hb]; exact hg
  · rw [if_neg hb]
    have h1 : ¬ y < -1 := fun h => hb (Or.inr (Or.inr (Or.inl h)))
    have h9 : ¬ 9 < y := fun h => hb (Or.inr (Or.inr (Or.inr h)))
    have hy : y = -1 ∨ ∃ i : Nat, i < 10 ∧ y = nI i := by
      by_cases hm : y = -1
      · exact Or.inl hm
      · obtain ⟨i, hi, hiE, -⟩ := g_pl (x := y) (fun h => h1 (g_m1a h hm)) h9
        exact Or.inr ⟨i, hi, hiE⟩
    obtain ⟨a1, a2, a3, a4, a5, a6, a7, a8, a9⟩ := hg
    refine ⟨a1, a2, a3, a4, ?_, a6, a7, a8, ?_⟩
    · intro j hj
      show (uA σ 10 x.toNatClampNeg y).1 10 j = -1 ∨ ∃ i : Nat, i < 10 ∧ (uA σ 10 x.toNatClampNeg y).1 10 j = nI i
      rw [uA_ki]
      split
      · exact hy
      · exact a5 j hj
    · intro k' i h3 h8 hi
      show (uA σ 10 x.toNatClampNeg y).1 k' i = 0
      rw [uA_k (by omega)]
      exact a9 k' i h3 h8 hi
theorem k_parent {σ : gh_S} {x y : Int32} : (sParent σ x y).2.1 1 = σ.1 1 := by
  unfold sParent
  split <;> rfl
theorem gI_sFill {n w : Nat} {σ : gh_S} {x : Int32} (hg : gI n w σ) : gI n w (sFill σ x).2 := by
  unfold sFill
  split
  · exact hg
  · exact gI_uS 11 _ (by decide) (by decide) (by decide) hg
theorem k_fill {σ : gh_S} {x : Int32} : (sFill σ x).2.1 1 = σ.1 1 := by
  unfold sFill
  split <;> rfl
theorem gI_sWalk {n : Nat} {σ : gh_S} {x y z : Int32} (hg : gI n 0 σ) : gI n 0 (sWalk σ x y z).2 := by
  unfold sWalk
  by_cases hb : x < 0 ∨ 9 < x ∨ y < 0 ∨ 7 < y
  · rw [if_pos hb]; exact hg
  · rw [if_neg hb]
    obtain ⟨j, hj, hjE, -⟩ := g_pl (x := x) (fun h => hb (Or.inl h)) (fun h => hb (Or.inr (Or.inl h)))
    exact gI_uS 14 _ (by decide) (by decide) (by decide) (gI_wt 3 0 (by omega) ⟨j, hj, hjE⟩ (gI_begin hg))
theorem k_walk {σ : gh_S} {x y z : Int32} : (sWalk σ x y z).2.1 1 = σ.1 1 := by
  unfold sWalk
  split
  · rfl
  · exact k_wt 3
theorem k_SB {x : Nat} {sum : Int64} : ∀ (f b : Nat) {σ : gh_S}, (zSB x sum f b σ).2.1 1 = σ.1 1
  | 0, _, _ => rfl
  | f + 1, b, σ => by
    unfold zSB
    split
    · exact k_SB f (b + 1)
    · dsimp only
      split
      · rfl
      · split
        · rfl
        · exact k_SB f (b + 1)
theorem k_SA {sum : Int64} : ∀ (f a : Nat) {σ : gh_S}, (zSA sum f a σ).2.1 1 = σ.1 1
  | 0, _, _ => rfl
  | f + 1, a, σ => by
    unfold zSA
    split
    · exact k_SA f (a + 1)
    · dsimp only
      split
      · exact (k_SA f (a + 1)).trans (k_SB _ _)
      · exact k_SB _ _
theorem gI_SA {n w : Nat} {sum : Int64} : ∀ (f a : Nat) {σ : gh_S}, a + f ≤ 10 → gI n w σ → gI n w (zSA sum f a σ).2
  | 0, _, _, _, hg => hg
  | f + 1, a, σ, ha, hg => by
    unfold zSA
    by_cases hno : σ.1 9 a = -1
    · rw [if_pos hno]; exact gI_SA f (a + 1) (by omega) hg
    · rw [if_neg hno]
      obtain ⟨x, hx, hxE⟩ := (hg.2.2.2.1 a (by omega)).resolve_left hno
      have hn4 := hg.2.2.2.2.2.2.1
      have hxC : (σ.1 9 a).toNatClampNeg = x := by rw [hxE]; exact nI_clamp (by omega)
      dsimp only
      rw [hxC]
      have hB := gI_SB (x := x) (sum := sum) (9 - a) (a + 1) (by omega) (gI_ask hx hg)
      split
      · exact gI_SA f (a + 1) (by omega) hB
      · exact hB
end
section
theorem zN_le {n k : Nat} {x y z : Int32} (h : n ≤ k) : zN n x y z ≤ k + 1 := by
  unfold zN
  split <;> omega
set_option maxHeartbeats 40000000 in
set_option maxRecDepth 100000 in
theorem law_loop {p : Program} {l : Launch} {e : Env} {s : State} {m : MethodId} {below : List Frame} {meth : Method} {c : Code} {D : va_G} {cI cH : ClassId} {g h : Nat} {qc qm : Nat → Nat} {b L : Nat} {xs : Nat → Int32} (hL : L ≤ 2048) (C0 : lw_At p s m meth c b L xs) (hK : va_K D vwCl (gTy cI cH) s) (hN : gNw s) :
    ∀ (f k n : Nat) (σ : gh_S) (ad : Nat → Nat) (pc pm : Nat → Int32) (H : Heap) (locs : List Loc) (ls : Array Slot), 4 * k ≤ L → k + f = 513 → n ≤ k → gI n 0 σ → gKd n σ → InW D (fun q : Nat => s.heap.size ≤ q) s.heap (wCn g qc cI cH ad pc n σ ++ wM h qm cI pm σ) H locs → lv_has ls 4 [(0, .ref b), (1, .ref g), (2, .ref h), (3, .int (nI (4 * k)))] → W p l e room_1 s m #[Value.ref b] below meth c H locs (20 + k) (33986 + 9 * k) (lw_Z below #[Value.ref b] s) (F0 m 18 ls []) := by
  obtain ⟨hx, hb, hr, hml, hown0, hts0, hXs, hbl, hlocks, hgv⟩ := C0
  have hA : ∀ q : Nat, s.heap.size ≤ q → (fun q : Nat => s.heap.size ≤ q) q := fun _ h => h
  have hbA : ¬ (fun q : Nat => s.heap.size ≤ q) b := Nat.not_le.mpr hbl
  have hts : ∀ w ∈ wsL_law, w.before #[Value.ref b] s = true := fun w h => hts0 w (wsL_law_in w h)
  have hown : s.vm.findClass RL = some m.cls := hown0
  have hX : CallFix p m c cL_law 4 s #[Value.ref b] wsL_law RL := ⟨hx, hb, hml, hown, hts⟩
  intro f
  induction f with
  | zero =>
    intro k n σ ad pc pm H locs ls h1 h2
    omega
  | succ f ih =>
    intro k n σ ad pc pm H locs ls hkL hkf hnk hg hkd hI hl
    have hL4 : (nI L - 4).toInt = (L : Int) - 4 := pk_sub_toInt (a := L) (b := 4) (by omega) (by omega)
    have hcont : 4 * k + 4 ≤ L → ∀ (n : Nat) (σ : gh_S) (ad : Nat → Nat) (pc pm : Nat → Int32) (H : Heap) (locs : List Loc), n ≤ k + 1 → gI n 0 σ → gKd n σ → InW D (fun q : Nat => s.heap.size ≤ q) s.heap (wCn g qc cI cH ad pc n σ ++ wM h qm cI pm σ) H locs → W p l e room_1 s m #[Value.ref b] below meth c H locs (20 + k + 1) (33986 + 9 * k + 9) (lw_Z below #[Value.ref b] s) (F0 m 418 ls []) := by
      intro hk4 n σ ad pc pm H locs hnk hg hkd hI
      obtain ⟨x1, ex1⟩ : ∃ y : Int32, y = nI (4 * k) + 4 := ⟨_, rfl⟩
      refine lv_iinc (v := x1) (lv' := [(3, .int (x1)), (0, .ref b), (1, .ref g), (2, .ref h)]) hx hb dL_law_418 hl (k := 3) rfl (by rw [ex1]; rfl) (by decide) rfl (fun ls hl => ?_)
      refine lv_goto (tgt := 18) hx hb dL_law_421 (by decide) ?_
      have hx4 : x1 = nI (4 * (k + 1)) := by rw [ex1, show (4 : Int32) = nI 4 from rfl, nI_add]; rfl
      rw [hx4] at hl
      exact ih (k + 1) n σ ad pc pm H locs ls (by omega) (by omega) hnk hg hkd hI (lv_sub hl [1, 2, 3, 0] rfl)
    refine lv_iload_n hx hb dL_law_18 rfl (lv_at hl 3 rfl) ?_
    refine lv_aload_n hx hb dL_law_19 rfl (lv_at hl 0 rfl) ?_
    refine va_slen hx hb hXs hbl hbA hI.2.2 dL_law_20 ?_
    refine lv_iconst (v := 4) hx hb dL_law_21 (by decide) ?_
    refine lv_isub hx hb dL_law_22 ?_
    refine lv_icmp_gt (tgt := 424) hx hb dL_law_23 (by decide) (fun c0 => ?_) (fun c0 => ?_)
    · refine lv_iconst (v := 1) hx hb dL_law_424 (by decide) ?_
      refine va_forget (fun q hq => hI.2.2.2.2 q hq) ?_
      refine W.widen (k := 600000) (n := 7302250) (by omega) (by omega) ?_
      exact lw_ret hx hb hr hlocks dL_law_425
    · have hk4 : 4 * k + 4 ≤ L := by
        rw [Int32.lt_iff_toInt_lt, nI_toInt (by omega)] at c0
        have c1 : ¬ (nI L - 4).toInt < ((4 * k : Nat) : Int) := c0
        rw [hL4] at c1
        omega
      refine lv_aload_n hx hb dL_law_26 rfl (lv_at hl 0 rfl) ?_
      refine lv_iload_n hx hb dL_law_27 rfl (lv_at hl 3 rfl) ?_
      refine gSld (j := 4 * k) hX hXs hbl hbA hI rfl (by omega) (by omega) dL_law_28 ?_
      refine lv_bipush (v := 15) hx hb dL_law_29 (by decide) ?_
      refine lv_iand hx hb dL_law_31 ?_
      obtain ⟨t, ht, htE⟩ : ∃ t : Nat, t < 2 ^ 4 ∧ xs (4 * k) &&& 15 = nI t := pk_andE (xs (4 * k)) (m := 15) 4 (by decide)
      rcases (show t = 0 ∨ t = 1 ∨ t = 2 ∨ t = 3 ∨ t = 4 ∨ t = 5 ∨ t = 6 ∨ t = 7 ∨ t = 8 ∨ t = 9 ∨ 10 ≤ t by omega) with rfl | rfl | rfl | rfl | rfl | rfl | rfl | rfl | rfl | rfl | ht10
      · refine gTop (y := nI 0) htE ?_
        refine lv_tableIn (tgt := 88) (off := 56) hx hb dL_law_32 (by decide) (by decide) (by decide) (by decide) ?_
        refine lv_aload_n hx hb dL_law_88 rfl (lv_at hl 1 rfl) ?_
        refine lv_aload_n hx hb dL_law_89 rfl (lv_at hl 0 rfl) ?_
        refine lv_iload_n hx hb dL_law_90 rfl (lv_at hl 3 rfl) ?_
        refine lv_iconst (v := 1) hx hb dL_law_91 (by decide) ?_
        refine lv_iadd hx hb dL_law_92 ?_
        refine gSld (j := 4 * k + 1) hX hXs hbl hbA hI (nI_add (4 * k) 1) (by omega) (by omega) dL_law_93 ?_
        refine lv_aload_n hx hb dL_law_94 rfl (lv_at hl 0 rfl) ?_
        refine lv_iload_n hx hb dL_law_95 rfl (lv_at hl 3 rfl) ?_
        refine lv_iconst (v := 2) hx hb dL_law_96 (by decide) ?_
        refine lv_iadd hx hb dL_law_97 ?_
        refine gSld (j := 4 * k + 2) hX hXs hbl hbA hI (nI_add (4 * k) 2) (by omega) (by omega) dL_law_98 ?_
        refine lv_aload_n hx hb dL_law_99 rfl (lv_at hl 0 rfl) ?_
        refine lv_iload_n hx hb dL_law_100 rfl (lv_at hl 3 rfl) ?_
        refine lv_iconst (v := 3) hx hb dL_law_101 (by decide) ?_
        refine lv_iadd hx hb dL_law_102 ?_
        refine gSld (j := 4 * k + 3) hX hXs hbl hbA hI (nI_add (4 * k) 3) (by omega) (by omega) dL_law_103 ?_
        refine gCallL (va_runV (As := [.int (xs (4 * k + 1)), .int (xs (4 * k + 2)), .int (xs (4 * k + 3))]) (rest := []) hX (c_X1_hall l D cI cH g qc ad pc n σ H.size (xs (4 * k + 1)) (xs (4 * k + 2)) (xs (4 * k + 3)) 0 hg) (cwV 3 hts gL_law_X1_hall rfl rfl rfl (by decide +kernel) ⟨by show _ ≤ 2048; exact Nat.le_of_ble_eq_true rfl, by show _ ≤ 84000; exact Nat.le_of_ble_eq_true rfl⟩) ⟨gPre_blind, gRecv (InW_left hI) hK (ci := 1) (q0 := 0) rfl rfl, gPre_ok (InW_left hI) hK hN⟩ rfl rfl hl.1 rfl (lv_room (Nat.le_of_ble_eq_true rfl)) dL_law_104 ⟨by show _ ≤ 600000; omega, by show _ ≤ 7302250; omega⟩) hI hA (fun r1 u H locs hr1 hI => ?_)
        obtain ⟨ad', hr1, rfl⟩ := hr1
        refine lv_aload_n hx hb dL_law_107 rfl (lv_at hl 2 rfl) ?_
        refine lv_aload_n hx hb dL_law_108 rfl (lv_at hl 0 rfl) ?_
        refine lv_iload_n hx hb dL_law_109 rfl (lv_at hl 3 rfl) ?_
        refine lv_iconst (v := 1) hx hb dL_law_110 (by decide) ?_
        refine lv_iadd hx hb dL_law_111 ?_
        refine gSld (j := 4 * k + 1) hX hXs hbl hbA hI (nI_add (4 * k) 1) (by omega) (by omega) dL_law_112 ?_
        refine lv_aload_n hx hb dL_law_113 rfl (lv_at hl 0 rfl) ?_
        refine lv_iload_n hx hb dL_law_114 rfl (lv_at hl 3 rfl) ?_
        refine lv_iconst (v := 2) hx hb dL_law_115 (by decide) ?_
        refine lv_iadd hx hb dL_law_116 ?_
        refine gSld (j := 4 * k + 2) hX hXs hbl hbA hI (nI_add (4 * k) 2) (by omega) (by omega) dL_law_117 ?_
        refine lv_aload_n hx hb dL_law_118 rfl (lv_at hl 0 rfl) ?_
        refine lv_iload_n hx hb dL_law_119 rfl (lv_at hl 3 rfl) ?_
        refine lv_iconst (v := 3) hx hb dL_law_120 (by decide) ?_
        refine lv_iadd hx hb dL_law_121 ?_
        refine gSld (j := 4 * k + 3) hX hXs hbl hbA hI (nI_add (4 * k) 3) (by omega) (by omega) dL_law_122 ?_
        refine gCallR (va_runV (As := [.int (xs (4 * k + 1)), .int (xs (4 * k + 2)), .int (xs (4 * k + 3))]) (rest := [.int (r1)]) hX (c_X2_hall l D cI cH h qm pm σ H.size (xs (4 * k + 1)) (xs (4 * k + 2)) (xs (4 * k + 3)) n 0 hg) (cwV 3 hts gL_law_X2_hall rfl rfl rfl (by decide +kernel) ⟨by show _ ≤ 2048; exact Nat.le_of_ble_eq_true rfl, by show _ ≤ 84000; exact Nat.le_of_ble_eq_true rfl⟩) ⟨gPre_blind, gRecv (InW_right hI) hK (ci := 2) (q0 := 0) rfl rfl, gPre_ok (InW_right hI) hK hN⟩ rfl rfl hl.1 rfl (lv_room (Nat.le_of_ble_eq_true rfl)) dL_law_123 ⟨by show _ ≤ 600000; omega, by show _ ≤ 7302250; omega⟩) hI hA (fun r2 u H locs hr2 hI => ?_)
        obtain ⟨hr2, rfl⟩ := hr2
        refine lv_icmp_eq (tgt := 418) hx hb dL_law_126 (by decide) (fun c1 => ?_) (fun c1 => absurd (hr1.trans hr2.symm) c1)
        exact hcont hk4 (zN n (xs (4 * k + 1)) (xs (4 * k + 2)) (xs (4 * k + 3))) (sHall σ (xs (4 * k + 1)) (xs (4 * k + 2)) (xs (4 * k + 3))).2 ad' pc pm H locs (zN_le hnk) (gI_sHall (by omega) hg) (gKd_sHall hg hkd) hI
      · refine gTop (y := nI 1) htE ?_
        refine lv_tableIn (tgt := 131) (off := 99) hx hb dL_law_32 (by decide) (by decide) (by decide) (by decide) ?_
        refine lv_aload_n hx hb dL_law_131 rfl (lv_at hl 1 rfl) ?_
        refine lv_aload_n hx hb dL_law_132 rfl (lv_at hl 0 rfl) ?_
        refine lv_iload_n hx hb dL_law_133 rfl (lv_at hl 3 rfl) ?_
        refine lv_iconst (v := 1) hx hb dL_law_134 (by decide) ?_
        refine lv_iadd hx hb dL_law_135 ?_
        refine gSld (j := 4 * k + 1) hX hXs hbl hbA hI (nI_add (4 * k) 1) (by omega) (by omega) dL_law_136 ?_
        refine lv_aload_n hx hb dL_law_137 rfl (lv_at hl 0 rfl) ?_
        refine lv_iload_n hx hb dL_law_138 rfl (lv_at hl 3 rfl) ?_
        refine lv_iconst (v := 2) hx hb dL_law_139 (by decide) ?_
        refine lv_iadd hx hb dL_law_140 ?_
        refine gSld (j := 4 * k + 2) hX hXs hbl hbA hI (nI_add (4 * k) 2) (by omega) (by omega) dL_law_141 ?_
        refine gCallL (va_runV (As := [.int (xs (4 * k + 1)), .int (xs (4 * k + 2))]) (rest := []) hX (c_X1_share l D cI cH g qc ad pc n σ H.size (xs (4 * k + 1)) (xs (4 * k + 2)) 0 hg) (cwV 2 hts gL_law_X1_share rfl rfl rfl (by decide +kernel) ⟨by show _ ≤ 2048; exact Nat.le_of_ble_eq_true rfl, by show _ ≤ 84000; exact Nat.le_of_ble_eq_true rfl⟩) ⟨gPre_blind, gRecv (InW_left hI) hK (ci := 1) (q0 := 0) rfl rfl, gPre_ok (InW_left hI) hK hN⟩ rfl rfl hl.1 rfl (lv_room (Nat.le_of_ble_eq_true rfl)) dL_law_142 ⟨by show _ ≤ 600000; omega, by show _ ≤ 7302250; omega⟩) hI hA (fun r1 u H locs hr1 hI => ?_)
        obtain ⟨hr1, rfl⟩ := hr1
        refine lv_aload_n hx hb dL_law_145 rfl (lv_at hl 2 rfl) ?_
        refine lv_aload_n hx hb dL_law_146 rfl (lv_at hl 0 rfl) ?_
        refine lv_iload_n hx hb dL_law_147 rfl (lv_at hl 3 rfl) ?_
        refine lv_iconst (v := 1) hx hb dL_law_148 (by decide) ?_
        refine lv_iadd hx hb dL_law_149 ?_
        refine gSld (j := 4 * k + 1) hX hXs hbl hbA hI (nI_add (4 * k) 1) (by omega) (by omega) dL_law_150 ?_
        refine lv_aload_n hx hb dL_law_151 rfl (lv_at hl 0 rfl) ?_
        refine lv_iload_n hx hb dL_law_152 rfl (lv_at hl 3 rfl) ?_
        refine lv_iconst (v := 2) hx hb dL_law_153 (by decide) ?_
        refine lv_iadd hx hb dL_law_154 ?_
        refine gSld (j := 4 * k + 2) hX hXs hbl hbA hI (nI_add (4 * k) 2) (by omega) (by omega) dL_law_155 ?_
        refine gCallR (va_runV (As := [.int (xs (4 * k + 1)), .int (xs (4 * k + 2))]) (rest := [.int (r1)]) hX (c_X2_share l D cI cH h qm pm σ H.size (xs (4 * k + 1)) (xs (4 * k + 2))) (cwV 2 hts gL_law_X2_share rfl rfl rfl (by decide +kernel) ⟨by show _ ≤ 2048; exact Nat.le_of_ble_eq_true rfl, by show _ ≤ 84000; exact Nat.le_of_ble_eq_true rfl⟩) ⟨gPre_blind, gRecv (InW_right hI) hK (ci := 2) (q0 := 0) rfl rfl, gPre_ok (InW_right hI) hK hN⟩ rfl rfl hl.1 rfl (lv_room (Nat.le_of_ble_eq_true rfl)) dL_law_156 ⟨by show _ ≤ 600000; omega, by show _ ≤ 7302250; omega⟩) hI hA (fun r2 u H locs hr2 hI => ?_)
        obtain ⟨hr2, rfl⟩ := hr2
        refine lv_icmp_eq (tgt := 418) hx hb dL_law_159 (by decide) (fun c1 => ?_) (fun c1 => absurd (hr1.trans hr2.symm) c1)
        refine W.widen (k := 20 + k + 1) (n := 33986 + 9 * k + 9) (by omega) (by omega) ?_
        exact hcont hk4 n (sShare σ (xs (4 * k + 1)) (xs (4 * k + 2))).2 ad pc pm H locs (by omega) (gI_sShare hg) (gKd_of k_share hkd) hI
      · refine gTop (y := nI 2) htE ?_
        refine lv_tableIn (tgt := 164) (off := 132) hx hb dL_law_32 (by decide) (by decide) (by decide) (by decide) ?_
        refine lv_aload_n hx hb dL_law_164 rfl (lv_at hl 1 rfl) ?_
        refine lv_aload_n hx hb dL_law_165 rfl (lv_at hl 0 rfl) ?_
        refine lv_iload_n hx hb dL_law_166 rfl (lv_at hl 3 rfl) ?_
        refine lv_iconst (v := 1) hx hb dL_law_167 (by decide) ?_
        refine lv_iadd hx hb dL_law_168 ?_
        refine gSld (j := 4 * k + 1) hX hXs hbl hbA hI (nI_add (4 * k) 1) (by omega) (by omega) dL_law_169 ?_
        refine lv_aload_n hx hb dL_law_170 rfl (lv_at hl 0 rfl) ?_
        refine lv_iload_n hx hb dL_law_171 rfl (lv_at hl 3 rfl) ?_
        refine lv_iconst (v := 2) hx hb dL_law_172 (by decide) ?_
        refine lv_iadd hx hb dL_law_173 ?_
        refine gSld (j := 4 * k + 2) hX hXs hbl hbA hI (nI_add (4 * k) 2) (by omega) (by omega) dL_law_174 ?_
        refine gCallL (va_runV (As := [.int (xs (4 * k + 1)), .int (xs (4 * k + 2))]) (rest := []) hX (c_X1_parent l D cI cH g qc ad pc n σ H.size (xs (4 * k + 1)) (xs (4 * k + 2))) (cwV 2 hts gL_law_X1_parent rfl rfl rfl (by decide +kernel) ⟨by show _ ≤ 2048; exact Nat.le_of_ble_eq_true rfl, by show _ ≤ 84000; exact Nat.le_of_ble_eq_true rfl⟩) ⟨gPre_blind, gRecv (InW_left hI) hK (ci := 1) (q0 := 0) rfl rfl, gPre_ok (InW_left hI) hK hN⟩ rfl rfl hl.1 rfl (lv_room (Nat.le_of_ble_eq_true rfl)) dL_law_175 ⟨by show _ ≤ 600000; omega, by show _ ≤ 7302250; omega⟩) hI hA (fun r1 u H locs hr1 hI => ?_)
        obtain ⟨hr1, rfl⟩ := hr1
        refine lv_aload_n hx hb dL_law_178 rfl (lv_at hl 2 rfl) ?_
        refine lv_aload_n hx hb dL_law_179 rfl (lv_at hl 0 rfl) ?_
        refine lv_iload_n hx hb dL_law_180 rfl (lv_at hl 3 rfl) ?_
        refine lv_iconst (v := 1) hx hb dL_law_181 (by decide) ?_
        refine lv_iadd hx hb dL_law_182 ?_
        refine gSld (j := 4 * k + 1) hX hXs hbl hbA hI (nI_add (4 * k) 1) (by omega) (by omega) dL_law_183 ?_
        refine lv_aload_n hx hb dL_law_184 rfl (lv_at hl 0 rfl) ?_
        refine lv_iload_n hx hb dL_law_185 rfl (lv_at hl 3 rfl) ?_
        refine lv_iconst (v := 2) hx hb dL_law_186 (by decide) ?_
        refine lv_iadd hx hb dL_law_187 ?_
        refine gSld (j := 4 * k + 2) hX hXs hbl hbA hI (nI_add (4 * k) 2) (by omega) (by omega) dL_law_188 ?_
        refine gCallR (va_runV (As := [.int (xs (4 * k + 1)), .int (xs (4 * k + 2))]) (rest := [.int (r1)]) hX (c_X2_parent l D cI cH h qm pm σ H.size (xs (4 * k + 1)) (xs (4 * k + 2))) (cwV 2 hts gL_law_X2_parent rfl rfl rfl (by decide +kernel) ⟨by show _ ≤ 2048; exact Nat.le_of_ble_eq_true rfl, by show _ ≤ 84000; exact Nat.le_of_ble_eq_true rfl⟩) ⟨gPre_blind, gRecv (InW_right hI) hK (ci := 2) (q0 := 0) rfl rfl, gPre_ok (InW_right hI) hK hN⟩ rfl rfl hl.1 rfl (lv_room (Nat.le_of_ble_eq_true rfl)) dL_law_189 ⟨by show _ ≤ 600000; omega, by show _ ≤ 7302250; omega⟩) hI hA (fun r2 u H locs hr2 hI => ?_)
        obtain ⟨hr2, rfl⟩ := hr2
        refine lv_icmp_eq (tgt := 418) hx hb dL_law_192 (by decide) (fun c1 => ?_) (fun c1 => absurd (hr1.trans hr2.symm) c1)
        refine W.widen (k := 20 + k + 1) (n := 33986 + 9 * k + 9) (by omega) (by omega) ?_
        exact hcont hk4 n (sParent σ (xs (4 * k + 1)) (xs (4 * k + 2))).2 ad pc pm H locs (by omega) (gI_sParent hg) (gKd_of k_parent hkd) hI
      · refine gTop (y := nI 3) htE ?_
        refine lv_tableIn (tgt := 197) (off := 165) hx hb dL_law_32 (by decide) (by decide) (by decide) (by decide) ?_
        refine lv_aload_n hx hb dL_law_197 rfl (lv_at hl 1 rfl) ?_
        refine lv_aload_n hx hb dL_law_198 rfl (lv_at hl 0 rfl) ?_
        refine lv_iload_n hx hb dL_law_199 rfl (lv_at hl 3 rfl) ?_
        refine lv_iconst (v := 1) hx hb dL_law_200 (by decide) ?_
        refine lv_iadd hx hb dL_law_201 ?_
        refine gSld (j := 4 * k + 1) hX hXs hbl hbA hI (nI_add (4 * k) 1) (by omega) (by omega) dL_law_202 ?_
        refine gCallL (va_runV (As := [.int (xs (4 * k + 1))]) (rest := []) hX (c_X1_fill l D cI cH g qc ad pc n σ H.size (xs (4 * k + 1))) (cwV 1 hts gL_law_X1_fill rfl rfl rfl (by decide +kernel) ⟨by show _ ≤ 2048; exact Nat.le_of_ble_eq_true rfl, by show _ ≤ 84000; exact Nat.le_of_ble_eq_true rfl⟩) ⟨gPre_blind, gRecv (InW_left hI) hK (ci := 1) (q0 := 0) rfl rfl, gPre_ok (InW_left hI) hK hN⟩ rfl rfl hl.1 rfl (lv_room (Nat.le_of_ble_eq_true rfl)) dL_law_203 ⟨by show _ ≤ 600000; omega, by show _ ≤ 7302250; omega⟩) hI hA (fun r1 u H locs hr1 hI => ?_)
        obtain ⟨hr1, rfl⟩ := hr1
        refine lv_aload_n hx hb dL_law_206 rfl (lv_at hl 2 rfl) ?_
        refine lv_aload_n hx hb dL_law_207 rfl (lv_at hl 0 rfl) ?_
        refine lv_iload_n hx hb dL_law_208 rfl (lv_at hl 3 rfl) ?_
        refine lv_iconst (v := 1) hx hb dL_law_209 (by decide) ?_
        refine lv_iadd hx hb dL_law_210 ?_
        refine gSld (j := 4 * k + 1) hX hXs hbl hbA hI (nI_add (4 * k) 1) (by omega) (by omega) dL_law_211 ?_
        refine gCallR (va_runV (As := [.int (xs (4 * k + 1))]) (rest := [.int (r1)]) hX (c_X2_fill l D cI cH h qm pm σ H.size (xs (4 * k + 1))) (cwV 1 hts gL_law_X2_fill rfl rfl rfl (by decide +kernel) ⟨by show _ ≤ 2048; exact Nat.le_of_ble_eq_true rfl, by show _ ≤ 84000; exact Nat.le_of_ble_eq_true rfl⟩) ⟨gPre_blind, gRecv (InW_right hI) hK (ci := 2) (q0 := 0) rfl rfl, gPre_ok (InW_right hI) hK hN⟩ rfl rfl hl.1 rfl (lv_room (Nat.le_of_ble_eq_true rfl)) dL_law_212 ⟨by show _ ≤ 600000; omega, by show _ ≤ 7302250; omega⟩) hI hA (fun r2 u H locs hr2 hI => ?_)
        obtain ⟨hr2, rfl⟩ := hr2
        refine lv_icmp_eq (tgt := 418) hx hb dL_law_215 (by decide) (fun c1 => ?_) (fun c1 => absurd (hr1.trans hr2.symm) c1)
        refine W.widen (k := 20 + k + 1) (n := 33986 + 9 * k + 9) (by omega) (by omega) ?_
        exact hcont hk4 n (sFill σ (xs (4 * k + 1))).2 ad pc pm H locs (by omega) (gI_sFill hg) (gKd_of k_fill hkd) hI
      · refine gTop (y := nI 4) htE ?_
        refine lv_tableIn (tgt := 220) (off := 188) hx hb dL_law_32 (by decide) (by decide) (by decide) (by decide) ?_
        refine lv_aload_n hx hb dL_law_220 rfl (lv_at hl 1 rfl) ?_
        refine lv_aload_n hx hb dL_law_221 rfl (lv_at hl 0 rfl) ?_
        refine lv_iload_n hx hb dL_law_222 rfl (lv_at hl 3 rfl) ?_
        refine lv_iconst (v := 1) hx hb dL_law_223 (by decide) ?_
        refine lv_iadd hx hb dL_law_224 ?_
        refine gSld (j := 4 * k + 1) hX hXs hbl hbA hI (nI_add (4 * k) 1) (by omega) (by omega) dL_law_225 ?_
        refine lv_aload_n hx hb dL_law_226 rfl (lv_at hl 0 rfl) ?_
        refine lv_iload_n hx hb dL_law_227 rfl (lv_at hl 3 rfl) ?_
        refine lv_iconst (v := 2) hx hb dL_law_228 (by decide) ?_
        refine lv_iadd hx hb dL_law_229 ?_
        refine gSld (j := 4 * k + 2) hX hXs hbl hbA hI (nI_add (4 * k) 2) (by omega) (by omega) dL_law_230 ?_
        refine lv_aload_n hx hb dL_law_231 rfl (lv_at hl 0 rfl) ?_
        refine lv_iload_n hx hb dL_law_232 rfl (lv_at hl 3 rfl) ?_
        refine lv_iconst (v := 3) hx hb dL_law_233 (by decide) ?_
        refine lv_iadd hx hb dL_law_234 ?_
        refine gSld (j := 4 * k + 3) hX hXs hbl hbA hI (nI_add (4 * k) 3) (by omega) (by omega) dL_law_235 ?_
        refine gCallL (va_runV (As := [.int (xs (4 * k + 1)), .int (xs (4 * k + 2)), .int (xs (4 * k + 3))]) (rest := []) hX (c_X1_walk l D cI cH g qc ad pc n σ H.size (xs (4 * k + 1)) (xs (4 * k + 2)) (xs (4 * k + 3)) hg hkd) (cwV 3 hts gL_law_X1_walk rfl rfl rfl (by decide +kernel) ⟨by show _ ≤ 2048; exact Nat.le_of_ble_eq_true rfl, by show _ ≤ 84000; exact Nat.le_of_ble_eq_true rfl⟩) ⟨gPre_blind, gRecv (InW_left hI) hK (ci := 1) (q0 := 0) rfl rfl, gPre_ok (InW_left hI) hK hN⟩ rfl rfl hl.1 rfl (lv_room (Nat.le_of_ble_eq_true rfl)) dL_law_236 ⟨by show _ ≤ 600000; omega, by show _ ≤ 7302250; omega⟩) hI hA (fun r1 u H locs hr1 hI => ?_)
        obtain ⟨pc', hr1, rfl⟩ := hr1
        refine lv_aload_n hx hb dL_law_239 rfl (lv_at hl 2 rfl) ?_
        refine lv_aload_n hx hb dL_law_240 rfl (lv_at hl 0 rfl) ?_
        refine lv_iload_n hx hb dL_law_241 rfl (lv_at hl 3 rfl) ?_
        refine lv_iconst (v := 1) hx hb dL_law_242 (by decide) ?_
        refine lv_iadd hx hb dL_law_243 ?_
        refine gSld (j := 4 * k + 1) hX hXs hbl hbA hI (nI_add (4 * k) 1) (by omega) (by omega) dL_law_244 ?_
        refine lv_aload_n hx hb dL_law_245 rfl (lv_at hl 0 rfl) ?_
        refine lv_iload_n hx hb dL_law_246 rfl (lv_at hl 3 rfl) ?_
        refine lv_iconst (v := 2) hx hb dL_law_247 (by decide) ?_
        refine lv_iadd hx hb dL_law_248 ?_
        refine gSld (j := 4 * k + 2) hX hXs hbl hbA hI (nI_add (4 * k) 2) (by omega) (by omega) dL_law_249 ?_
        refine lv_aload_n hx hb dL_law_250 rfl (lv_at hl 0 rfl) ?_
        refine lv_iload_n hx hb dL_law_251 rfl (lv_at hl 3 rfl) ?_
        refine lv_iconst (v := 3) hx hb dL_law_252 (by decide) ?_
        refine lv_iadd hx hb dL_law_253 ?_
        refine gSld (j := 4 * k + 3) hX hXs hbl hbA hI (nI_add (4 * k) 3) (by omega) (by omega) dL_law_254 ?_
        refine gCallR (va_runV (As := [.int (xs (4 * k + 1)), .int (xs (4 * k + 2)), .int (xs (4 * k + 3))]) (rest := [.int (r1)]) hX (c_X2_walk l D cI cH h qm pm σ H.size (xs (4 * k + 1)) (xs (4 * k + 2)) (xs (4 * k + 3)) n hg) (cwV 3 hts gL_law_X2_walk rfl rfl rfl (by decide +kernel) ⟨by show _ ≤ 2048; exact Nat.le_of_ble_eq_true rfl, by show _ ≤ 84000; exact Nat.le_of_ble_eq_true rfl⟩) ⟨gPre_blind, gRecv (InW_right hI) hK (ci := 2) (q0 := 0) rfl rfl, gPre_ok (InW_right hI) hK hN⟩ rfl rfl hl.1 rfl (lv_room (Nat.le_of_ble_eq_true rfl)) dL_law_255 ⟨by show _ ≤ 600000; omega, by show _ ≤ 7302250; omega⟩) hI hA (fun r2 u H locs hr2 hI => ?_)
        obtain ⟨pm', hr2, rfl⟩ := hr2
        rw [mWalk_eq hg] at hr2 hI
        refine lv_icmp_eq (tgt := 418) hx hb dL_law_258 (by decide) (fun c1 => ?_) (fun c1 => absurd (hr1.trans hr2.symm) c1)
        refine W.widen (k := 20 + k + 1) (n := 33986 + 9 * k + 9) (by omega) (by omega) ?_
        exact hcont hk4 n (sWalk σ (xs (4 * k + 1)) (xs (4 * k + 2)) (xs (4 * k + 3))).2 ad pc' pm' H locs (by omega) (gI_sWalk hg) (gKd_of k_walk hkd) hI
      · refine gTop (y := nI 5) htE ?_
        refine lv_tableIn (tgt := 263) (off := 231) hx hb dL_law_32 (by decide) (by decide) (by decide) (by decide) ?_
        refine lv_aload_n hx hb dL_law_263 rfl (lv_at hl 1 rfl) ?_
        refine lv_aload_n hx hb dL_law_264 rfl (lv_at hl 0 rfl) ?_
        refine lv_iload_n hx hb dL_law_265 rfl (lv_at hl 3 rfl) ?_
        refine lv_iconst (v := 1) hx hb dL_law_266 (by decide) ?_
        refine lv_iadd hx hb dL_law_267 ?_
        refine gSld (j := 4 * k + 1) hX hXs hbl hbA hI (nI_add (4 * k) 1) (by omega) (by omega) dL_law_268 ?_
        refine lv_i2l (v := Int32.toInt64 (xs (4 * k + 1))) hx hb dL_law_269 rfl ?_
        refine lv_bipush (v := 32) hx hb dL_law_270 (by decide) ?_
        refine lv_lshl (v := (Int32.toInt64 (xs (4 * k + 1))) <<< (Int32.toInt64 (32) &&& 63)) hx hb dL_law_272 rfl ?_
        refine lv_aload_n hx hb dL_law_273 rfl (lv_at hl 0 rfl) ?_
        refine lv_iload_n hx hb dL_law_274 rfl (lv_at hl 3 rfl) ?_
        refine lv_iconst (v := 2) hx hb dL_law_275 (by decide) ?_
        refine lv_iadd hx hb dL_law_276 ?_
        refine gSld (j := 4 * k + 2) hX hXs hbl hbA hI (nI_add (4 * k) 2) (by omega) (by omega) dL_law_277 ?_
        refine lv_i2l (v := Int32.toInt64 (xs (4 * k + 2))) hx hb dL_law_278 rfl ?_
        refine lv_ldc2 (v := 4294967295) hx hb hown (hts (.constantLong RL 36 (4294967295)) (by decide +kernel)) dL_law_279 ?_
        refine lv_land hx hb dL_law_282 ?_
        refine lv_lor hx hb dL_law_283 ?_
        refine gCallL (va_runV (As := [.long (((Int32.toInt64 (xs (4 * k + 1))) <<< (Int32.toInt64 (32) &&& 63)) ||| ((Int32.toInt64 (xs (4 * k + 2))) &&& (4294967295)))]) (rest := []) hX (c_X1_seek l D cI cH g qc ad pc n σ H.size (((Int32.toInt64 (xs (4 * k + 1))) <<< (Int32.toInt64 (32) &&& 63)) ||| ((Int32.toInt64 (xs (4 * k + 2))) &&& (4294967295))) 0 hg) (cwV 1 hts gL_law_X1_seek rfl rfl rfl (by decide +kernel) ⟨by show _ ≤ 2048; exact Nat.le_of_ble_eq_true rfl, by show _ ≤ 84000; exact Nat.le_of_ble_eq_true rfl⟩) ⟨gPre_blind, gRecv (InW_left hI) hK (ci := 1) (q0 := 0) rfl rfl, gPre_ok (InW_left hI) hK hN⟩ rfl rfl hl.1 rfl (lv_room (Nat.le_of_ble_eq_true rfl)) dL_law_284 ⟨by show _ ≤ 600000; omega, by show _ ≤ 7302250; omega⟩) hI hA (fun r1 u H locs hr1 hI => ?_)
        obtain ⟨hr1, rfl⟩ := hr1
        refine lv_aload_n hx hb dL_law_287 rfl (lv_at hl 2 rfl) ?_
        refine lv_aload_n hx hb dL_law_288 rfl (lv_at hl 0 rfl) ?_
        refine lv_iload_n hx hb dL_law_289 rfl (lv_at hl 3 rfl) ?_
        refine lv_iconst (v := 1) hx hb dL_law_290 (by decide) ?_
        refine lv_iadd hx hb dL_law_291 ?_
        refine gSld (j := 4 * k + 1) hX hXs hbl hbA hI (nI_add (4 * k) 1) (by omega) (by omega) dL_law_292 ?_
        refine lv_i2l (v := Int32.toInt64 (xs (4 * k + 1))) hx hb dL_law_293 rfl ?_
        refine lv_bipush (v := 32) hx hb dL_law_294 (by decide) ?_
        refine lv_lshl (v := (Int32.toInt64 (xs (4 * k + 1))) <<< (Int32.toInt64 (32) &&& 63)) hx hb dL_law_296 rfl ?_
        refine lv_aload_n hx hb dL_law_297 rfl (lv_at hl 0 rfl) ?_
        refine lv_iload_n hx hb dL_law_298 rfl (lv_at hl 3 rfl) ?_
        refine lv_iconst (v := 2) hx hb dL_law_299 (by decide) ?_
        refine lv_iadd hx hb dL_law_300 ?_
        refine gSld (j := 4 * k + 2) hX hXs hbl hbA hI (nI_add (4 * k) 2) (by omega) (by omega) dL_law_301 ?_
        refine lv_i2l (v := Int32.toInt64 (xs (4 * k + 2))) hx hb dL_law_302 rfl ?_
        refine lv_ldc2 (v := 4294967295) hx hb hown (hts (.constantLong RL 36 (4294967295)) (by decide +kernel)) dL_law_303 ?_
        refine lv_land hx hb dL_law_306 ?_
        refine lv_lor hx hb dL_law_307 ?_
        refine gCallR (va_runV (As := [.long (((Int32.toInt64 (xs (4 * k + 1))) <<< (Int32.toInt64 (32) &&& 63)) ||| ((Int32.toInt64 (xs (4 * k + 2))) &&& (4294967295)))]) (rest := [.int (r1)]) hX (c_X2_seek l D cI cH h qm pm σ H.size (((Int32.toInt64 (xs (4 * k + 1))) <<< (Int32.toInt64 (32) &&& 63)) ||| ((Int32.toInt64 (xs (4 * k + 2))) &&& (4294967295))) n 0 hg) (cwV 1 hts gL_law_X2_seek rfl rfl rfl (by decide +kernel) ⟨by show _ ≤ 2048; exact Nat.le_of_ble_eq_true rfl, by show _ ≤ 84000; exact Nat.le_of_ble_eq_true rfl⟩) ⟨gPre_blind, gRecv (InW_right hI) hK (ci := 2) (q0 := 0) rfl rfl, gPre_ok (InW_right hI) hK hN⟩ rfl rfl hl.1 rfl (lv_room (Nat.le_of_ble_eq_true rfl)) dL_law_308 ⟨by show _ ≤ 600000; omega, by show _ ≤ 7302250; omega⟩) hI hA (fun r2 u H locs hr2 hI => ?_)
        obtain ⟨hr2, rfl⟩ := hr2
        refine lv_icmp_eq (tgt := 418) hx hb dL_law_311 (by decide) (fun c1 => ?_) (fun c1 => absurd (hr1.trans hr2.symm) c1)
        refine W.widen (k := 20 + k + 1) (n := 33986 + 9 * k + 9) (by omega) (by omega) ?_
        exact hcont hk4 n (sSeek σ (((Int32.toInt64 (xs (4 * k + 1))) <<< (Int32.toInt64 (32) &&& 63)) ||| ((Int32.toInt64 (xs (4 * k + 2))) &&& (4294967295)))).2 ad pc pm H locs (by omega) (gI_SA 10 0 (by omega) hg) (gKd_of (k_SA 10 0) hkd) hI
      · refine gTop (y := nI 6) htE ?_
        refine lv_tableIn (tgt := 316) (off := 284) hx hb dL_law_32 (by decide) (by decide) (by decide) (by decide) ?_
        refine lv_aload_n hx hb dL_law_316 rfl (lv_at hl 1 rfl) ?_
        refine lv_aload_n hx hb dL_law_317 rfl (lv_at hl 0 rfl) ?_
        refine lv_iload_n hx hb dL_law_318 rfl (lv_at hl 3 rfl) ?_
        refine lv_iconst (v := 1) hx hb dL_law_319 (by decide) ?_
        refine lv_iadd hx hb dL_law_320 ?_
        refine gSld (j := 4 * k + 1) hX hXs hbl hbA hI (nI_add (4 * k) 1) (by omega) (by omega) dL_law_321 ?_
        refine lv_aload_n hx hb dL_law_322 rfl (lv_at hl 0 rfl) ?_
        refine lv_iload_n hx hb dL_law_323 rfl (lv_at hl 3 rfl) ?_
        refine lv_iconst (v := 2) hx hb dL_law_324 (by decide) ?_
        refine lv_iadd hx hb dL_law_325 ?_
        refine gSld (j := 4 * k + 2) hX hXs hbl hbA hI (nI_add (4 * k) 2) (by omega) (by omega) dL_law_326 ?_
        refine gCallL (va_runV (As := [.int (xs (4 * k + 1)), .int (xs (4 * k + 2))]) (rest := []) hX (c_X1_told l D cI cH g qc ad pc n σ H.size (xs (4 * k + 1)) (xs (4 * k + 2)) 0 hg) (cwV 2 hts gL_law_X1_told rfl rfl rfl (by decide +kernel) ⟨by show _ ≤ 2048; exact Nat.le_of_ble_eq_true rfl, by show _ ≤ 84000; exact Nat.le_of_ble_eq_true rfl⟩) ⟨gPre_blind, gRecv (InW_left hI) hK (ci := 1) (q0 := 0) rfl rfl, gPre_ok (InW_left hI) hK hN⟩ rfl rfl hl.1 rfl (lv_room (Nat.le_of_ble_eq_true rfl)) dL_law_327 ⟨by show _ ≤ 600000; omega, by show _ ≤ 7302250; omega⟩) hI hA (fun r1 u H locs hr1 hI => ?_)
        obtain ⟨hr1, rfl⟩ := hr1
        refine lv_aload_n hx hb dL_law_330 rfl (lv_at hl 2 rfl) ?_
        refine lv_aload_n hx hb dL_law_331 rfl (lv_at hl 0 rfl) ?_
        refine lv_iload_n hx hb dL_law_332 rfl (lv_at hl 3 rfl) ?_
        refine lv_iconst (v := 1) hx hb dL_law_333 (by decide) ?_
        refine lv_iadd hx hb dL_law_334 ?_
        refine gSld (j := 4 * k + 1) hX hXs hbl hbA hI (nI_add (4 * k) 1) (by omega) (by omega) dL_law_335 ?_
        refine lv_aload_n hx hb dL_law_336 rfl (lv_at hl 0 rfl) ?_
        refine lv_iload_n hx hb dL_law_337 rfl (lv_at hl 3 rfl) ?_
        refine lv_iconst (v := 2) hx hb dL_law_338 (by decide) ?_
        refine lv_iadd hx hb dL_law_339 ?_
        refine gSld (j := 4 * k + 2) hX hXs hbl hbA hI (nI_add (4 * k) 2) (by omega) (by omega) dL_law_340 ?_
        refine gCallR (va_runV (As := [.int (xs (4 * k + 1)), .int (xs (4 * k + 2))]) (rest := [.int (r1)]) hX (c_X2_told l D cI cH h qm pm σ H.size (xs (4 * k + 1)) (xs (4 * k + 2)) n 0 hg) (cwV 2 hts gL_law_X2_told rfl rfl rfl (by decide +kernel) ⟨by show _ ≤ 2048; exact Nat.le_of_ble_eq_true rfl, by show _ ≤ 84000; exact Nat.le_of_ble_eq_true rfl⟩) ⟨gPre_blind, gRecv (InW_right hI) hK (ci := 2) (q0 := 0) rfl rfl, gPre_ok (InW_right hI) hK hN⟩ rfl rfl hl.1 rfl (lv_room (Nat.le_of_ble_eq_true rfl)) dL_law_341 ⟨by show _ ≤ 600000; omega, by show _ ≤ 7302250; omega⟩) hI hA (fun r2 u H locs hr2 hI => ?_)
        obtain ⟨hr2, rfl⟩ := hr2
        refine lv_icmp_eq (tgt := 418) hx hb dL_law_344 (by decide) (fun c1 => ?_) (fun c1 => absurd (hr1.trans hr2.symm) c1)
        refine W.widen (k := 20 + k + 1) (n := 33986 + 9 * k + 9) (by omega) (by omega) ?_
        exact hcont hk4 n σ ad pc pm H locs (by omega) hg hkd hI
      · refine gTop (y := nI 7) htE ?_
        refine lv_tableIn (tgt := 349) (off := 317) hx hb dL_law_32 (by decide) (by decide) (by decide) (by decide) ?_
        refine lv_aload_n hx hb dL_law_349 rfl (lv_at hl 1 rfl) ?_
        refine lv_aload_n hx hb dL_law_350 rfl (lv_at hl 0 rfl) ?_
        refine lv_iload_n hx hb dL_law_351 rfl (lv_at hl 3 rfl) ?_
        refine lv_iconst (v := 1) hx hb dL_law_352 (by decide) ?_
        refine lv_iadd hx hb dL_law_353 ?_
        refine gSld (j := 4 * k + 1) hX hXs hbl hbA hI (nI_add (4 * k) 1) (by omega) (by omega) dL_law_354 ?_
        refine gCallL (va_runV (As := [.int (xs (4 * k + 1))]) (rest := []) hX (c_X1_gifts l D cI cH g qc ad pc n σ H.size (xs (4 * k + 1)) 0 hg) (cwV 1 hts gL_law_X1_gifts rfl rfl rfl (by decide +kernel) ⟨by show _ ≤ 2048; exact Nat.le_of_ble_eq_true rfl, by show _ ≤ 84000; exact Nat.le_of_ble_eq_true rfl⟩) ⟨gPre_blind, gRecv (InW_left hI) hK (ci := 1) (q0 := 0) rfl rfl, gPre_ok (InW_left hI) hK hN⟩ rfl rfl hl.1 rfl (lv_room (Nat.le_of_ble_eq_true rfl)) dL_law_355 ⟨by show _ ≤ 600000; omega, by show _ ≤ 7302250; omega⟩) hI hA (fun r1 u H locs hr1 hI => ?_)
        obtain ⟨hr1, rfl⟩ := hr1
        refine lv_aload_n hx hb dL_law_358 rfl (lv_at hl 2 rfl) ?_
        refine lv_aload_n hx hb dL_law_359 rfl (lv_at hl 0 rfl) ?_
        refine lv_iload_n hx hb dL_law_360 rfl (lv_at hl 3 rfl) ?_
        refine lv_iconst (v := 1) hx hb dL_law_361 (by decide) ?_
        refine lv_iadd hx hb dL_law_362 ?_
        refine gSld (j := 4 * k + 1) hX hXs hbl hbA hI (nI_add (4 * k) 1) (by omega) (by omega) dL_law_363 ?_
        refine gCallR (va_runV (As := [.int (xs (4 * k + 1))]) (rest := [.int (r1)]) hX (c_X2_gifts l D cI cH h qm pm σ H.size (xs (4 * k + 1)) n 0 hg) (cwV 1 hts gL_law_X2_gifts rfl rfl rfl (by decide +kernel) ⟨by show _ ≤ 2048; exact Nat.le_of_ble_eq_true rfl, by show _ ≤ 84000; exact Nat.le_of_ble_eq_true rfl⟩) ⟨gPre_blind, gRecv (InW_right hI) hK (ci := 2) (q0 := 0) rfl rfl, gPre_ok (InW_right hI) hK hN⟩ rfl rfl hl.1 rfl (lv_room (Nat.le_of_ble_eq_true rfl)) dL_law_364 ⟨by show _ ≤ 600000; omega, by show _ ≤ 7302250; omega⟩) hI hA (fun r2 u H locs hr2 hI => ?_)
        obtain ⟨hr2, rfl⟩ := hr2
        refine lv_icmp_eq (tgt := 418) hx hb dL_law_367 (by decide) (fun c1 => ?_) (fun c1 => absurd (hr1.trans hr2.symm) c1)
        refine W.widen (k := 20 + k + 1) (n := 33986 + 9 * k + 9) (by omega) (by omega) ?_
        exact hcont hk4 n σ ad pc pm H locs (by omega) hg hkd hI
      · refine gTop (y := nI 8) htE ?_
        refine lv_tableIn (tgt := 372) (off := 340) hx hb dL_law_32 (by decide) (by decide) (by decide) (by decide) ?_
        refine lv_aload_n hx hb dL_law_372 rfl (lv_at hl 1 rfl) ?_
        refine lv_aload_n hx hb dL_law_373 rfl (lv_at hl 0 rfl) ?_
        refine lv_iload_n hx hb dL_law_374 rfl (lv_at hl 3 rfl) ?_
        refine lv_iconst (v := 1) hx hb dL_law_375 (by decide) ?_
        refine lv_iadd hx hb dL_law_376 ?_
        refine gSld (j := 4 * k + 1) hX hXs hbl hbA hI (nI_add (4 * k) 1) (by omega) (by omega) dL_law_377 ?_
        refine gCallL (va_runV (As := [.int (xs (4 * k + 1))]) (rest := []) hX (c_X1_trace l D cI cH g qc ad pc n σ H.size (xs (4 * k + 1)) 0 hg) (cwV 1 hts gL_law_X1_trace rfl rfl rfl (by decide +kernel) ⟨by show _ ≤ 2048; exact Nat.le_of_ble_eq_true rfl, by show _ ≤ 84000; exact Nat.le_of_ble_eq_true rfl⟩) ⟨gPre_blind, gRecv (InW_left hI) hK (ci := 1) (q0 := 0) rfl rfl, gPre_ok (InW_left hI) hK hN⟩ rfl rfl hl.1 rfl (lv_room (Nat.le_of_ble_eq_true rfl)) dL_law_378 ⟨by show _ ≤ 600000; omega, by show _ ≤ 7302250; omega⟩) hI hA (fun r1 u H locs hr1 hI => ?_)
        obtain ⟨hr1, rfl⟩ := hr1
        refine lv_aload_n hx hb dL_law_381 rfl (lv_at hl 2 rfl) ?_
        refine lv_aload_n hx hb dL_law_382 rfl (lv_at hl 0 rfl) ?_
        refine lv_iload_n hx hb dL_law_383 rfl (lv_at hl 3 rfl) ?_
        refine lv_iconst (v := 1) hx hb dL_law_384 (by decide) ?_
        refine lv_iadd hx hb dL_law_385 ?_
        refine gSld (j := 4 * k + 1) hX hXs hbl hbA hI (nI_add (4 * k) 1) (by omega) (by omega) dL_law_386 ?_
        refine gCallR (va_runV (As := [.int (xs (4 * k + 1))]) (rest := [.int (r1)]) hX (c_X2_trace l D cI cH h qm pm σ H.size (xs (4 * k + 1)) n 0 hg) (cwV 1 hts gL_law_X2_trace rfl rfl rfl (by decide +kernel) ⟨by show _ ≤ 2048; exact Nat.le_of_ble_eq_true rfl, by show _ ≤ 84000; exact Nat.le_of_ble_eq_true rfl⟩) ⟨gPre_blind, gRecv (InW_right hI) hK (ci := 2) (q0 := 0) rfl rfl, gPre_ok (InW_right hI) hK hN⟩ rfl rfl hl.1 rfl (lv_room (Nat.le_of_ble_eq_true rfl)) dL_law_387 ⟨by show _ ≤ 600000; omega, by show _ ≤ 7302250; omega⟩) hI hA (fun r2 u H locs hr2 hI => ?_)
        obtain ⟨hr2, rfl⟩ := hr2
        refine lv_icmp_eq (tgt := 418) hx hb dL_law_390 (by decide) (fun c1 => ?_) (fun c1 => absurd (hr1.trans hr2.symm) c1)
        refine W.widen (k := 20 + k + 1) (n := 33986 + 9 * k + 9) (by omega) (by omega) ?_
        exact hcont hk4 n σ ad pc pm H locs (by omega) hg hkd hI
      · refine gTop (y := nI 9) htE ?_
        refine lv_tableIn (tgt := 395) (off := 363) hx hb dL_law_32 (by decide) (by decide) (by decide) (by decide) ?_
        refine lv_aload_n hx hb dL_law_395 rfl (lv_at hl 1 rfl) ?_
        refine lv_aload_n hx hb dL_law_396 rfl (lv_at hl 0 rfl) ?_
        refine lv_iload_n hx hb dL_law_397 rfl (lv_at hl 3 rfl) ?_
        refine lv_iconst (v := 1) hx hb dL_law_398 (by decide) ?_
        refine lv_iadd hx hb dL_law_399 ?_
        refine gSld (j := 4 * k + 1) hX hXs hbl hbA hI (nI_add (4 * k) 1) (by omega) (by omega) dL_law_400 ?_
        refine gCallL (va_runV (As := [.int (xs (4 * k + 1))]) (rest := []) hX (c_X1_count l D cI cH g qc ad pc n σ H.size (xs (4 * k + 1)) 0 hg) (cwV 1 hts gL_law_X1_count rfl rfl rfl (by decide +kernel) ⟨by show _ ≤ 2048; exact Nat.le_of_ble_eq_true rfl, by show _ ≤ 84000; exact Nat.le_of_ble_eq_true rfl⟩) ⟨gPre_blind, gRecv (InW_left hI) hK (ci := 1) (q0 := 0) rfl rfl, gPre_ok (InW_left hI) hK hN⟩ rfl rfl hl.1 rfl (lv_room (Nat.le_of_ble_eq_true rfl)) dL_law_401 ⟨by show _ ≤ 600000; omega, by show _ ≤ 7302250; omega⟩) hI hA (fun r1 u H locs hr1 hI => ?_)
        obtain ⟨hr1, rfl⟩ := hr1
        refine lv_aload_n hx hb dL_law_404 rfl (lv_at hl 2 rfl) ?_
        refine lv_aload_n hx hb dL_law_405 rfl (lv_at hl 0 rfl) ?_
        refine lv_iload_n hx hb dL_law_406 rfl (lv_at hl 3 rfl) ?_
        refine lv_iconst (v := 1) hx hb dL_law_407 (by decide) ?_
        refine lv_iadd hx hb dL_law_408 ?_
        refine gSld (j := 4 * k + 1) hX hXs hbl hbA hI (nI_add (4 * k) 1) (by omega) (by omega) dL_law_409 ?_
        refine gCallR (va_runV (As := [.int (xs (4 * k + 1))]) (rest := [.int (r1)]) hX (c_X2_count l D cI cH h qm pm σ H.size (xs (4 * k + 1))) (cwV 1 hts gL_law_X2_count rfl rfl rfl (by decide +kernel) ⟨by show _ ≤ 2048; exact Nat.le_of_ble_eq_true rfl, by show _ ≤ 84000; exact Nat.le_of_ble_eq_true rfl⟩) ⟨gPre_blind, gRecv (InW_right hI) hK (ci := 2) (q0 := 0) rfl rfl, gPre_ok (InW_right hI) hK hN⟩ rfl rfl hl.1 rfl (lv_room (Nat.le_of_ble_eq_true rfl)) dL_law_410 ⟨by show _ ≤ 600000; omega, by show _ ≤ 7302250; omega⟩) hI hA (fun r2 u H locs hr2 hI => ?_)
        obtain ⟨hr2, rfl⟩ := hr2
        refine lv_icmp_eq (tgt := 418) hx hb dL_law_413 (by decide) (fun c1 => ?_) (fun c1 => absurd (hr1.trans hr2.symm) c1)
        refine W.widen (k := 20 + k + 1) (n := 33986 + 9 * k + 9) (by omega) (by omega) ?_
        exact hcont hk4 n σ ad pc pm H locs (by omega) hg hkd hI
      · refine gTop (y := nI t) htE ?_
        refine lv_tableOut (tgt := 418) hx hb dL_law_32 (Or.inr (by rw [nI_toInt (by omega)]; omega)) (by decide) ?_
        refine W.widen (k := 20 + k + 1) (n := 33986 + 9 * k + 9) (by omega) (by omega) ?_
        exact hcont hk4 n σ ad pc pm H locs (by omega) hg hkd hI
end
section
theorem iL_0 : ∀ w ∈ wsX00, w ∈ wsL_law := fun w h => List.mem_append_left _ (List.mem_append_right _ h)
theorem iL_1 : ∀ w ∈ wsX10, w ∈ wsL_law := fun w h => List.mem_append_left _ (List.mem_append_left _ (List.mem_append_left _ (List.mem_append_right _ h)))
theorem iL_2 : ∀ w ∈ wsX20, w ∈ wsL_law := fun w h => List.mem_append_left _ (List.mem_append_left _ (List.mem_append_right _ h))
theorem gPreE_blind {av : List Value} {D : va_G} {w : va_W} {tys : List (ClassId × FieldType)} {sz : Nat} : FrameBlind (va_Pc av (fun U => gPre D w tys sz U ∧ va_AO "GateHalls$Hall" U)) := fun a U g mk q => by
  obtain ⟨q0, ⟨q1, qP, qK, qD, qN⟩, qO⟩ := q
  exact ⟨q0, ⟨q1, qP, va_K.moved (u := U) (U := U.calling g mk a) (Vm.Alike.refl U.vm) qK, qD, gNw.same rfl qN⟩, va_AO.moved (u := U) (U := U.calling g mk a) (Vm.Alike.refl U.vm) qO⟩
theorem gNw_law {s : State} {args : Array Value} (hts : ∀ w ∈ lw_tbl, w.before args s = true) : gNw s :=
  ⟨va_Nw.of rfl (hts (.methodLinkNest RX1 42 yX0_init "GateHalls") (by decide +kernel)), va_Nw.of rfl (hts (.fieldLinkNest RX1 83 "GateHalls$Hall" "gifts" "I" "GateHalls") (by decide +kernel)), va_Nw.of rfl (hts (.fieldLinkNest RX1 68 "GateHalls$Hall" "asks" "I" "GateHalls") (by decide +kernel)), va_Nw.of rfl (hts (.fieldLinkNest RX1 136 "GateHalls$Hall" "inside" "I" "GateHalls") (by decide +kernel)), va_Nw.of rfl (hts (.fieldLinkNest RX1 133 "GateHalls$Hall" "paid" "I" "GateHalls") (by decide +kernel)), va_Nw.of rfl (hts (.methodLinkNest RX1 114 yX0_enter "GateHalls") (by decide +kernel)), va_Nw.of rfl (hts (.methodLinkNest RX1 120 yX0_mark "GateHalls") (by decide +kernel)), va_Nw.of rfl (hts (.methodLinkNest RX1 126 yX0_guardIsInTheWay "GateHalls") (by decide +kernel)), va_Nw.of rfl (hts (.methodLinkNest RX1 130 yX0_charge "GateHalls") (by decide +kernel)), va_Nw.of rfl (hts (.methodLinkNest RX1 79 yX0_fact "GateHalls") (by decide +kernel))⟩
set_option maxHeartbeats 40000000 in
set_option maxRecDepth 100000 in
/-- from the entry, for every script of at most 2048 ints, the law comes to its end with true -/
theorem whole_start {p : Program} {e : Env} {s : State} {m : MethodId} {below : List Frame} {meth : Method} {c : Code} (l : Launch) {b L : Nat} {xs : Nat → Int32} (hL : L ≤ 2048) (C0 : lw_At p s m meth c b L xs) : W p l e room_1 s m #[Value.ref b] below meth c s.heap [] 0 0 (lw_Z below #[Value.ref b] s) (entryFrame m ([Value.ref b] : List Value).toArray 4) := by
  obtain ⟨hx, hb, hr, hml, hown0, hts0, hXs, hbl, hlocks, hgv⟩ := id C0
  have hA : ∀ q : Nat, s.heap.size ≤ q → (fun q : Nat => s.heap.size ≤ q) q := fun _ h => h
  have hts : ∀ w ∈ wsL_law, w.before #[Value.ref b] s = true := fun w h => hts0 w (wsL_law_in w h)
  have hown : s.vm.findClass RL = some m.cls := hown0
  have hX : CallFix p m c cL_law 4 s #[Value.ref b] wsL_law RL := ⟨hx, hb, hml, hown, hts⟩
  have hN : gNw s := gNw_law hts0
  have hO : va_AO "GateHalls$Hall" s := va_AO.of (hts0 (.arrayOver (.object "GateHalls$Hall")) (by decide +kernel))
  obtain ⟨c0, iS0, hKn0⟩ := u_known (C := RX0) (T := TX0) (N := 9) (n := 9) hts iL_0 (hts (.instantiable RX0 9) (by decide +kernel))
  obtain ⟨c1, iS1, hKn1⟩ := u_known (C := RX1) (T := TX1) (N := 12) (n := 12) hts iL_1 (hts (.instantiable RX1 12) (by decide +kernel))
  obtain ⟨c2, iS2, hKn2⟩ := u_known (C := RX2) (T := TX2) (N := 20) (n := 20) hts iL_2 (hts (.instantiable RX2 20) (by decide +kernel))
  obtain ⟨D, hKc⟩ : ∃ D : va_G, ∀ (k : Nat) (q : vw_C), vwCl[k]? = some q → u_Kn s q.1 q.2.1 q.2.2 (D.1 k) (D.2 k) := by
    refine ⟨(fun k => if k = 0 then c0 else if k = 1 then c1 else c2, fun k => if k = 0 then iS0 else if k = 1 then iS1 else iS2), ?_⟩
    intro k q hq
    match k, hq with
    | 0, hq => cases hq; exact hKn0
    | 1, hq => cases hq; exact hKn1
    | 2, hq => cases hq; exact hKn2
    | k + 3, hq => simp [vwCl] at hq
  have hK : va_K D vwCl [] s := ⟨hKc, fun k q h => by simp at h⟩
  have hI : InW D (fun q : Nat => s.heap.size ≤ q) s.heap [] s.heap [] := ⟨fun k q h => by simp at h, ⟨fun i j p q h => by simp at h, fun k q h => by simp at h⟩, va_S.rf⟩
  have hl := lv_entry ([.ref b]) (n := 4) (Nat.le_of_ble_eq_true rfl)
  rw [lg_entry_eq]
  generalize (lg_sl ([.ref b]) ++ List.replicate (4 - (lg_sl ([.ref b])).length) Slot.unset).toArray = ls at hl ⊢
  have hl : lv_has ls 4 [(0, .ref b)] := hl
  refine gNew (ci := 1) (fs := [.null, .null, .int 0, .int 0, .null, .null, .int 0, .int 0, .null, .int 0, .int 0, .int 0]) hX iL_1 tyX1 tyX1_ok (hts (.classLink RL 7 RX1) (by decide +kernel)) (hts (.instantiable RX1 12) (by decide +kernel)) (hts (.initialized RX1) (by decide +kernel)) hK hI hA rfl (fun j hj => by rcases (show j = 0 ∨ j = 1 ∨ j = 2 ∨ j = 3 ∨ j = 4 ∨ j = 5 ∨ j = 6 ∨ j = 7 ∨ j = 8 ∨ j = 9 ∨ j = 10 ∨ j = 11 by omega) with rfl | rfl | rfl | rfl | rfl | rfl | rfl | rfl | rfl | rfl | rfl | rfl <;> rfl) (Nat.le_of_ble_eq_true rfl) (Nat.le_of_ble_eq_true rfl) dL_law_0 (fun g H hI => ?_)
  have hI : InW D (fun q : Nat => s.heap.size ≤ q) s.heap [(g, .inr (1, [.null, .null, .int 0, .int 0, .null, .null, .int 0, .int 0, .null, .int 0, .int 0, .int 0]))] H [] := hI
  refine lv_dup hx hb dL_law_3 rfl ?_
  have hF := gFree hI hA
  refine va_callv (va_runI (As := []) (rest := [.ref g]) hX (c_X1_init l D g (fun _ => 0) H.size) (cwI 0 hts gL_law_X1_init rfl rfl rfl (hts (.initialized RX1) (by decide +kernel)) (hts (.methodLink RL 9 yX1_init) (by decide +kernel)) (hts (.instanceMethod yX1_init) (by decide +kernel)) rfl (by decide +kernel) ⟨by show _ ≤ 2048; exact Nat.le_of_ble_eq_true rfl, by show _ ≤ 84000; exact Nat.le_of_ble_eq_true rfl⟩) ⟨gPreE_blind, fun U hU hW => ⟨rfl, (gPre_ok (av := [.ref g]) hI hK hN U hU hW).2, va_AO.moved hW.alike hO⟩⟩ rfl rfl hl.1 rfl (lv_room (Nat.le_of_ble_eq_true rfl)) dL_law_4 ⟨Nat.le_of_ble_eq_true rfl, Nat.le_of_ble_eq_true rfl⟩) hI.2.2 (fun q _ h => hF q h) hF (fun u t H1 locs ht hvm hw hB hz1 hk1 hS => ?_)
  obtain ⟨qc, cI, cH⟩ := u
  obtain ⟨⟨hP1, hD1⟩, hK1⟩ := hB
  rw [ht] at hP1
  have hK : va_K D vwCl (gTy cI cH) s := va_K.moved hvm.symm hK1
  have hI : InW D (fun q : Nat => s.heap.size ≤ q) s.heap (wCn g qc cI cH (fun _ => 0) (fun _ => 0) 0 g0) H1 locs := ⟨hP1, hD1.weaken (fun _ q _ h => hF q.1 h), hS⟩
  clear hP1 hD1 hK1 hF hk1 hz1
  generalize H1 = H at hI ht ⊢
  refine lv_astore_n (lv' := [(1, .ref g), (0, .ref b)]) hx hb dL_law_7 rfl hl (by decide) rfl (fun ls hl => ?_)
  refine gNew (ci := 2) (fs := [.int 0, .null, .null, .null, .null, .null, .null, .null, .null, .null, .null, .int 0, .int 0, .null, .int 0, .int 0, .int 0, .int 0, .null, .null]) hX iL_2 tyX2 tyX2_ok (hts (.classLink RL 10 RX2) (by decide +kernel)) (hts (.instantiable RX2 20) (by decide +kernel)) (hts (.initialized RX2) (by decide +kernel)) hK hI hA rfl (fun j hj => by rcases (show j = 0 ∨ j = 1 ∨ j = 2 ∨ j = 3 ∨ j = 4 ∨ j = 5 ∨ j = 6 ∨ j = 7 ∨ j = 8 ∨ j = 9 ∨ j = 10 ∨ j = 11 ∨ j = 12 ∨ j = 13 ∨ j = 14 ∨ j = 15 ∨ j = 16 ∨ j = 17 ∨ j = 18 ∨ j = 19 by omega) with rfl | rfl | rfl | rfl | rfl | rfl | rfl | rfl | rfl | rfl | rfl | rfl | rfl | rfl | rfl | rfl | rfl | rfl | rfl | rfl <;> rfl) (Nat.le_of_ble_eq_true rfl) (Nat.le_of_ble_eq_true rfl) dL_law_8 (fun h H hI => ?_)
  refine lv_dup hx hb dL_law_11 rfl ?_
  have hF := gFree (InW_right hI) hA
  have hK0 : va_K D vwCl [] s := hK.sub (tys' := []) [] rfl
  refine va_callv (va_runI (As := []) (rest := [.ref h]) hX (c_X2_init l D h H.size) (cwI 0 hts gL_law_X2_init rfl rfl rfl (hts (.initialized RX2) (by decide +kernel)) (hts (.methodLink RL 12 yX2_init) (by decide +kernel)) (hts (.instanceMethod yX2_init) (by decide +kernel)) rfl (by decide +kernel) ⟨by show _ ≤ 2048; exact Nat.le_of_ble_eq_true rfl, by show _ ≤ 84000; exact Nat.le_of_ble_eq_true rfl⟩) ⟨gPre_blind, gPre_ok (InW_right hI) hK0 hN⟩ rfl rfl hl.1 rfl (lv_room (Nat.le_of_ble_eq_true rfl)) dL_law_12 ⟨Nat.le_of_ble_eq_true rfl, Nat.le_of_ble_eq_true rfl⟩) hI.2.2 (fun q _ h => hF q h) hF (fun u t H1 locs ht hvm hw hB hz1 hk1 hS => ?_)
  obtain ⟨qm, cJ⟩ := u
  obtain ⟨⟨hP1, hD1⟩, hK1⟩ := hB
  rw [ht] at hP1
  have hK1 : va_K D vwCl [(cJ, .int)] s := va_K.moved hvm.symm hK1
  have hKK := hK.app hK1
  obtain rfl := gK_int hKK 0 2 rfl rfl
  obtain ⟨hPj, hDj⟩ := gJoinR hI hA hk1 hP1 hD1
  have hI : InW D (fun q : Nat => s.heap.size ≤ q) s.heap (wCn g qc cI cH (fun _ => 0) (fun _ => 0) 0 g0 ++ wM h qm cI (fun _ => 0) g0) H1 locs := ⟨hPj, hDj, hS⟩
  refine lv_astore_n (lv' := [(2, .ref h), (1, .ref g), (0, .ref b)]) hx hb dL_law_15 rfl hl (by decide) rfl (fun ls hl => ?_)
  refine lv_iconst (v := 0) hx hb dL_law_16 (by decide) ?_
  refine lv_istore_n (lv' := [(3, .int 0), (2, .ref h), (1, .ref g), (0, .ref b)]) hx hb dL_law_17 rfl hl (by decide) rfl (fun ls hl => ?_)
  refine W.widen (k := 20 + 0) (n := 33986 + 9 * 0) (Nat.le_of_ble_eq_true rfl) (Nat.le_of_ble_eq_true rfl) ?_
  exact law_loop hL C0 hK hN 513 0 0 g0 (fun _ => 0) (fun _ => 0) (fun _ => 0) H1 locs ls (by omega) (by omega) (Nat.le_refl _) g0_I g0_K hI (lv_sub hl [3, 2, 1, 0] rfl)
end
section
set_option maxHeartbeats 4000000 in
theorem lw_walk (l : Launch) (b : Addr) (xs : List Int32) : MetFree l x (headSpec (Jvm.Cond.code x code maxLocals ret :: tables_1) room_1) (lw_P b xs) (fun _ _ _ _ _ => True) lw_Q := by
  refine MetFree.of_bodyS (code := code) (maxLocals := maxLocals) (ret := ret) (by decide) ?_ ?_
  · intro args s m h hn
    obtain ⟨meth, c, h1, h2, h3, h4, h5, h6, -, -⟩ := Cond.code_spec hn (atoms_spec (ws := Jvm.Cond.code x code maxLocals ret :: tables_1) h _ List.mem_cons_self)
    exact ⟨meth, c, h1, h2, h3, h4, h5, h6⟩
  · intro p e s m args below meth c s₁ B hml0 hP _
    obtain ⟨rfl, hx, hbd, hgv⟩ := hP
    obtain ⟨scr, harrAt, hlist, hof, hsmall⟩ := hx
    obtain ⟨hcb, hkn, -, -⟩ := State.arrayAt?_spec harrAt
    have hown : s.vm.findClass R_law = some m.cls := findClass_of_methodNamed B.named
    have hts0 : ∀ c ∈ (Jvm.Cond.code x code maxLocals ret :: tables_1), c.before #[Value.ref b] s = true := atoms_spec (ws := Jvm.Cond.code x code maxLocals ret :: tables_1) B.pre
    have hts : ∀ w ∈ lw_tbl, w.before #[Value.ref b] s = true := k2_hts_sels lw_privs (fun w hw => hts0 w (List.mem_cons_of_mem _ hw)) lw_privs_ok
    have hml : c.maxLocals = 4 := B.maxLocals_eq (hts0 _ List.mem_cons_self)
    have X₀ : Stand p l e room_1 s m #[Value.ref b] below meth c s₁ [] 0 0 := Stand.of_body B
    have hh0 : s₁.heap = s.heap := by rw [B.state]; rfl
    have hsz : scr.slots.size = xs.length := by rw [← Array.length_toList, hlist, List.length_map]
    have hval : ∀ j : Nat, j < xs.length → scr.slots[j]? = some (.int (xs.getD j 0)) := fun j hj => by
      rw [← Array.getElem?_toList, hlist]
      simp [hj]
    have hbl : b < s.heap.size := (Array.getElem?_eq_some_iff.mp hcb).1
    have hX : va_X b xs.length (fun j => xs.getD j 0) s s.heap := ⟨scr, hcb, hof, hkn, hsz, hval⟩
    have K : W p l e room_1 s m #[Value.ref b] below meth c s₁.heap [] 0 0 (lw_Z below #[Value.ref b] s) (entryFrame m ([Value.ref b] : List Value).toArray 4) := by
      rw [hh0]
      exact whole_start l hbd ⟨B.exec, B.bytes, B.returns, hml, hown, hts, hX, hbl, B.notSynchronized, hgv⟩
    obtain ⟨t, a1, o, b1, b2, b3⟩ := K s₁ rfl X₀
    exact ⟨t, o, a1, b1, b2, b3⟩
theorem lw_pre_spec {args : Array Value} {s : State} (h : (Jvm.Cond.and given_1 narrow_1).before args s = true) (hr : rest_1_c.before args s = true) : ∃ (b : Addr) (xs : List Int32), lw_P b xs args s := by
  have hs := flat_of_before _ h
  have hq := flat_of_before _ hr
  have hc : (Cond.count 1).before args s = true := hs _ (by decide +kernel)
  have harr : (Cond.arrayOf (.arg 0) .int).before args s = true := hs _ (by decide +kernel)
  have hle : (Cond.le (.length (.arg 0)) (.int 2048)).before args s = true := hs _ (by decide +kernel)
  have hlen : (Cond.isInt (.length (.arg 0))).before args s = true := hq _ (by decide +kernel)
  have hall : (Cond.all (.arg 0) (.isInt (.elem (.arg 0) (.index 0)))).before args s = true := hq _ (by decide +kernel)
  obtain ⟨b, xs, hb, hx⟩ := State.ints_of_pre rfl harr hlen hall
  have hsm : xs.length < 2 ^ 31 := hx.choose_spec.2.2.2
  have hev : (Term.length (.arg 0)).eval args s none [] s = some (.int xs.length.toInt32) := hx.length_eval hb
  have hv := Cond.le_ints hev (show (Term.int 2048).eval args s none [] s = some (.int 2048) from rfl)
  have hd : xs.length.toInt32 ≤ 2048 := by
    simpa [Cond.before, Cond.holds, hv] using hle
  have hN : xs.length ≤ 2048 := (Int32.ofNat_le_ofNat hsm (by decide)).mp (show Int32.ofNat xs.length ≤ Int32.ofNat 2048 from hd)
  exact ⟨b, xs, Cond.one_arg hc (show args[0]? = some (.ref b) from hb), hx, hN, h⟩
theorem lw_comes (l : Launch) : Comes l x (Jvm.Cond.code x code maxLocals ret :: tables_1) room_1 (fun tb e args s => Calls_1 tb e args s ∧ rest_1 tb e args s ∧ Pre_1 tb e args s)
    (fun _ _ args s o t => lw_Q args s o t) := by
  intro p e ha hc hk s m args below hf hfit hheap happ hpre
  obtain ⟨b, xs, hP⟩ := lw_pre_spec hpre.2.2 hpre.2.1
  obtain ⟨k, o, h1, h2, h3, hQ⟩ := lw_walk l b xs p e ha hc hk s m args below hf ((Spec.applies_iff_loose hf).mp happ).1 hP trivial
  exact ⟨k, o, h1, h2, h3, hQ⟩
theorem lw_frame {s t : State} {o : Outcome} {args : Array Value} (h : Framed s o t [] 600000 7302250) :
    Framed s o t (fieldLocs frame_1_writes args s ++ arrayLocs frame_1_arrays args s ++ staticLocs frame_1_statics s) 600000 7302250 := h
theorem lw_limb (L : Cond) (hL : ∀ (args : Array Value) (s t : State), L.after args s (.returned (some (.int 1))) t = true) :
    ArmFor flags0 classFile x code maxLocals ret World_1 tables_1 room_1 Calls_1 rest_1 Pre_1
      (fun tb e a s o t => postC L tb e a s o t ∧ Framed s o t (fieldLocs frame_1_writes a s ++ arrayLocs frame_1_arrays a s ++ staticLocs frame_1_statics s) 600000 7302250) := by
  intro l _ _ _ p e ha hc hk s m args below hf hfit hheap happ hpre
  obtain ⟨k, o, h1, h2, h3, rfl, hF⟩ := lw_comes l p e ha hc hk s m args below hf hfit hheap happ hpre
  exact ⟨k, _, h1, h2, h3, hL args s _, lw_frame hF⟩
theorem i_vc : Claimed_1_1 ∧ Claimed_1_2 := ⟨lw_limb limb_1_1 (fun args s t => by simp [limb_1_1, Cond.after, Cond.holds, Cond.value]), lw_limb limb_1_2 (fun args s t => Cond.after_iff.mpr (by
  first | (rw [show limb_1_2 = Cond.eq .result (.int 1) from rfl, Cond.eq_ints (x := 1) (y := 1) rfl rfl]; simp; done) | (simp [limb_1_2, Cond.value, Term.eval]; done)))⟩
end
