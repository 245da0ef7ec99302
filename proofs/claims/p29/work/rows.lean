section
-- ===== PART A: goes FIRST, ahead of the names: the tables' words, and 'selects' of the private methods out of them =====
/-- a private method of a class that the tables say can be made, by its rows of tables_1 -/
def lw_okq (q : MethodName × Nat) : Prop := (q.1.cls ≠ "java/lang/invoke/MethodHandle" ∧ q.1.cls ≠ "java/lang/invoke/VarHandle") ∧ Cond.instantiable q.1.cls q.2 ∈ tables_1 ∧ Cond.privateMethod q.1 ∈ tables_1 ∧ Cond.instanceMethod q.1 ∈ tables_1
theorem lw_p0 : lw_okq (⟨"PickSlots", "startTrial", "()V"⟩, 9) := ⟨⟨by decide +kernel, by decide +kernel⟩, List.mem_of_getElem? (i := 10) (by decide +kernel), List.mem_of_getElem? (i := 178) (by decide +kernel), List.mem_of_getElem? (i := 179) (by decide +kernel)⟩
theorem lw_p1 : lw_okq (⟨"PickSlots", "endTrial", "(I)I"⟩, 9) := ⟨⟨by decide +kernel, by decide +kernel⟩, List.mem_of_getElem? (i := 10) (by decide +kernel), List.mem_of_getElem? (i := 206) (by decide +kernel), List.mem_of_getElem? (i := 207) (by decide +kernel)⟩
theorem lw_p2 : lw_okq (⟨"PickSlots", "keepTrial", "()V"⟩, 9) := ⟨⟨by decide +kernel, by decide +kernel⟩, List.mem_of_getElem? (i := 10) (by decide +kernel), List.mem_of_getElem? (i := 210) (by decide +kernel), List.mem_of_getElem? (i := 211) (by decide +kernel)⟩
theorem lw_p3 : lw_okq (⟨"PickSlots", "dropOldestState", "()V"⟩, 9) := ⟨⟨by decide +kernel, by decide +kernel⟩, List.mem_of_getElem? (i := 10) (by decide +kernel), List.mem_of_getElem? (i := 214) (by decide +kernel), List.mem_of_getElem? (i := 215) (by decide +kernel)⟩
theorem lw_p4 : lw_okq (⟨"PickSlots$Warehouse", "demandOf", "(II)I"⟩, 13) := ⟨⟨by decide +kernel, by decide +kernel⟩, List.mem_of_getElem? (i := 65) (by decide +kernel), List.mem_of_getElem? (i := 233) (by decide +kernel), List.mem_of_getElem? (i := 234) (by decide +kernel)⟩
theorem lw_p5 : lw_okq (⟨"PickSlots$Warehouse", "isPlaced", "(I)Z"⟩, 13) := ⟨⟨by decide +kernel, by decide +kernel⟩, List.mem_of_getElem? (i := 65) (by decide +kernel), List.mem_of_getElem? (i := 257) (by decide +kernel), List.mem_of_getElem? (i := 258) (by decide +kernel)⟩
theorem lw_p6 : lw_okq (⟨"PickSlots$Warehouse", "bears", "(II)Z"⟩, 13) := ⟨⟨by decide +kernel, by decide +kernel⟩, List.mem_of_getElem? (i := 65) (by decide +kernel), List.mem_of_getElem? (i := 261) (by decide +kernel), List.mem_of_getElem? (i := 262) (by decide +kernel)⟩
theorem lw_p7 : lw_okq (⟨"PickSlots$Warehouse", "standIn", "(II)V"⟩, 13) := ⟨⟨by decide +kernel, by decide +kernel⟩, List.mem_of_getElem? (i := 65) (by decide +kernel), List.mem_of_getElem? (i := 270) (by decide +kernel), List.mem_of_getElem? (i := 271) (by decide +kernel)⟩
theorem lw_p8 : lw_okq (⟨"PickSlots$Warehouse", "bestGoing", "()I"⟩, 13) := ⟨⟨by decide +kernel, by decide +kernel⟩, List.mem_of_getElem? (i := 65) (by decide +kernel), List.mem_of_getElem? (i := 314) (by decide +kernel), List.mem_of_getElem? (i := 315) (by decide +kernel)⟩
theorem lw_p9 : lw_okq (⟨"PickSlots$Warehouse", "canGo", "(II)Z"⟩, 13) := ⟨⟨by decide +kernel, by decide +kernel⟩, List.mem_of_getElem? (i := 65) (by decide +kernel), List.mem_of_getElem? (i := 318) (by decide +kernel), List.mem_of_getElem? (i := 319) (by decide +kernel)⟩
theorem lw_p10 : lw_okq (⟨"PickSlots$Warehouse", "worthOfGoing", "(II)I"⟩, 13) := ⟨⟨by decide +kernel, by decide +kernel⟩, List.mem_of_getElem? (i := 65) (by decide +kernel), List.mem_of_getElem? (i := 322) (by decide +kernel), List.mem_of_getElem? (i := 323) (by decide +kernel)⟩
theorem lw_p11 : lw_okq (⟨"PickSlots$Warehouse", "savedByGoing", "(II)I"⟩, 13) := ⟨⟨by decide +kernel, by decide +kernel⟩, List.mem_of_getElem? (i := 65) (by decide +kernel), List.mem_of_getElem? (i := 326) (by decide +kernel), List.mem_of_getElem? (i := 327) (by decide +kernel)⟩
theorem lw_p12 : lw_okq (⟨"PickSlots$Warehouse", "presentSeason", "()I"⟩, 13) := ⟨⟨by decide +kernel, by decide +kernel⟩, List.mem_of_getElem? (i := 65) (by decide +kernel), List.mem_of_getElem? (i := 330) (by decide +kernel), List.mem_of_getElem? (i := 331) (by decide +kernel)⟩
theorem lw_p13 : lw_okq (⟨"PickSlots$Warehouse", "weeksLeft", "()I"⟩, 13) := ⟨⟨by decide +kernel, by decide +kernel⟩, List.mem_of_getElem? (i := 65) (by decide +kernel), List.mem_of_getElem? (i := 334) (by decide +kernel), List.mem_of_getElem? (i := 335) (by decide +kernel)⟩
theorem lw_p14 : lw_okq (⟨"PickSlots$Warehouse", "walkOfGoing", "(II)I"⟩, 13) := ⟨⟨by decide +kernel, by decide +kernel⟩, List.mem_of_getElem? (i := 65) (by decide +kernel), List.mem_of_getElem? (i := 338) (by decide +kernel), List.mem_of_getElem? (i := 339) (by decide +kernel)⟩
theorem lw_p15 : lw_okq (⟨"PickSlots$Warehouse", "goTo", "(II)I"⟩, 13) := ⟨⟨by decide +kernel, by decide +kernel⟩, List.mem_of_getElem? (i := 65) (by decide +kernel), List.mem_of_getElem? (i := 356) (by decide +kernel), List.mem_of_getElem? (i := 357) (by decide +kernel)⟩
def lw_privs_1 : List (MethodName × Nat) := [(⟨"PickSlots", "startTrial", "()V"⟩, 9), (⟨"PickSlots", "endTrial", "(I)I"⟩, 9), (⟨"PickSlots", "keepTrial", "()V"⟩, 9), (⟨"PickSlots", "dropOldestState", "()V"⟩, 9), (⟨"PickSlots$Warehouse", "demandOf", "(II)I"⟩, 13), (⟨"PickSlots$Warehouse", "isPlaced", "(I)Z"⟩, 13), (⟨"PickSlots$Warehouse", "bears", "(II)Z"⟩, 13), (⟨"PickSlots$Warehouse", "standIn", "(II)V"⟩, 13), (⟨"PickSlots$Warehouse", "bestGoing", "()I"⟩, 13), (⟨"PickSlots$Warehouse", "canGo", "(II)Z"⟩, 13), (⟨"PickSlots$Warehouse", "worthOfGoing", "(II)I"⟩, 13), (⟨"PickSlots$Warehouse", "savedByGoing", "(II)I"⟩, 13), (⟨"PickSlots$Warehouse", "presentSeason", "()I"⟩, 13), (⟨"PickSlots$Warehouse", "weeksLeft", "()I"⟩, 13), (⟨"PickSlots$Warehouse", "walkOfGoing", "(II)I"⟩, 13), (⟨"PickSlots$Warehouse", "goTo", "(II)I"⟩, 13)]
theorem lw_r1 : ∀ q ∈ lw_privs_1, lw_okq q := List.forall_mem_cons.mpr ⟨lw_p0, List.forall_mem_cons.mpr ⟨lw_p1, List.forall_mem_cons.mpr ⟨lw_p2, List.forall_mem_cons.mpr ⟨lw_p3, List.forall_mem_cons.mpr ⟨lw_p4, List.forall_mem_cons.mpr ⟨lw_p5, List.forall_mem_cons.mpr ⟨lw_p6, List.forall_mem_cons.mpr ⟨lw_p7, List.forall_mem_cons.mpr ⟨lw_p8, List.forall_mem_cons.mpr ⟨lw_p9, List.forall_mem_cons.mpr ⟨lw_p10, List.forall_mem_cons.mpr ⟨lw_p11, List.forall_mem_cons.mpr ⟨lw_p12, List.forall_mem_cons.mpr ⟨lw_p13, List.forall_mem_cons.mpr ⟨lw_p14, List.forall_mem_cons.mpr ⟨lw_p15, fun _ h => absurd h List.not_mem_nil⟩⟩⟩⟩⟩⟩⟩⟩⟩⟩⟩⟩⟩⟩⟩⟩
theorem lw_p16 : lw_okq (⟨"PickSlots$Warehouse", "placedGoods", "(Z)I"⟩, 13) := ⟨⟨by decide +kernel, by decide +kernel⟩, List.mem_of_getElem? (i := 65) (by decide +kernel), List.mem_of_getElem? (i := 368) (by decide +kernel), List.mem_of_getElem? (i := 369) (by decide +kernel)⟩
theorem lw_p17 : lw_okq (⟨"PickSlots$Warehouse", "sumOf", "([I)I"⟩, 13) := ⟨⟨by decide +kernel, by decide +kernel⟩, List.mem_of_getElem? (i := 65) (by decide +kernel), List.mem_of_getElem? (i := 372) (by decide +kernel), List.mem_of_getElem? (i := 373) (by decide +kernel)⟩
theorem lw_p18 : lw_okq (⟨"PickSlots", "tryText", "()I"⟩, 9) := ⟨⟨by decide +kernel, by decide +kernel⟩, List.mem_of_getElem? (i := 10) (by decide +kernel), List.mem_of_getElem? (i := 384) (by decide +kernel), List.mem_of_getElem? (i := 385) (by decide +kernel)⟩
theorem lw_p19 : lw_okq (⟨"PickSlots$OrderText", "nextSign", "()C"⟩, 6) := ⟨⟨by decide +kernel, by decide +kernel⟩, List.mem_of_getElem? (i := 20) (by decide +kernel), List.mem_of_getElem? (i := 400) (by decide +kernel), List.mem_of_getElem? (i := 401) (by decide +kernel)⟩
theorem lw_p20 : lw_okq (⟨"PickSlots$OrderText", "readSign", "(C)Z"⟩, 6) := ⟨⟨by decide +kernel, by decide +kernel⟩, List.mem_of_getElem? (i := 20) (by decide +kernel), List.mem_of_getElem? (i := 404) (by decide +kernel), List.mem_of_getElem? (i := 405) (by decide +kernel)⟩
theorem lw_p21 : lw_okq (⟨"PickSlots$OrderText", "readNumber", "()I"⟩, 6) := ⟨⟨by decide +kernel, by decide +kernel⟩, List.mem_of_getElem? (i := 20) (by decide +kernel), List.mem_of_getElem? (i := 408) (by decide +kernel), List.mem_of_getElem? (i := 409) (by decide +kernel)⟩
theorem lw_p22 : lw_okq (⟨"PickSlots$OrderText", "readTwoNumbers", "()Z"⟩, 6) := ⟨⟨by decide +kernel, by decide +kernel⟩, List.mem_of_getElem? (i := 20) (by decide +kernel), List.mem_of_getElem? (i := 415) (by decide +kernel), List.mem_of_getElem? (i := 416) (by decide +kernel)⟩
theorem lw_p23 : lw_okq (⟨"PickSlots", "hasGoodsAndSlots", "(III)Z"⟩, 9) := ⟨⟨by decide +kernel, by decide +kernel⟩, List.mem_of_getElem? (i := 10) (by decide +kernel), List.mem_of_getElem? (i := 419) (by decide +kernel), List.mem_of_getElem? (i := 420) (by decide +kernel)⟩
theorem lw_p24 : lw_okq (⟨"PickSlots", "doOrder", "(III)I"⟩, 9) := ⟨⟨by decide +kernel, by decide +kernel⟩, List.mem_of_getElem? (i := 10) (by decide +kernel), List.mem_of_getElem? (i := 425) (by decide +kernel), List.mem_of_getElem? (i := 426) (by decide +kernel)⟩
theorem lw_p25 : lw_okq (⟨"PickSlots$Warehouse", "unitsToBring", "(I)I"⟩, 13) := ⟨⟨by decide +kernel, by decide +kernel⟩, List.mem_of_getElem? (i := 65) (by decide +kernel), List.mem_of_getElem? (i := 433) (by decide +kernel), List.mem_of_getElem? (i := 434) (by decide +kernel)⟩
theorem lw_p26 : lw_okq (⟨"PickSlots$Warehouse", "bring", "(II)I"⟩, 13) := ⟨⟨by decide +kernel, by decide +kernel⟩, List.mem_of_getElem? (i := 65) (by decide +kernel), List.mem_of_getElem? (i := 437) (by decide +kernel), List.mem_of_getElem? (i := 438) (by decide +kernel)⟩
theorem lw_p27 : lw_okq (⟨"PickSlots$Warehouse", "tripsFor", "(I)I"⟩, 13) := ⟨⟨by decide +kernel, by decide +kernel⟩, List.mem_of_getElem? (i := 65) (by decide +kernel), List.mem_of_getElem? (i := 441) (by decide +kernel), List.mem_of_getElem? (i := 442) (by decide +kernel)⟩
def lw_privs_2 : List (MethodName × Nat) := [(⟨"PickSlots$Warehouse", "placedGoods", "(Z)I"⟩, 13), (⟨"PickSlots$Warehouse", "sumOf", "([I)I"⟩, 13), (⟨"PickSlots", "tryText", "()I"⟩, 9), (⟨"PickSlots$OrderText", "nextSign", "()C"⟩, 6), (⟨"PickSlots$OrderText", "readSign", "(C)Z"⟩, 6), (⟨"PickSlots$OrderText", "readNumber", "()I"⟩, 6), (⟨"PickSlots$OrderText", "readTwoNumbers", "()Z"⟩, 6), (⟨"PickSlots", "hasGoodsAndSlots", "(III)Z"⟩, 9), (⟨"PickSlots", "doOrder", "(III)I"⟩, 9), (⟨"PickSlots$Warehouse", "unitsToBring", "(I)I"⟩, 13), (⟨"PickSlots$Warehouse", "bring", "(II)I"⟩, 13), (⟨"PickSlots$Warehouse", "tripsFor", "(I)I"⟩, 13)]
theorem lw_r2 : ∀ q ∈ lw_privs_2, lw_okq q := List.forall_mem_cons.mpr ⟨lw_p16, List.forall_mem_cons.mpr ⟨lw_p17, List.forall_mem_cons.mpr ⟨lw_p18, List.forall_mem_cons.mpr ⟨lw_p19, List.forall_mem_cons.mpr ⟨lw_p20, List.forall_mem_cons.mpr ⟨lw_p21, List.forall_mem_cons.mpr ⟨lw_p22, List.forall_mem_cons.mpr ⟨lw_p23, List.forall_mem_cons.mpr ⟨lw_p24, List.forall_mem_cons.mpr ⟨lw_p25, List.forall_mem_cons.mpr ⟨lw_p26, List.forall_mem_cons.mpr ⟨lw_p27, fun _ h => absurd h List.not_mem_nil⟩⟩⟩⟩⟩⟩⟩⟩⟩⟩⟩⟩
def lw_privs : List (MethodName × Nat) := lw_privs_1 ++ (lw_privs_2)
def lw_tbl : List Cond := k2_sels lw_privs ++ tables_1
theorem lw_privs_ok : ∀ q ∈ lw_privs, lw_okq q := by
  show ∀ q ∈ lw_privs_1 ++ (lw_privs_2), lw_okq q
  exact List.forall_mem_append.mpr ⟨lw_r1, lw_r2⟩
end
section
/-! ===== BEGIN words of one list among another's, by their places ===== -/
theorem goodIn_r {big : List Cond} (ws : List Cond) (ps : List Nat) (hp : ws = ps.filterMap (fun i => big[i]?)) (h : ws.all goodWord = true) : GoodIn big ws := by
  intro w hw
  have h1 := List.all_eq_true.mp h w hw
  rw [hp] at hw
  obtain ⟨i, -, hi⟩ := List.mem_filterMap.mp hw
  have hm : w ∈ big := by first | exact List.mem_of_getElem? hi | exact List.getElem?_mem hi
  exact ⟨hm, good_of_word h1⟩
theorem goodIn_app {big a b : List Cond} (ha : GoodIn big a) (hb : GoodIn big b) : GoodIn big (a ++ b) := fun w h => (List.mem_append.mp h).elim (ha w) (hb w)
theorem goodIn_ca {big a b : List Cond} {c : Cond} (ha : GoodIn big (c :: a)) (hb : GoodIn big b) : GoodIn big (c :: (a ++ b)) := fun w h => (List.mem_cons.mp h).elim (fun e => ha w (List.mem_cons.mpr (Or.inl e))) (fun h => (List.mem_append.mp h).elim (fun h => ha w (List.mem_cons.mpr (Or.inr h))) (hb w))
theorem goodIn_sub {big ws : List Cond} (hm : ∀ w ∈ ws, w ∈ big) (h : ws.all goodWord = true) : GoodIn big ws := fun w hw => ⟨hm w hw, good_of_word (List.all_eq_true.mp h w hw)⟩
/-! ===== END ===== -/

/-! ===== BEGIN printed: names, fields, word lists, decode rows ===== -/
def RX0 : String := "PickSlots$Accounts"
def TX0 : u_T := fun k => match k with
  | 0 => ("PickSlots$Accounts", "pickWalk", "I", false)
  | 1 => ("PickSlots$Accounts", "refillWalk", "I", false)
  | 2 => ("PickSlots$Accounts", "moveWalk", "I", false)
  | 3 => ("PickSlots$Accounts", "trips", "I", false)
  | 4 => ("PickSlots$Accounts", "saved", "I", false)
  | 5 => ("PickSlots$Accounts", "moves", "I", false)
  | _ => ("PickSlots$Accounts", "picks", "I", false)
def tyX0 : Nat → FieldType := fun k => match k with
  | 0 => .int
  | 1 => .int
  | 2 => .int
  | 3 => .int
  | 4 => .int
  | 5 => .int
  | _ => .int
abbrev wsX00 : List Cond := u_ws RX0 TX0 7
theorem nmX0 : ∀ a, a < 7 → ∀ b, b < 7 → a ≠ b → (TX0 a).2.1 ≠ (TX0 b).2.1 := by decide +kernel
theorem tyX0_ok : ∀ k, k < 7 → parseFieldDescriptor (TX0 k).2.2.1 = some (tyX0 k) := by decide +kernel
abbrev cX0_init : ByteArray := prog_2_method_1_code
def yX0_init : MethodName := ⟨RX0, "<init>", "()V"⟩
abbrev cX0_copyFrom : ByteArray := prog_2_method_2_code
def yX0_copyFrom : MethodName := ⟨RX0, "copyFrom", "(LPickSlots$Accounts;)V"⟩
def RX1 : String := "PickSlots$OrderText"
def TX1 : u_T := fun k => match k with
  | 0 => ("PickSlots$OrderText", "signs", "[C", true)
  | 1 => ("PickSlots$OrderText", "length", "I", false)
  | 2 => ("PickSlots$OrderText", "at", "I", false)
  | 3 => ("PickSlots$OrderText", "kind", "I", false)
  | 4 => ("PickSlots$OrderText", "first", "I", false)
  | _ => ("PickSlots$OrderText", "second", "I", false)
def tyX1 : Nat → FieldType := fun k => match k with
  | 0 => .array .char
  | 1 => .int
  | 2 => .int
  | 3 => .int
  | 4 => .int
  | _ => .int
abbrev wsX10 : List Cond := u_ws RX1 TX1 6
theorem nmX1 : ∀ a, a < 6 → ∀ b, b < 6 → a ≠ b → (TX1 a).2.1 ≠ (TX1 b).2.1 := by decide +kernel
theorem tyX1_ok : ∀ k, k < 6 → parseFieldDescriptor (TX1 k).2.2.1 = some (tyX1 k) := by decide +kernel
abbrev cX1_init : ByteArray := prog_3_method_1_code
def yX1_init : MethodName := ⟨RX1, "<init>", "()V"⟩
abbrev cX1_append : ByteArray := prog_3_method_2_code
def yX1_append : MethodName := ⟨RX1, "append", "(I)I"⟩
abbrev cX1_startReading : ByteArray := prog_3_method_3_code
def yX1_startReading : MethodName := ⟨RX1, "startReading", "()V"⟩
abbrev cX1_isAtEnd : ByteArray := prog_3_method_4_code
def yX1_isAtEnd : MethodName := ⟨RX1, "isAtEnd", "()Z"⟩
abbrev cX1_readOrder : ByteArray := prog_3_method_5_code
def yX1_readOrder : MethodName := ⟨RX1, "readOrder", "()Z"⟩
abbrev cX1_readTwoNumbers : ByteArray := prog_3_method_6_code
def yX1_readTwoNumbers : MethodName := ⟨RX1, "readTwoNumbers", "()Z"⟩
abbrev cX1_readNumber : ByteArray := prog_3_method_7_code
def yX1_readNumber : MethodName := ⟨RX1, "readNumber", "()I"⟩
abbrev cX1_readSign : ByteArray := prog_3_method_8_code
def yX1_readSign : MethodName := ⟨RX1, "readSign", "(C)Z"⟩
abbrev cX1_nextSign : ByteArray := prog_3_method_9_code
def yX1_nextSign : MethodName := ⟨RX1, "nextSign", "()C"⟩
abbrev cX1_isDigit : ByteArray := prog_3_method_10_code
def yX1_isDigit : MethodName := ⟨RX1, "isDigit", "(C)Z"⟩
def RX2 : String := "PickSlots$Slots"
def TX2 : u_T := fun k => match k with
  | _ => ("", "", "", false)
def tyX2 : Nat → FieldType := fun k => match k with
  | _ => .int
abbrev wsX20 : List Cond := u_ws RX2 TX2 0
theorem nmX2 : ∀ a, a < 0 → ∀ b, b < 0 → a ≠ b → (TX2 a).2.1 ≠ (TX2 b).2.1 := by decide +kernel
theorem tyX2_ok : ∀ k, k < 0 → parseFieldDescriptor (TX2 k).2.2.1 = some (tyX2 k) := by decide +kernel
abbrev cX2_isSlot : ByteArray := prog_4_method_2_code
def yX2_isSlot : MethodName := ⟨RX2, "isSlot", "(I)Z"⟩
abbrev cX2_walkTo : ByteArray := prog_4_method_3_code
def yX2_walkTo : MethodName := ⟨RX2, "walkTo", "(I)I"⟩
abbrev cX2_heaviestAt : ByteArray := prog_4_method_4_code
def yX2_heaviestAt : MethodName := ⟨RX2, "heaviestAt", "(I)I"⟩
abbrev cX2_wayBetween : ByteArray := prog_4_method_5_code
def yX2_wayBetween : MethodName := ⟨RX2, "wayBetween", "(II)I"⟩
abbrev cX2_greatestHeightFor : ByteArray := prog_4_method_6_code
def yX2_greatestHeightFor : MethodName := ⟨RX2, "greatestHeightFor", "(I)I"⟩
def RX3 : String := "PickSlots$SortedRow"
def TX3 : u_T := fun k => match k with
  | 0 => ("PickSlots$SortedRow", "values", "[I", true)
  | _ => ("PickSlots$SortedRow", "size", "I", false)
def tyX3 : Nat → FieldType := fun k => match k with
  | 0 => .array .int
  | _ => .int
abbrev wsX30 : List Cond := u_ws RX3 TX3 2
theorem nmX3 : ∀ a, a < 2 → ∀ b, b < 2 → a ≠ b → (TX3 a).2.1 ≠ (TX3 b).2.1 := by decide +kernel
theorem tyX3_ok : ∀ k, k < 2 → parseFieldDescriptor (TX3 k).2.2.1 = some (tyX3 k) := by decide +kernel
abbrev cX3_init : ByteArray := prog_5_method_1_code
def yX3_init : MethodName := ⟨RX3, "<init>", "()V"⟩
abbrev cX3_insert : ByteArray := prog_5_method_2_code
def yX3_insert : MethodName := ⟨RX3, "insert", "(I)V"⟩
abbrev cX3_valueAt : ByteArray := prog_5_method_3_code
def yX3_valueAt : MethodName := ⟨RX3, "valueAt", "(I)I"⟩
def RX4 : String := "PickSlots$Warehouse"
def TX4 : u_T := fun k => match k with
  | 0 => ("PickSlots$Warehouse", "weights", "[I", true)
  | 1 => ("PickSlots$Warehouse", "capacities", "[I", true)
  | 2 => ("PickSlots$Warehouse", "seasonDemands", "[I", true)
  | 3 => ("PickSlots$Warehouse", "slotOfGood", "[I", true)
  | 4 => ("PickSlots$Warehouse", "unitsInSlot", "[I", true)
  | 5 => ("PickSlots$Warehouse", "unitsInStore", "[I", true)
  | 6 => ("PickSlots$Warehouse", "weekPicks", "[I", true)
  | 7 => ("PickSlots$Warehouse", "unitsPicked", "[I", true)
  | 8 => ("PickSlots$Warehouse", "goodInSlot", "[I", true)
  | 9 => ("PickSlots$Warehouse", "settings", "[I", true)
  | 10 => ("PickSlots$Warehouse", "accounts", "LPickSlots$Accounts;", true)
  | 11 => ("PickSlots$Warehouse", "goods", "I", false)
  | _ => ("PickSlots$Warehouse", "week", "I", false)
def tyX4 : Nat → FieldType := fun k => match k with
  | 0 => .array .int
  | 1 => .array .int
  | 2 => .array .int
  | 3 => .array .int
  | 4 => .array .int
  | 5 => .array .int
  | 6 => .array .int
  | 7 => .array .int
  | 8 => .array .int
  | 9 => .array .int
  | 10 => .object "PickSlots$Accounts"
  | 11 => .int
  | _ => .int
abbrev wsX40 : List Cond := u_ws RX4 TX4 13
theorem nmX4 : ∀ a, a < 13 → ∀ b, b < 13 → a ≠ b → (TX4 a).2.1 ≠ (TX4 b).2.1 := by decide +kernel
theorem tyX4_ok : ∀ k, k < 13 → parseFieldDescriptor (TX4 k).2.2.1 = some (tyX4 k) := by decide +kernel
abbrev cX4_init : ByteArray := prog_6_method_1_code
def yX4_init : MethodName := ⟨RX4, "<init>", "()V"⟩
abbrev cX4_copyFrom : ByteArray := prog_6_method_2_code
def yX4_copyFrom : MethodName := ⟨RX4, "copyFrom", "(LPickSlots$Warehouse;)V"⟩
abbrev cX4_copyRow : ByteArray := prog_6_method_3_code
def yX4_copyRow : MethodName := ⟨RX4, "copyRow", "([I[I)V"⟩
abbrev cX4_isGood : ByteArray := prog_6_method_4_code
def yX4_isGood : MethodName := ⟨RX4, "isGood", "(I)Z"⟩
abbrev cX4_presentSeason : ByteArray := prog_6_method_5_code
def yX4_presentSeason : MethodName := ⟨RX4, "presentSeason", "()I"⟩
abbrev cX4_weeksLeft : ByteArray := prog_6_method_6_code
def yX4_weeksLeft : MethodName := ⟨RX4, "weeksLeft", "()I"⟩
abbrev cX4_demandOf : ByteArray := prog_6_method_7_code
def yX4_demandOf : MethodName := ⟨RX4, "demandOf", "(II)I"⟩
abbrev cX4_isPlaced : ByteArray := prog_6_method_8_code
def yX4_isPlaced : MethodName := ⟨RX4, "isPlaced", "(I)Z"⟩
abbrev cX4_bears : ByteArray := prog_6_method_9_code
def yX4_bears : MethodName := ⟨RX4, "bears", "(II)Z"⟩
abbrev cX4_addGood : ByteArray := prog_6_method_10_code
def yX4_addGood : MethodName := ⟨RX4, "addGood", "(II)I"⟩
abbrev cX4_changeDemand : ByteArray := prog_6_method_11_code
def yX4_changeDemand : MethodName := ⟨RX4, "changeDemand", "(III)I"⟩
abbrev cX4_addToStore : ByteArray := prog_6_method_12_code
def yX4_addToStore : MethodName := ⟨RX4, "addToStore", "(II)I"⟩
abbrev cX4_putIntoSlot : ByteArray := prog_6_method_13_code
def yX4_putIntoSlot : MethodName := ⟨RX4, "putIntoSlot", "(II)I"⟩
abbrev cX4_takeOutOfSlot : ByteArray := prog_6_method_14_code
def yX4_takeOutOfSlot : MethodName := ⟨RX4, "takeOutOfSlot", "(I)I"⟩
abbrev cX4_standIn : ByteArray := prog_6_method_15_code
def yX4_standIn : MethodName := ⟨RX4, "standIn", "(II)V"⟩
abbrev cX4_numberOfGood : ByteArray := prog_6_method_16_code
def yX4_numberOfGood : MethodName := ⟨RX4, "numberOfGood", "(II)I"⟩
abbrev cX4_numberOfSlot : ByteArray := prog_6_method_17_code
def yX4_numberOfSlot : MethodName := ⟨RX4, "numberOfSlot", "(II)I"⟩
abbrev cX4_nearestFreeSlot : ByteArray := prog_6_method_18_code
def yX4_nearestFreeSlot : MethodName := ⟨RX4, "nearestFreeSlot", "(I)I"⟩
abbrev cX4_pickUnits : ByteArray := prog_6_method_19_code
def yX4_pickUnits : MethodName := ⟨RX4, "pickUnits", "(II)I"⟩
abbrev cX4_refillSlot : ByteArray := prog_6_method_20_code
def yX4_refillSlot : MethodName := ⟨RX4, "refillSlot", "(I)I"⟩
abbrev cX4_unitsToBring : ByteArray := prog_6_method_21_code
def yX4_unitsToBring : MethodName := ⟨RX4, "unitsToBring", "(I)I"⟩
abbrev cX4_bring : ByteArray := prog_6_method_22_code
def yX4_bring : MethodName := ⟨RX4, "bring", "(II)I"⟩
abbrev cX4_tripsFor : ByteArray := prog_6_method_23_code
def yX4_tripsFor : MethodName := ⟨RX4, "tripsFor", "(I)I"⟩
abbrev cX4_finishWeek : ByteArray := prog_6_method_24_code
def yX4_finishWeek : MethodName := ⟨RX4, "finishWeek", "()I"⟩
abbrev cX4_moveGood : ByteArray := prog_6_method_25_code
def yX4_moveGood : MethodName := ⟨RX4, "moveGood", "(II)I"⟩
abbrev cX4_exchangeGoods : ByteArray := prog_6_method_26_code
def yX4_exchangeGoods : MethodName := ⟨RX4, "exchangeGoods", "(II)I"⟩
abbrev cX4_numberOfChange : ByteArray := prog_6_method_27_code
def yX4_numberOfChange : MethodName := ⟨RX4, "numberOfChange", "(III)I"⟩
abbrev cX4_numberOfBest : ByteArray := prog_6_method_28_code
def yX4_numberOfBest : MethodName := ⟨RX4, "numberOfBest", "(I)I"⟩
abbrev cX4_doBest : ByteArray := prog_6_method_29_code
def yX4_doBest : MethodName := ⟨RX4, "doBest", "(I)I"⟩
abbrev cX4_bestGoing : ByteArray := prog_6_method_30_code
def yX4_bestGoing : MethodName := ⟨RX4, "bestGoing", "()I"⟩
abbrev cX4_canGo : ByteArray := prog_6_method_31_code
def yX4_canGo : MethodName := ⟨RX4, "canGo", "(II)Z"⟩
abbrev cX4_savedByGoing : ByteArray := prog_6_method_32_code
def yX4_savedByGoing : MethodName := ⟨RX4, "savedByGoing", "(II)I"⟩
abbrev cX4_walkOfGoing : ByteArray := prog_6_method_33_code
def yX4_walkOfGoing : MethodName := ⟨RX4, "walkOfGoing", "(II)I"⟩
abbrev cX4_worthOfGoing : ByteArray := prog_6_method_34_code
def yX4_worthOfGoing : MethodName := ⟨RX4, "worthOfGoing", "(II)I"⟩
abbrev cX4_goTo : ByteArray := prog_6_method_35_code
def yX4_goTo : MethodName := ⟨RX4, "goTo", "(II)I"⟩
abbrev cX4_weeklyWalk : ByteArray := prog_6_method_36_code
def yX4_weeklyWalk : MethodName := ⟨RX4, "weeklyWalk", "(I)I"⟩
abbrev cX4_shortestWalk : ByteArray := prog_6_method_37_code
def yX4_shortestWalk : MethodName := ⟨RX4, "shortestWalk", "(ILPickSlots$SortedRow;LPickSlots$SortedRow;)I"⟩
abbrev cX4_numberOfAccount : ByteArray := prog_6_method_38_code
def yX4_numberOfAccount : MethodName := ⟨RX4, "numberOfAccount", "(I)I"⟩
abbrev cX4_numberOfWarehouse : ByteArray := prog_6_method_39_code
def yX4_numberOfWarehouse : MethodName := ⟨RX4, "numberOfWarehouse", "(I)I"⟩
abbrev cX4_placedGoods : ByteArray := prog_6_method_40_code
def yX4_placedGoods : MethodName := ⟨RX4, "placedGoods", "(Z)I"⟩
abbrev cX4_sumOf : ByteArray := prog_6_method_41_code
def yX4_sumOf : MethodName := ⟨RX4, "sumOf", "([I)I"⟩
abbrev cX4_changeSetting : ByteArray := prog_6_method_42_code
def yX4_changeSetting : MethodName := ⟨RX4, "changeSetting", "(II)I"⟩
def RX5 : String := "PickSlots"
def TX5 : u_T := fun k => match k with
  | 0 => ("PickSlots", "history", "[LPickSlots$Warehouse;", true)
  | 1 => ("PickSlots", "text", "LPickSlots$OrderText;", true)
  | 2 => ("PickSlots", "demands", "LPickSlots$SortedRow;", true)
  | 3 => ("PickSlots", "walks", "LPickSlots$SortedRow;", true)
  | 4 => ("PickSlots", "now", "LPickSlots$Warehouse;", false)
  | 5 => ("PickSlots", "trial", "LPickSlots$Warehouse;", false)
  | 6 => ("PickSlots", "states", "I", false)
  | 7 => ("PickSlots", "faultPosition", "I", false)
  | _ => ("PickSlots", "faultReason", "I", false)
def tyX5 : Nat → FieldType := fun k => match k with
  | 0 => .array (.object "PickSlots$Warehouse")
  | 1 => .object "PickSlots$OrderText"
  | 2 => .object "PickSlots$SortedRow"
  | 3 => .object "PickSlots$SortedRow"
  | 4 => .object "PickSlots$Warehouse"
  | 5 => .object "PickSlots$Warehouse"
  | 6 => .int
  | 7 => .int
  | _ => .int
abbrev wsX50 : List Cond := u_ws RX5 TX5 9
theorem nmX5 : ∀ a, a < 9 → ∀ b, b < 9 → a ≠ b → (TX5 a).2.1 ≠ (TX5 b).2.1 := by decide +kernel
theorem tyX5_ok : ∀ k, k < 9 → parseFieldDescriptor (TX5 k).2.2.1 = some (tyX5 k) := by decide +kernel
abbrev cX5_init : ByteArray := prog_1_method_1_code
def yX5_init : MethodName := ⟨RX5, "<init>", "()V"⟩
abbrev cX5_good : ByteArray := prog_1_method_2_code
def yX5_good : MethodName := ⟨RX5, "good", "(II)I"⟩
abbrev cX5_demand : ByteArray := prog_1_method_3_code
def yX5_demand : MethodName := ⟨RX5, "demand", "(III)I"⟩
abbrev cX5_deliver : ByteArray := prog_1_method_4_code
def yX5_deliver : MethodName := ⟨RX5, "deliver", "(II)I"⟩
abbrev cX5_place : ByteArray := prog_1_method_5_code
def yX5_place : MethodName := ⟨RX5, "place", "(II)I"⟩
abbrev cX5_take : ByteArray := prog_1_method_6_code
def yX5_take : MethodName := ⟨RX5, "take", "(I)I"⟩
abbrev cX5_goodOf : ByteArray := prog_1_method_7_code
def yX5_goodOf : MethodName := ⟨RX5, "goodOf", "(II)I"⟩
abbrev cX5_slotOf : ByteArray := prog_1_method_8_code
def yX5_slotOf : MethodName := ⟨RX5, "slotOf", "(II)I"⟩
abbrev cX5_nearest : ByteArray := prog_1_method_9_code
def yX5_nearest : MethodName := ⟨RX5, "nearest", "(I)I"⟩
abbrev cX5_pick : ByteArray := prog_1_method_10_code
def yX5_pick : MethodName := ⟨RX5, "pick", "(II)I"⟩
abbrev cX5_refill : ByteArray := prog_1_method_11_code
def yX5_refill : MethodName := ⟨RX5, "refill", "(I)I"⟩
abbrev cX5_endWeek : ByteArray := prog_1_method_12_code
def yX5_endWeek : MethodName := ⟨RX5, "endWeek", "()I"⟩
abbrev cX5_move : ByteArray := prog_1_method_13_code
def yX5_move : MethodName := ⟨RX5, "move", "(II)I"⟩
abbrev cX5_exchange : ByteArray := prog_1_method_14_code
def yX5_exchange : MethodName := ⟨RX5, "exchange", "(II)I"⟩
abbrev cX5_worth : ByteArray := prog_1_method_15_code
def yX5_worth : MethodName := ⟨RX5, "worth", "(III)I"⟩
abbrev cX5_best : ByteArray := prog_1_method_16_code
def yX5_best : MethodName := ⟨RX5, "best", "(I)I"⟩
abbrev cX5_improve : ByteArray := prog_1_method_17_code
def yX5_improve : MethodName := ⟨RX5, "improve", "(I)I"⟩
abbrev cX5_weekly : ByteArray := prog_1_method_18_code
def yX5_weekly : MethodName := ⟨RX5, "weekly", "(I)I"⟩
abbrev cX5_atBest : ByteArray := prog_1_method_19_code
def yX5_atBest : MethodName := ⟨RX5, "atBest", "(I)I"⟩
abbrev cX5_account : ByteArray := prog_1_method_20_code
def yX5_account : MethodName := ⟨RX5, "account", "(I)I"⟩
abbrev cX5_count : ByteArray := prog_1_method_21_code
def yX5_count : MethodName := ⟨RX5, "count", "(I)I"⟩
abbrev cX5_set : ByteArray := prog_1_method_22_code
def yX5_set : MethodName := ⟨RX5, "set", "(II)I"⟩
abbrev cX5_undo : ByteArray := prog_1_method_23_code
def yX5_undo : MethodName := ⟨RX5, "undo", "()I"⟩
abbrev cX5_type : ByteArray := prog_1_method_24_code
def yX5_type : MethodName := ⟨RX5, "type", "(I)I"⟩
abbrev cX5_fault : ByteArray := prog_1_method_26_code
def yX5_fault : MethodName := ⟨RX5, "fault", "(I)I"⟩
abbrev cX5_play : ByteArray := prog_1_method_27_code
def yX5_play : MethodName := ⟨RX5, "play", "()I"⟩
abbrev cX5_startTrial : ByteArray := prog_1_method_28_code
def yX5_startTrial : MethodName := ⟨RX5, "startTrial", "()V"⟩
abbrev cX5_endTrial : ByteArray := prog_1_method_29_code
def yX5_endTrial : MethodName := ⟨RX5, "endTrial", "(I)I"⟩
abbrev cX5_keepTrial : ByteArray := prog_1_method_30_code
def yX5_keepTrial : MethodName := ⟨RX5, "keepTrial", "()V"⟩
abbrev cX5_dropOldestState : ByteArray := prog_1_method_31_code
def yX5_dropOldestState : MethodName := ⟨RX5, "dropOldestState", "()V"⟩
abbrev cX5_tryText : ByteArray := prog_1_method_32_code
def yX5_tryText : MethodName := ⟨RX5, "tryText", "()I"⟩
abbrev cX5_hasGoodsAndSlots : ByteArray := prog_1_method_33_code
def yX5_hasGoodsAndSlots : MethodName := ⟨RX5, "hasGoodsAndSlots", "(III)Z"⟩
abbrev cX5_doOrder : ByteArray := prog_1_method_34_code
def yX5_doOrder : MethodName := ⟨RX5, "doOrder", "(III)I"⟩
abbrev cX5_isSeason : ByteArray := prog_1_method_35_code
def yX5_isSeason : MethodName := ⟨RX5, "isSeason", "(I)Z"⟩
abbrev cX5_isIn : ByteArray := prog_1_method_36_code
def yX5_isIn : MethodName := ⟨RX5, "isIn", "(III)Z"⟩
def RX6 : String := "PickSlotsModel"
def TX6 : u_T := fun k => match k with
  | _ => ("", "", "", false)
def tyX6 : Nat → FieldType := fun k => match k with
  | _ => .int
abbrev wsX60 : List Cond := u_ws RX6 TX6 0
theorem nmX6 : ∀ a, a < 0 → ∀ b, b < 0 → a ≠ b → (TX6 a).2.1 ≠ (TX6 b).2.1 := by decide +kernel
theorem tyX6_ok : ∀ k, k < 0 → parseFieldDescriptor (TX6 k).2.2.1 = some (tyX6 k) := by decide +kernel
def RJ9 : String := "java/lang/Math"
def TJ9 : u_T := fun k => match k with
  | _ => ("", "", "", false)
def tyJ9 : Nat → FieldType := fun k => match k with
  | _ => .int
abbrev wsJ90 : List Cond := u_ws RJ9 TJ9 0
theorem nmJ9 : ∀ a, a < 0 → ∀ b, b < 0 → a ≠ b → (TJ9 a).2.1 ≠ (TJ9 b).2.1 := by decide +kernel
theorem tyJ9_ok : ∀ k, k < 0 → parseFieldDescriptor (TJ9 k).2.2.1 = some (tyJ9 k) := by decide +kernel
abbrev cJ9_abs_0f7a4 : ByteArray := prog_9_method_59_code
def yJ9_abs_0f7a4 : MethodName := ⟨RJ9, "abs", "(I)I"⟩
abbrev cJ9_min_7cf53 : ByteArray := prog_9_method_69_code
def yJ9_min_7cf53 : MethodName := ⟨RJ9, "min", "(II)I"⟩
def RJ10 : String := "java/lang/System"
def TJ10 : u_T := fun k => match k with
  | _ => ("", "", "", false)
def tyJ10 : Nat → FieldType := fun k => match k with
  | _ => .int
abbrev wsJ100 : List Cond := u_ws RJ10 TJ10 0
theorem nmJ10 : ∀ a, a < 0 → ∀ b, b < 0 → a ≠ b → (TJ10 a).2.1 ≠ (TJ10 b).2.1 := by decide +kernel
theorem tyJ10_ok : ∀ k, k < 0 → parseFieldDescriptor (TJ10 k).2.2.1 = some (tyJ10 k) := by decide +kernel
def RL : String := "PickSlotsLaw"
abbrev cL_cell : ByteArray := method_2_code
def yL_cell : MethodName := ⟨RL, "cell", "([II)I"⟩
abbrev cL_up : ByteArray := method_3_code
def yL_up : MethodName := ⟨RL, "up", "(II)I"⟩
abbrev cL_mark : ByteArray := method_4_code
def yL_mark : MethodName := ⟨RL, "mark", "(LPickSlots;)J"⟩
abbrev cL_fails : ByteArray := method_5_code
def yL_fails : MethodName := ⟨RL, "fails", "(LPickSlots;)Z"⟩
abbrev cL_sound : ByteArray := method_6_code
def yL_sound : MethodName := ⟨RL, "sound", "(LPickSlots;[I)Z"⟩
abbrev cL_worths : ByteArray := method_7_code
def yL_worths : MethodName := ⟨RL, "worths", "(LPickSlots;)Z"⟩
abbrev cL_act : ByteArray := method_8_code
def yL_act : MethodName := ⟨RL, "act", "(LPickSlots;I[I)I"⟩
abbrev cL_acts : ByteArray := method_9_code
def yL_acts : MethodName := ⟨RL, "acts", "(LPickSlots;I[I)Z"⟩
abbrev cL_law : ByteArray := code
def yL_law : MethodName := ⟨RL, "law", "([I)Z"⟩
def wsX0_init : List Cond := .code yX0_init cX0_init 1 none :: ([.methodLink RX0 1 objectInit, .instanceMethod objectInit, .code objectInit ⟨#[0xb1]⟩ 1 none])
def wsX0_copyFrom : List Cond := .code yX0_copyFrom cX0_copyFrom 2 none :: ([.fieldLink RX0 7 "PickSlots$Accounts" "pickWalk" "I", .fieldLink RX0 13 "PickSlots$Accounts" "refillWalk" "I", .fieldLink RX0 16 "PickSlots$Accounts" "moveWalk" "I", .fieldLink RX0 19 "PickSlots$Accounts" "trips" "I", .fieldLink RX0 22 "PickSlots$Accounts" "saved" "I", .fieldLink RX0 25 "PickSlots$Accounts" "moves" "I", .fieldLink RX0 28 "PickSlots$Accounts" "picks" "I"] ++ wsX00)
def wsX1_init : List Cond := .code yX1_init cX1_init 1 none :: ([.methodLink RX1 3 objectInit, .instanceMethod objectInit, .code objectInit ⟨#[0xb1]⟩ 1 none, .arrayClass .char, .fieldLink RX1 9 "PickSlots$OrderText" "signs" "[C"] ++ wsX10)
def wsX5_isIn : List Cond := .code yX5_isIn cX5_isIn 3 (some .boolean) :: ([])
def wsX1_append : List Cond := .code yX1_append cX1_append 2 (some .int) :: ([.fieldLink RX1 19 "PickSlots$OrderText" "length" "I", .fieldLink RX1 9 "PickSlots$OrderText" "signs" "[C", .static yX5_isIn, .initialized RX5, .code yX5_isIn cX5_isIn 3 (some .boolean)] ++ wsX10)
def wsX1_startReading : List Cond := .code yX1_startReading cX1_startReading 1 none :: ([.fieldLink RX1 23 "PickSlots$OrderText" "at" "I"] ++ wsX10)
def wsX1_isAtEnd : List Cond := .code yX1_isAtEnd cX1_isAtEnd 1 (some .boolean) :: ([.fieldLink RX1 23 "PickSlots$OrderText" "at" "I", .fieldLink RX1 19 "PickSlots$OrderText" "length" "I"] ++ wsX10)
def wsX1_nextSign : List Cond := .code yX1_nextSign cX1_nextSign 1 (some .char) :: ([.fieldLink RX1 23 "PickSlots$OrderText" "at" "I", .fieldLink RX1 19 "PickSlots$OrderText" "length" "I", .fieldLink RX1 9 "PickSlots$OrderText" "signs" "[C"] ++ wsX10)
def wsX1_readSign : List Cond := .code yX1_readSign cX1_readSign 2 (some .boolean) :: ([.fieldLink RX1 23 "PickSlots$OrderText" "at" "I", .methodLink RX1 26 yX1_nextSign, .instanceMethod yX1_nextSign, .selects RX1 yX1_nextSign yX1_nextSign, .initialized RX1, .code yX1_nextSign cX1_nextSign 1 (some .char), .fieldLink RX1 19 "PickSlots$OrderText" "length" "I", .fieldLink RX1 9 "PickSlots$OrderText" "signs" "[C"] ++ wsX10)
def wsX1_isDigit : List Cond := .code yX1_isDigit cX1_isDigit 1 (some .boolean) :: ([])
def wsX1_readNumber : List Cond := .code yX1_readNumber cX1_readNumber 3 (some .int) :: ([.fieldLink RX1 23 "PickSlots$OrderText" "at" "I", .methodLink RX1 26 yX1_nextSign, .instanceMethod yX1_nextSign, .selects RX1 yX1_nextSign yX1_nextSign, .initialized RX1, .code yX1_nextSign cX1_nextSign 1 (some .char), .fieldLink RX1 19 "PickSlots$OrderText" "length" "I", .fieldLink RX1 9 "PickSlots$OrderText" "signs" "[C", .methodLink RX1 51 yX1_isDigit, .static yX1_isDigit, .code yX1_isDigit cX1_isDigit 1 (some .boolean)] ++ wsX10)
def wsX1_readTwoNumbers : List Cond := .code yX1_readTwoNumbers cX1_readTwoNumbers 1 (some .boolean) :: ([.fieldLink RX1 41 "PickSlots$OrderText" "first" "I", .fieldLink RX1 48 "PickSlots$OrderText" "second" "I", .methodLink RX1 37 yX1_readNumber, .instanceMethod yX1_readNumber, .selects RX1 yX1_readNumber yX1_readNumber, .initialized RX1, .code yX1_readNumber cX1_readNumber 3 (some .int), .fieldLink RX1 23 "PickSlots$OrderText" "at" "I", .methodLink RX1 26 yX1_nextSign, .instanceMethod yX1_nextSign, .selects RX1 yX1_nextSign yX1_nextSign, .code yX1_nextSign cX1_nextSign 1 (some .char), .fieldLink RX1 19 "PickSlots$OrderText" "length" "I", .fieldLink RX1 9 "PickSlots$OrderText" "signs" "[C", .methodLink RX1 51 yX1_isDigit, .static yX1_isDigit, .code yX1_isDigit cX1_isDigit 1 (some .boolean), .methodLink RX1 33 yX1_readSign, .instanceMethod yX1_readSign, .selects RX1 yX1_readSign yX1_readSign, .code yX1_readSign cX1_readSign 2 (some .boolean)] ++ wsX10)
def wsX1_readOrder_r1 : List Cond := [Cond.fieldLink RX1 30 "PickSlots$OrderText" "kind" "I", Cond.fieldLink RX1 23 "PickSlots$OrderText" "at" "I", Cond.fieldLink RX1 41 "PickSlots$OrderText" "first" "I", Cond.methodLink RX1 26 yX1_nextSign, Cond.instanceMethod yX1_nextSign, Cond.selects RX1 yX1_nextSign yX1_nextSign, Cond.initialized RX1, Cond.code yX1_nextSign cX1_nextSign 1 (some .char), Cond.fieldLink RX1 19 "PickSlots$OrderText" "length" "I", Cond.fieldLink RX1 9 "PickSlots$OrderText" "signs" "[C", Cond.methodLink RX1 33 yX1_readSign, Cond.instanceMethod yX1_readSign, Cond.selects RX1 yX1_readSign yX1_readSign, Cond.code yX1_readSign cX1_readSign 2 (some .boolean), Cond.methodLink RX1 37 yX1_readNumber, Cond.instanceMethod yX1_readNumber, Cond.selects RX1 yX1_readNumber yX1_readNumber, Cond.code yX1_readNumber cX1_readNumber 3 (some .int), Cond.methodLink RX1 51 yX1_isDigit, Cond.static yX1_isDigit, Cond.code yX1_isDigit cX1_isDigit 1 (some .boolean), Cond.methodLink RX1 44 yX1_readTwoNumbers, Cond.instanceMethod yX1_readTwoNumbers, Cond.selects RX1 yX1_readTwoNumbers yX1_readTwoNumbers]
def wsX1_readOrder_r2 : List Cond := [Cond.code yX1_readTwoNumbers cX1_readTwoNumbers 1 (some .boolean), Cond.fieldLink RX1 48 "PickSlots$OrderText" "second" "I"]
def wsX1_readOrder : List Cond := .code yX1_readOrder cX1_readOrder 1 (some .boolean) :: ((wsX1_readOrder_r1 ++ wsX1_readOrder_r2) ++ wsX10)
def wsX2_isSlot : List Cond := .code yX2_isSlot cX2_isSlot 1 (some .boolean) :: ([])
def wsX2_walkTo : List Cond := .code yX2_walkTo cX2_walkTo 1 (some .int) :: ([.fieldLink RX2 9 "PickSlots$Slots" "REACHES" "[I"])
def wsX2_heaviestAt : List Cond := .code yX2_heaviestAt cX2_heaviestAt 1 (some .int) :: ([.fieldLink RX2 13 "PickSlots$Slots" "HEAVIEST" "[I"])
def wsX2_wayBetween : List Cond := .code yX2_wayBetween cX2_wayBetween 3 (some .int) :: ([.methodLink RX2 16 Lib.Math.abs.name, .static Lib.Math.abs.name, .initialized "java/lang/Math", .code Lib.Math.abs.name Lib.Math.abs.code 1 (some .int), .fieldLink RX2 9 "PickSlots$Slots" "REACHES" "[I"])
def wsX2_greatestHeightFor : List Cond := .code yX2_greatestHeightFor cX2_greatestHeightFor 3 (some .int) :: ([.fieldLink RX2 13 "PickSlots$Slots" "HEAVIEST" "[I"])
def wsX3_init : List Cond := .code yX3_init cX3_init 1 none :: ([.methodLink RX3 3 objectInit, .instanceMethod objectInit, .code objectInit ⟨#[0xb1]⟩ 1 none, .arrayClass .int, .fieldLink RX3 9 "PickSlots$SortedRow" "values" "[I"] ++ wsX30)
def wsX3_insert : List Cond := .code yX3_insert cX3_insert 3 none :: ([.fieldLink RX3 15 "PickSlots$SortedRow" "size" "I", .fieldLink RX3 9 "PickSlots$SortedRow" "values" "[I"] ++ wsX30)
def wsX3_valueAt : List Cond := .code yX3_valueAt cX3_valueAt 2 (some .int) :: ([.fieldLink RX3 15 "PickSlots$SortedRow" "size" "I", .fieldLink RX3 9 "PickSlots$SortedRow" "values" "[I"] ++ wsX30)
def wsX4_init : List Cond := .code yX4_init cX4_init 2 none :: ([.methodLink RX4 3 objectInit, .instanceMethod objectInit, .code objectInit ⟨#[0xb1]⟩ 1 none, .arrayClass .int, .fieldLink RX4 9 "PickSlots$Warehouse" "weights" "[I", .fieldLink RX4 15 "PickSlots$Warehouse" "capacities" "[I", .fieldLink RX4 18 "PickSlots$Warehouse" "seasonDemands" "[I", .fieldLink RX4 21 "PickSlots$Warehouse" "slotOfGood" "[I", .fieldLink RX4 24 "PickSlots$Warehouse" "unitsInSlot" "[I", .fieldLink RX4 27 "PickSlots$Warehouse" "unitsInStore" "[I", .fieldLink RX4 30 "PickSlots$Warehouse" "weekPicks" "[I", .fieldLink RX4 33 "PickSlots$Warehouse" "unitsPicked" "[I", .fieldLink RX4 38 "PickSlots$Warehouse" "goodInSlot" "[I", .fieldLink RX4 41 "PickSlots$Warehouse" "settings" "[I", .classLink RX4 44 RX0, .instantiable RX0 7, .initialized RX0, .fieldLink RX4 47 "PickSlots$Warehouse" "accounts" "LPickSlots$Accounts;", .instanceMethod yX0_init, .code yX0_init cX0_init 1 none, .methodLink RX0 1 objectInit] ++ wsX40 ++ wsX00)
def wsX4_copyRow : List Cond := .code yX4_copyRow cX4_copyRow 2 none :: ([.methodLink RX4 66 Lib.Math.min.name, .static Lib.Math.min.name, .initialized "java/lang/Math", .code Lib.Math.min.name Lib.Math.min.code 2 (some .int), .methodLink RX4 72 arraycopyName, .native arraycopyName, .static arraycopyName, .initialized "java/lang/System"])
def wsX4_copyFrom_r1 : List Cond := [Cond.fieldLink RX4 9 "PickSlots$Warehouse" "weights" "[I", Cond.fieldLink RX4 15 "PickSlots$Warehouse" "capacities" "[I", Cond.fieldLink RX4 18 "PickSlots$Warehouse" "seasonDemands" "[I", Cond.fieldLink RX4 21 "PickSlots$Warehouse" "slotOfGood" "[I", Cond.fieldLink RX4 24 "PickSlots$Warehouse" "unitsInSlot" "[I", Cond.fieldLink RX4 27 "PickSlots$Warehouse" "unitsInStore" "[I", Cond.fieldLink RX4 30 "PickSlots$Warehouse" "weekPicks" "[I", Cond.fieldLink RX4 33 "PickSlots$Warehouse" "unitsPicked" "[I", Cond.fieldLink RX4 38 "PickSlots$Warehouse" "goodInSlot" "[I", Cond.fieldLink RX4 41 "PickSlots$Warehouse" "settings" "[I", Cond.fieldLink RX4 47 "PickSlots$Warehouse" "accounts" "LPickSlots$Accounts;", Cond.fieldLink RX4 59 "PickSlots$Warehouse" "goods" "I", Cond.fieldLink RX4 63 "PickSlots$Warehouse" "week" "I", Cond.methodLink RX4 51 yX4_copyRow, Cond.static yX4_copyRow, Cond.initialized RX4, Cond.code yX4_copyRow cX4_copyRow 2 none, Cond.methodLink RX4 66 Lib.Math.min.name, Cond.static Lib.Math.min.name, Cond.initialized "java/lang/Math", Cond.code Lib.Math.min.name Lib.Math.min.code 2 (some .int), Cond.methodLink RX4 72 arraycopyName, Cond.native arraycopyName, Cond.static arraycopyName]
def wsX4_copyFrom_r2 : List Cond := [Cond.initialized "java/lang/System", Cond.methodLink RX4 55 yX0_copyFrom, Cond.instanceMethod yX0_copyFrom, Cond.selects RX0 yX0_copyFrom yX0_copyFrom, Cond.initialized RX0, Cond.code yX0_copyFrom cX0_copyFrom 2 none, Cond.fieldLink RX0 7 "PickSlots$Accounts" "pickWalk" "I", Cond.fieldLink RX0 13 "PickSlots$Accounts" "refillWalk" "I", Cond.fieldLink RX0 16 "PickSlots$Accounts" "moveWalk" "I", Cond.fieldLink RX0 19 "PickSlots$Accounts" "trips" "I", Cond.fieldLink RX0 22 "PickSlots$Accounts" "saved" "I", Cond.fieldLink RX0 25 "PickSlots$Accounts" "moves" "I", Cond.fieldLink RX0 28 "PickSlots$Accounts" "picks" "I"]
def wsX4_copyFrom : List Cond := .code yX4_copyFrom cX4_copyFrom 2 none :: ((wsX4_copyFrom_r1 ++ wsX4_copyFrom_r2) ++ wsX40 ++ wsX00)
def wsX4_isGood : List Cond := .code yX4_isGood cX4_isGood 2 (some .boolean) :: ([.fieldLink RX4 59 "PickSlots$Warehouse" "goods" "I"] ++ wsX40)
def wsX4_presentSeason : List Cond := .code yX4_presentSeason cX4_presentSeason 1 (some .int) :: ([.fieldLink RX4 63 "PickSlots$Warehouse" "week" "I"] ++ wsX40)
def wsX4_weeksLeft : List Cond := .code yX4_weeksLeft cX4_weeksLeft 1 (some .int) :: ([.fieldLink RX4 63 "PickSlots$Warehouse" "week" "I"] ++ wsX40)
def wsX4_demandOf : List Cond := .code yX4_demandOf cX4_demandOf 3 (some .int) :: ([.fieldLink RX4 18 "PickSlots$Warehouse" "seasonDemands" "[I"] ++ wsX40)
def wsX4_isPlaced : List Cond := .code yX4_isPlaced cX4_isPlaced 2 (some .boolean) :: ([.fieldLink RX4 21 "PickSlots$Warehouse" "slotOfGood" "[I", .methodLink RX4 78 yX2_isSlot, .static yX2_isSlot, .initialized RX2, .code yX2_isSlot cX2_isSlot 1 (some .boolean)] ++ wsX40)
def wsX4_bears : List Cond := .code yX4_bears cX4_bears 3 (some .boolean) :: ([.fieldLink RX4 9 "PickSlots$Warehouse" "weights" "[I", .methodLink RX4 82 yX2_heaviestAt, .static yX2_heaviestAt, .initialized RX2, .code yX2_heaviestAt cX2_heaviestAt 1 (some .int), .fieldLink RX2 13 "PickSlots$Slots" "HEAVIEST" "[I"] ++ wsX40)
def wsX4_addGood : List Cond := .code yX4_addGood cX4_addGood 3 (some .int) :: ([.fieldLink RX4 59 "PickSlots$Warehouse" "goods" "I", .fieldLink RX4 9 "PickSlots$Warehouse" "weights" "[I", .fieldLink RX4 15 "PickSlots$Warehouse" "capacities" "[I", .fieldLink RX4 21 "PickSlots$Warehouse" "slotOfGood" "[I", .static yX5_isIn, .initialized RX5, .code yX5_isIn cX5_isIn 3 (some .boolean)] ++ wsX40)
def wsX5_isSeason : List Cond := .code yX5_isSeason cX5_isSeason 1 (some .boolean) :: ([])
def wsX4_changeDemand : List Cond := .code yX4_changeDemand cX4_changeDemand 5 (some .int) :: ([.fieldLink RX4 18 "PickSlots$Warehouse" "seasonDemands" "[I", .methodLink RX4 90 yX4_isGood, .instanceMethod yX4_isGood, .selects RX4 yX4_isGood yX4_isGood, .initialized RX4, .code yX4_isGood cX4_isGood 2 (some .boolean), .fieldLink RX4 59 "PickSlots$Warehouse" "goods" "I", .static yX5_isSeason, .initialized RX5, .code yX5_isSeason cX5_isSeason 1 (some .boolean), .static yX5_isIn, .code yX5_isIn cX5_isIn 3 (some .boolean), .methodLink RX4 96 yX4_demandOf, .instanceMethod yX4_demandOf, .selects RX4 yX4_demandOf yX4_demandOf, .code yX4_demandOf cX4_demandOf 3 (some .int)] ++ wsX40)
def wsX4_addToStore : List Cond := .code yX4_addToStore cX4_addToStore 3 (some .int) :: ([.fieldLink RX4 27 "PickSlots$Warehouse" "unitsInStore" "[I", .constant RX4 99 (100000), .methodLink RX4 90 yX4_isGood, .instanceMethod yX4_isGood, .selects RX4 yX4_isGood yX4_isGood, .initialized RX4, .code yX4_isGood cX4_isGood 2 (some .boolean), .fieldLink RX4 59 "PickSlots$Warehouse" "goods" "I", .static yX5_isIn, .initialized RX5, .code yX5_isIn cX5_isIn 3 (some .boolean)] ++ wsX40)
def wsX4_standIn : List Cond := .code yX4_standIn cX4_standIn 3 none :: ([.fieldLink RX4 21 "PickSlots$Warehouse" "slotOfGood" "[I", .fieldLink RX4 38 "PickSlots$Warehouse" "goodInSlot" "[I"] ++ wsX40)
def wsX4_putIntoSlot_r1 : List Cond := [Cond.fieldLink RX4 38 "PickSlots$Warehouse" "goodInSlot" "[I", Cond.methodLink RX4 90 yX4_isGood, Cond.instanceMethod yX4_isGood, Cond.selects RX4 yX4_isGood yX4_isGood, Cond.initialized RX4, Cond.code yX4_isGood cX4_isGood 2 (some .boolean), Cond.fieldLink RX4 59 "PickSlots$Warehouse" "goods" "I", Cond.methodLink RX4 78 yX2_isSlot, Cond.static yX2_isSlot, Cond.initialized RX2, Cond.code yX2_isSlot cX2_isSlot 1 (some .boolean), Cond.methodLink RX4 100 yX4_isPlaced, Cond.instanceMethod yX4_isPlaced, Cond.selects RX4 yX4_isPlaced yX4_isPlaced, Cond.code yX4_isPlaced cX4_isPlaced 2 (some .boolean), Cond.fieldLink RX4 21 "PickSlots$Warehouse" "slotOfGood" "[I", Cond.methodLink RX4 103 yX4_bears, Cond.instanceMethod yX4_bears, Cond.selects RX4 yX4_bears yX4_bears, Cond.code yX4_bears cX4_bears 3 (some .boolean), Cond.fieldLink RX4 9 "PickSlots$Warehouse" "weights" "[I", Cond.methodLink RX4 82 yX2_heaviestAt, Cond.static yX2_heaviestAt, Cond.code yX2_heaviestAt cX2_heaviestAt 1 (some .int)]
def wsX4_putIntoSlot_r2 : List Cond := [Cond.fieldLink RX2 13 "PickSlots$Slots" "HEAVIEST" "[I", Cond.methodLink RX4 107 yX4_standIn, Cond.instanceMethod yX4_standIn, Cond.selects RX4 yX4_standIn yX4_standIn, Cond.code yX4_standIn cX4_standIn 3 none, Cond.methodLink RX4 111 yX2_walkTo, Cond.static yX2_walkTo, Cond.code yX2_walkTo cX2_walkTo 1 (some .int), Cond.fieldLink RX2 9 "PickSlots$Slots" "REACHES" "[I"]
def wsX4_putIntoSlot : List Cond := .code yX4_putIntoSlot cX4_putIntoSlot 3 (some .int) :: ((wsX4_putIntoSlot_r1 ++ wsX4_putIntoSlot_r2) ++ wsX40)
def wsX4_takeOutOfSlot : List Cond := .code yX4_takeOutOfSlot cX4_takeOutOfSlot 3 (some .int) :: ([.fieldLink RX4 24 "PickSlots$Warehouse" "unitsInSlot" "[I", .fieldLink RX4 27 "PickSlots$Warehouse" "unitsInStore" "[I", .fieldLink RX4 38 "PickSlots$Warehouse" "goodInSlot" "[I", .fieldLink RX4 21 "PickSlots$Warehouse" "slotOfGood" "[I", .methodLink RX4 90 yX4_isGood, .instanceMethod yX4_isGood, .selects RX4 yX4_isGood yX4_isGood, .initialized RX4, .code yX4_isGood cX4_isGood 2 (some .boolean), .fieldLink RX4 59 "PickSlots$Warehouse" "goods" "I", .methodLink RX4 100 yX4_isPlaced, .instanceMethod yX4_isPlaced, .selects RX4 yX4_isPlaced yX4_isPlaced, .code yX4_isPlaced cX4_isPlaced 2 (some .boolean), .methodLink RX4 78 yX2_isSlot, .static yX2_isSlot, .initialized RX2, .code yX2_isSlot cX2_isSlot 1 (some .boolean)] ++ wsX40)
def wsX4_numberOfGood_r1 : List Cond := [Cond.fieldLink RX4 9 "PickSlots$Warehouse" "weights" "[I", Cond.fieldLink RX4 15 "PickSlots$Warehouse" "capacities" "[I", Cond.fieldLink RX4 21 "PickSlots$Warehouse" "slotOfGood" "[I", Cond.fieldLink RX4 24 "PickSlots$Warehouse" "unitsInSlot" "[I", Cond.fieldLink RX4 27 "PickSlots$Warehouse" "unitsInStore" "[I", Cond.fieldLink RX4 30 "PickSlots$Warehouse" "weekPicks" "[I", Cond.fieldLink RX4 33 "PickSlots$Warehouse" "unitsPicked" "[I", Cond.methodLink RX4 90 yX4_isGood, Cond.instanceMethod yX4_isGood, Cond.selects RX4 yX4_isGood yX4_isGood, Cond.initialized RX4, Cond.code yX4_isGood cX4_isGood 2 (some .boolean), Cond.fieldLink RX4 59 "PickSlots$Warehouse" "goods" "I", Cond.static yX5_isIn, Cond.initialized RX5, Cond.code yX5_isIn cX5_isIn 3 (some .boolean), Cond.methodLink RX4 100 yX4_isPlaced, Cond.instanceMethod yX4_isPlaced, Cond.selects RX4 yX4_isPlaced yX4_isPlaced, Cond.code yX4_isPlaced cX4_isPlaced 2 (some .boolean), Cond.methodLink RX4 78 yX2_isSlot, Cond.static yX2_isSlot, Cond.initialized RX2, Cond.code yX2_isSlot cX2_isSlot 1 (some .boolean)]
def wsX4_numberOfGood_r2 : List Cond := [Cond.methodLink RX4 114 yX2_greatestHeightFor, Cond.static yX2_greatestHeightFor, Cond.code yX2_greatestHeightFor cX2_greatestHeightFor 3 (some .int), Cond.fieldLink RX2 13 "PickSlots$Slots" "HEAVIEST" "[I", Cond.methodLink RX4 96 yX4_demandOf, Cond.instanceMethod yX4_demandOf, Cond.selects RX4 yX4_demandOf yX4_demandOf, Cond.code yX4_demandOf cX4_demandOf 3 (some .int), Cond.fieldLink RX4 18 "PickSlots$Warehouse" "seasonDemands" "[I"]
def wsX4_numberOfGood : List Cond := .code yX4_numberOfGood cX4_numberOfGood 3 (some .int) :: ((wsX4_numberOfGood_r1 ++ wsX4_numberOfGood_r2) ++ wsX40)
def wsX4_numberOfSlot : List Cond := .code yX4_numberOfSlot cX4_numberOfSlot 3 (some .int) :: ([.fieldLink RX4 38 "PickSlots$Warehouse" "goodInSlot" "[I", .methodLink RX4 78 yX2_isSlot, .static yX2_isSlot, .initialized RX2, .code yX2_isSlot cX2_isSlot 1 (some .boolean), .methodLink RX4 90 yX4_isGood, .instanceMethod yX4_isGood, .selects RX4 yX4_isGood yX4_isGood, .initialized RX4, .code yX4_isGood cX4_isGood 2 (some .boolean), .fieldLink RX4 59 "PickSlots$Warehouse" "goods" "I", .methodLink RX4 111 yX2_walkTo, .static yX2_walkTo, .code yX2_walkTo cX2_walkTo 1 (some .int), .fieldLink RX2 9 "PickSlots$Slots" "REACHES" "[I", .methodLink RX4 82 yX2_heaviestAt, .static yX2_heaviestAt, .code yX2_heaviestAt cX2_heaviestAt 1 (some .int), .fieldLink RX2 13 "PickSlots$Slots" "HEAVIEST" "[I"] ++ wsX40)
def wsX4_nearestFreeSlot : List Cond := .code yX4_nearestFreeSlot cX4_nearestFreeSlot 5 (some .int) :: ([.fieldLink RX4 38 "PickSlots$Warehouse" "goodInSlot" "[I", .methodLink RX4 90 yX4_isGood, .instanceMethod yX4_isGood, .selects RX4 yX4_isGood yX4_isGood, .initialized RX4, .code yX4_isGood cX4_isGood 2 (some .boolean), .fieldLink RX4 59 "PickSlots$Warehouse" "goods" "I", .methodLink RX4 103 yX4_bears, .instanceMethod yX4_bears, .selects RX4 yX4_bears yX4_bears, .code yX4_bears cX4_bears 3 (some .boolean), .fieldLink RX4 9 "PickSlots$Warehouse" "weights" "[I", .methodLink RX4 82 yX2_heaviestAt, .static yX2_heaviestAt, .initialized RX2, .code yX2_heaviestAt cX2_heaviestAt 1 (some .int), .fieldLink RX2 13 "PickSlots$Slots" "HEAVIEST" "[I", .methodLink RX4 111 yX2_walkTo, .static yX2_walkTo, .code yX2_walkTo cX2_walkTo 1 (some .int), .fieldLink RX2 9 "PickSlots$Slots" "REACHES" "[I"] ++ wsX40)
def wsX4_unitsToBring : List Cond := .code yX4_unitsToBring cX4_unitsToBring 2 (some .int) :: ([.fieldLink RX4 15 "PickSlots$Warehouse" "capacities" "[I", .fieldLink RX4 24 "PickSlots$Warehouse" "unitsInSlot" "[I", .fieldLink RX4 27 "PickSlots$Warehouse" "unitsInStore" "[I", .methodLink RX4 66 Lib.Math.min.name, .static Lib.Math.min.name, .initialized "java/lang/Math", .code Lib.Math.min.name Lib.Math.min.code 2 (some .int)] ++ wsX40)
def wsX4_tripsFor : List Cond := .code yX4_tripsFor cX4_tripsFor 3 (some .int) :: ([.fieldLink RX4 41 "PickSlots$Warehouse" "settings" "[I"] ++ wsX40)
def wsX4_bring : List Cond := .code yX4_bring cX4_bring 5 (some .int) :: ([.fieldLink RX4 9 "PickSlots$Warehouse" "weights" "[I", .fieldLink RX4 41 "PickSlots$Warehouse" "settings" "[I", .fieldLink RX4 21 "PickSlots$Warehouse" "slotOfGood" "[I", .fieldLink RX4 27 "PickSlots$Warehouse" "unitsInStore" "[I", .fieldLink RX4 24 "PickSlots$Warehouse" "unitsInSlot" "[I", .fieldLink RX4 47 "PickSlots$Warehouse" "accounts" "LPickSlots$Accounts;", .methodLink RX4 129 yX4_tripsFor, .instanceMethod yX4_tripsFor, .selects RX4 yX4_tripsFor yX4_tripsFor, .initialized RX4, .code yX4_tripsFor cX4_tripsFor 3 (some .int), .methodLink RX4 111 yX2_walkTo, .static yX2_walkTo, .initialized RX2, .code yX2_walkTo cX2_walkTo 1 (some .int), .fieldLink RX2 9 "PickSlots$Slots" "REACHES" "[I"] ++ wsX40 ++ wsX00)
def wsX4_pickUnits_r1 : List Cond := [Cond.fieldLink RX4 24 "PickSlots$Warehouse" "unitsInSlot" "[I", Cond.fieldLink RX4 41 "PickSlots$Warehouse" "settings" "[I", Cond.fieldLink RX4 21 "PickSlots$Warehouse" "slotOfGood" "[I", Cond.fieldLink RX4 33 "PickSlots$Warehouse" "unitsPicked" "[I", Cond.fieldLink RX4 30 "PickSlots$Warehouse" "weekPicks" "[I", Cond.fieldLink RX4 47 "PickSlots$Warehouse" "accounts" "LPickSlots$Accounts;", Cond.methodLink RX4 90 yX4_isGood, Cond.instanceMethod yX4_isGood, Cond.selects RX4 yX4_isGood yX4_isGood, Cond.initialized RX4, Cond.code yX4_isGood cX4_isGood 2 (some .boolean), Cond.fieldLink RX4 59 "PickSlots$Warehouse" "goods" "I", Cond.static yX5_isIn, Cond.initialized RX5, Cond.code yX5_isIn cX5_isIn 3 (some .boolean), Cond.methodLink RX4 100 yX4_isPlaced, Cond.instanceMethod yX4_isPlaced, Cond.selects RX4 yX4_isPlaced yX4_isPlaced, Cond.code yX4_isPlaced cX4_isPlaced 2 (some .boolean), Cond.methodLink RX4 78 yX2_isSlot, Cond.static yX2_isSlot, Cond.initialized RX2, Cond.code yX2_isSlot cX2_isSlot 1 (some .boolean), Cond.methodLink RX4 117 yX4_unitsToBring]
def wsX4_pickUnits_r2 : List Cond := [Cond.instanceMethod yX4_unitsToBring, Cond.selects RX4 yX4_unitsToBring yX4_unitsToBring, Cond.code yX4_unitsToBring cX4_unitsToBring 2 (some .int), Cond.fieldLink RX4 15 "PickSlots$Warehouse" "capacities" "[I", Cond.fieldLink RX4 27 "PickSlots$Warehouse" "unitsInStore" "[I", Cond.methodLink RX4 66 Lib.Math.min.name, Cond.static Lib.Math.min.name, Cond.initialized "java/lang/Math", Cond.code Lib.Math.min.name Lib.Math.min.code 2 (some .int), Cond.methodLink RX4 120 yX4_bring, Cond.instanceMethod yX4_bring, Cond.selects RX4 yX4_bring yX4_bring, Cond.code yX4_bring cX4_bring 5 (some .int), Cond.fieldLink RX4 9 "PickSlots$Warehouse" "weights" "[I", Cond.methodLink RX4 129 yX4_tripsFor, Cond.instanceMethod yX4_tripsFor, Cond.selects RX4 yX4_tripsFor yX4_tripsFor, Cond.code yX4_tripsFor cX4_tripsFor 3 (some .int), Cond.methodLink RX4 111 yX2_walkTo, Cond.static yX2_walkTo, Cond.code yX2_walkTo cX2_walkTo 1 (some .int), Cond.fieldLink RX2 9 "PickSlots$Slots" "REACHES" "[I"]
def wsX4_pickUnits : List Cond := .code yX4_pickUnits cX4_pickUnits 6 (some .int) :: ((wsX4_pickUnits_r1 ++ wsX4_pickUnits_r2) ++ wsX40 ++ wsX00)
def wsX4_refillSlot_r1 : List Cond := [Cond.methodLink RX4 90 yX4_isGood, Cond.instanceMethod yX4_isGood, Cond.selects RX4 yX4_isGood yX4_isGood, Cond.initialized RX4, Cond.code yX4_isGood cX4_isGood 2 (some .boolean), Cond.fieldLink RX4 59 "PickSlots$Warehouse" "goods" "I", Cond.methodLink RX4 100 yX4_isPlaced, Cond.instanceMethod yX4_isPlaced, Cond.selects RX4 yX4_isPlaced yX4_isPlaced, Cond.code yX4_isPlaced cX4_isPlaced 2 (some .boolean), Cond.fieldLink RX4 21 "PickSlots$Warehouse" "slotOfGood" "[I", Cond.methodLink RX4 78 yX2_isSlot, Cond.static yX2_isSlot, Cond.initialized RX2, Cond.code yX2_isSlot cX2_isSlot 1 (some .boolean), Cond.methodLink RX4 117 yX4_unitsToBring, Cond.instanceMethod yX4_unitsToBring, Cond.selects RX4 yX4_unitsToBring yX4_unitsToBring, Cond.code yX4_unitsToBring cX4_unitsToBring 2 (some .int), Cond.fieldLink RX4 15 "PickSlots$Warehouse" "capacities" "[I", Cond.fieldLink RX4 24 "PickSlots$Warehouse" "unitsInSlot" "[I", Cond.fieldLink RX4 27 "PickSlots$Warehouse" "unitsInStore" "[I", Cond.methodLink RX4 66 Lib.Math.min.name, Cond.static Lib.Math.min.name]
def wsX4_refillSlot_r2 : List Cond := [Cond.initialized "java/lang/Math", Cond.code Lib.Math.min.name Lib.Math.min.code 2 (some .int), Cond.methodLink RX4 120 yX4_bring, Cond.instanceMethod yX4_bring, Cond.selects RX4 yX4_bring yX4_bring, Cond.code yX4_bring cX4_bring 5 (some .int), Cond.fieldLink RX4 9 "PickSlots$Warehouse" "weights" "[I", Cond.fieldLink RX4 41 "PickSlots$Warehouse" "settings" "[I", Cond.fieldLink RX4 47 "PickSlots$Warehouse" "accounts" "LPickSlots$Accounts;", Cond.methodLink RX4 129 yX4_tripsFor, Cond.instanceMethod yX4_tripsFor, Cond.selects RX4 yX4_tripsFor yX4_tripsFor, Cond.code yX4_tripsFor cX4_tripsFor 3 (some .int), Cond.methodLink RX4 111 yX2_walkTo, Cond.static yX2_walkTo, Cond.code yX2_walkTo cX2_walkTo 1 (some .int), Cond.fieldLink RX2 9 "PickSlots$Slots" "REACHES" "[I"]
def wsX4_refillSlot : List Cond := .code yX4_refillSlot cX4_refillSlot 3 (some .int) :: ((wsX4_refillSlot_r1 ++ wsX4_refillSlot_r2) ++ wsX40 ++ wsX00)
def wsX4_finishWeek : List Cond := .code yX4_finishWeek cX4_finishWeek 4 (some .int) :: ([.fieldLink RX4 63 "PickSlots$Warehouse" "week" "I", .fieldLink RX4 59 "PickSlots$Warehouse" "goods" "I", .fieldLink RX4 30 "PickSlots$Warehouse" "weekPicks" "[I", .fieldLink RX4 18 "PickSlots$Warehouse" "seasonDemands" "[I", .methodLink RX4 66 Lib.Math.min.name, .static Lib.Math.min.name, .initialized "java/lang/Math", .code Lib.Math.min.name Lib.Math.min.code 2 (some .int), .methodLink RX4 138 yX4_presentSeason, .instanceMethod yX4_presentSeason, .selects RX4 yX4_presentSeason yX4_presentSeason, .initialized RX4, .code yX4_presentSeason cX4_presentSeason 1 (some .int), .methodLink RX4 96 yX4_demandOf, .instanceMethod yX4_demandOf, .selects RX4 yX4_demandOf yX4_demandOf, .code yX4_demandOf cX4_demandOf 3 (some .int)] ++ wsX40)
def wsX4_canGo : List Cond := .code yX4_canGo cX4_canGo 5 (some .boolean) :: ([.fieldLink RX4 21 "PickSlots$Warehouse" "slotOfGood" "[I", .fieldLink RX4 38 "PickSlots$Warehouse" "goodInSlot" "[I", .methodLink RX4 78 yX2_isSlot, .static yX2_isSlot, .initialized RX2, .code yX2_isSlot cX2_isSlot 1 (some .boolean), .methodLink RX4 103 yX4_bears, .instanceMethod yX4_bears, .selects RX4 yX4_bears yX4_bears, .initialized RX4, .code yX4_bears cX4_bears 3 (some .boolean), .fieldLink RX4 9 "PickSlots$Warehouse" "weights" "[I", .methodLink RX4 82 yX2_heaviestAt, .static yX2_heaviestAt, .code yX2_heaviestAt cX2_heaviestAt 1 (some .int), .fieldLink RX2 13 "PickSlots$Slots" "HEAVIEST" "[I", .methodLink RX4 90 yX4_isGood, .instanceMethod yX4_isGood, .selects RX4 yX4_isGood yX4_isGood, .code yX4_isGood cX4_isGood 2 (some .boolean), .fieldLink RX4 59 "PickSlots$Warehouse" "goods" "I"] ++ wsX40)
def wsX4_savedByGoing : List Cond := .code yX4_savedByGoing cX4_savedByGoing 5 (some .int) :: ([.fieldLink RX4 38 "PickSlots$Warehouse" "goodInSlot" "[I", .fieldLink RX4 21 "PickSlots$Warehouse" "slotOfGood" "[I", .methodLink RX4 138 yX4_presentSeason, .instanceMethod yX4_presentSeason, .selects RX4 yX4_presentSeason yX4_presentSeason, .initialized RX4, .code yX4_presentSeason cX4_presentSeason 1 (some .int), .fieldLink RX4 63 "PickSlots$Warehouse" "week" "I", .methodLink RX4 96 yX4_demandOf, .instanceMethod yX4_demandOf, .selects RX4 yX4_demandOf yX4_demandOf, .code yX4_demandOf cX4_demandOf 3 (some .int), .fieldLink RX4 18 "PickSlots$Warehouse" "seasonDemands" "[I", .methodLink RX4 90 yX4_isGood, .instanceMethod yX4_isGood, .selects RX4 yX4_isGood yX4_isGood, .code yX4_isGood cX4_isGood 2 (some .boolean), .fieldLink RX4 59 "PickSlots$Warehouse" "goods" "I", .methodLink RX4 111 yX2_walkTo, .static yX2_walkTo, .initialized RX2, .code yX2_walkTo cX2_walkTo 1 (some .int), .fieldLink RX2 9 "PickSlots$Slots" "REACHES" "[I"] ++ wsX40)
def wsX4_walkOfGoing : List Cond := .code yX4_walkOfGoing cX4_walkOfGoing 6 (some .int) :: ([.fieldLink RX4 21 "PickSlots$Warehouse" "slotOfGood" "[I", .fieldLink RX4 38 "PickSlots$Warehouse" "goodInSlot" "[I", .fieldLink RX4 9 "PickSlots$Warehouse" "weights" "[I", .methodLink RX4 161 yX2_wayBetween, .static yX2_wayBetween, .initialized RX2, .code yX2_wayBetween cX2_wayBetween 3 (some .int), .methodLink RX2 16 Lib.Math.abs.name, .static Lib.Math.abs.name, .initialized "java/lang/Math", .code Lib.Math.abs.name Lib.Math.abs.code 1 (some .int), .fieldLink RX2 9 "PickSlots$Slots" "REACHES" "[I", .methodLink RX4 90 yX4_isGood, .instanceMethod yX4_isGood, .selects RX4 yX4_isGood yX4_isGood, .initialized RX4, .code yX4_isGood cX4_isGood 2 (some .boolean), .fieldLink RX4 59 "PickSlots$Warehouse" "goods" "I"] ++ wsX40)
def wsX4_goTo_r1 : List Cond := [Cond.fieldLink RX4 47 "PickSlots$Warehouse" "accounts" "LPickSlots$Accounts;", Cond.fieldLink RX4 21 "PickSlots$Warehouse" "slotOfGood" "[I", Cond.fieldLink RX4 38 "PickSlots$Warehouse" "goodInSlot" "[I", Cond.methodLink RX4 155 yX4_savedByGoing, Cond.instanceMethod yX4_savedByGoing, Cond.selects RX4 yX4_savedByGoing yX4_savedByGoing, Cond.initialized RX4, Cond.code yX4_savedByGoing cX4_savedByGoing 5 (some .int), Cond.methodLink RX4 138 yX4_presentSeason, Cond.instanceMethod yX4_presentSeason, Cond.selects RX4 yX4_presentSeason yX4_presentSeason, Cond.code yX4_presentSeason cX4_presentSeason 1 (some .int), Cond.fieldLink RX4 63 "PickSlots$Warehouse" "week" "I", Cond.methodLink RX4 96 yX4_demandOf, Cond.instanceMethod yX4_demandOf, Cond.selects RX4 yX4_demandOf yX4_demandOf, Cond.code yX4_demandOf cX4_demandOf 3 (some .int), Cond.fieldLink RX4 18 "PickSlots$Warehouse" "seasonDemands" "[I", Cond.methodLink RX4 90 yX4_isGood, Cond.instanceMethod yX4_isGood, Cond.selects RX4 yX4_isGood yX4_isGood, Cond.code yX4_isGood cX4_isGood 2 (some .boolean), Cond.fieldLink RX4 59 "PickSlots$Warehouse" "goods" "I", Cond.methodLink RX4 111 yX2_walkTo]
def wsX4_goTo_r2 : List Cond := [Cond.static yX2_walkTo, Cond.initialized RX2, Cond.code yX2_walkTo cX2_walkTo 1 (some .int), Cond.fieldLink RX2 9 "PickSlots$Slots" "REACHES" "[I", Cond.methodLink RX4 149 yX4_walkOfGoing, Cond.instanceMethod yX4_walkOfGoing, Cond.selects RX4 yX4_walkOfGoing yX4_walkOfGoing, Cond.code yX4_walkOfGoing cX4_walkOfGoing 6 (some .int), Cond.fieldLink RX4 9 "PickSlots$Warehouse" "weights" "[I", Cond.methodLink RX4 161 yX2_wayBetween, Cond.static yX2_wayBetween, Cond.code yX2_wayBetween cX2_wayBetween 3 (some .int), Cond.methodLink RX2 16 Lib.Math.abs.name, Cond.static Lib.Math.abs.name, Cond.initialized "java/lang/Math", Cond.code Lib.Math.abs.name Lib.Math.abs.code 1 (some .int), Cond.methodLink RX4 107 yX4_standIn, Cond.instanceMethod yX4_standIn, Cond.selects RX4 yX4_standIn yX4_standIn, Cond.code yX4_standIn cX4_standIn 3 none]
def wsX4_goTo : List Cond := .code yX4_goTo cX4_goTo 6 (some .int) :: ((wsX4_goTo_r1 ++ wsX4_goTo_r2) ++ wsX40 ++ wsX00)
def wsX4_moveGood_r1 : List Cond := [Cond.fieldLink RX4 38 "PickSlots$Warehouse" "goodInSlot" "[I", Cond.constant RX4 145 (100000000), Cond.methodLink RX4 90 yX4_isGood, Cond.instanceMethod yX4_isGood, Cond.selects RX4 yX4_isGood yX4_isGood, Cond.initialized RX4, Cond.code yX4_isGood cX4_isGood 2 (some .boolean), Cond.fieldLink RX4 59 "PickSlots$Warehouse" "goods" "I", Cond.methodLink RX4 78 yX2_isSlot, Cond.static yX2_isSlot, Cond.initialized RX2, Cond.code yX2_isSlot cX2_isSlot 1 (some .boolean), Cond.methodLink RX4 142 yX4_canGo, Cond.instanceMethod yX4_canGo, Cond.selects RX4 yX4_canGo yX4_canGo, Cond.code yX4_canGo cX4_canGo 5 (some .boolean), Cond.fieldLink RX4 21 "PickSlots$Warehouse" "slotOfGood" "[I", Cond.methodLink RX4 103 yX4_bears, Cond.instanceMethod yX4_bears, Cond.selects RX4 yX4_bears yX4_bears, Cond.code yX4_bears cX4_bears 3 (some .boolean), Cond.fieldLink RX4 9 "PickSlots$Warehouse" "weights" "[I", Cond.methodLink RX4 82 yX2_heaviestAt, Cond.static yX2_heaviestAt]
def wsX4_moveGood_r2 : List Cond := [Cond.code yX2_heaviestAt cX2_heaviestAt 1 (some .int), Cond.fieldLink RX2 13 "PickSlots$Slots" "HEAVIEST" "[I", Cond.methodLink RX4 146 yX4_goTo, Cond.instanceMethod yX4_goTo, Cond.selects RX4 yX4_goTo yX4_goTo, Cond.code yX4_goTo cX4_goTo 6 (some .int), Cond.fieldLink RX4 47 "PickSlots$Warehouse" "accounts" "LPickSlots$Accounts;", Cond.methodLink RX4 155 yX4_savedByGoing, Cond.instanceMethod yX4_savedByGoing, Cond.selects RX4 yX4_savedByGoing yX4_savedByGoing, Cond.code yX4_savedByGoing cX4_savedByGoing 5 (some .int), Cond.methodLink RX4 138 yX4_presentSeason, Cond.instanceMethod yX4_presentSeason, Cond.selects RX4 yX4_presentSeason yX4_presentSeason, Cond.code yX4_presentSeason cX4_presentSeason 1 (some .int), Cond.fieldLink RX4 63 "PickSlots$Warehouse" "week" "I", Cond.methodLink RX4 96 yX4_demandOf, Cond.instanceMethod yX4_demandOf, Cond.selects RX4 yX4_demandOf yX4_demandOf, Cond.code yX4_demandOf cX4_demandOf 3 (some .int), Cond.fieldLink RX4 18 "PickSlots$Warehouse" "seasonDemands" "[I", Cond.methodLink RX4 111 yX2_walkTo, Cond.static yX2_walkTo, Cond.code yX2_walkTo cX2_walkTo 1 (some .int)]
def wsX4_moveGood_r3 : List Cond := [Cond.fieldLink RX2 9 "PickSlots$Slots" "REACHES" "[I", Cond.methodLink RX4 149 yX4_walkOfGoing, Cond.instanceMethod yX4_walkOfGoing, Cond.selects RX4 yX4_walkOfGoing yX4_walkOfGoing, Cond.code yX4_walkOfGoing cX4_walkOfGoing 6 (some .int), Cond.methodLink RX4 161 yX2_wayBetween, Cond.static yX2_wayBetween, Cond.code yX2_wayBetween cX2_wayBetween 3 (some .int), Cond.methodLink RX2 16 Lib.Math.abs.name, Cond.static Lib.Math.abs.name, Cond.initialized "java/lang/Math", Cond.code Lib.Math.abs.name Lib.Math.abs.code 1 (some .int), Cond.methodLink RX4 107 yX4_standIn, Cond.instanceMethod yX4_standIn, Cond.selects RX4 yX4_standIn yX4_standIn, Cond.code yX4_standIn cX4_standIn 3 none]
def wsX4_moveGood : List Cond := .code yX4_moveGood cX4_moveGood 3 (some .int) :: ((wsX4_moveGood_r1 ++ (wsX4_moveGood_r2 ++ wsX4_moveGood_r3)) ++ wsX40 ++ wsX00)
def wsX4_exchangeGoods_r1 : List Cond := [Cond.fieldLink RX4 21 "PickSlots$Warehouse" "slotOfGood" "[I", Cond.constant RX4 145 (100000000), Cond.methodLink RX4 90 yX4_isGood, Cond.instanceMethod yX4_isGood, Cond.selects RX4 yX4_isGood yX4_isGood, Cond.initialized RX4, Cond.code yX4_isGood cX4_isGood 2 (some .boolean), Cond.fieldLink RX4 59 "PickSlots$Warehouse" "goods" "I", Cond.methodLink RX4 100 yX4_isPlaced, Cond.instanceMethod yX4_isPlaced, Cond.selects RX4 yX4_isPlaced yX4_isPlaced, Cond.code yX4_isPlaced cX4_isPlaced 2 (some .boolean), Cond.methodLink RX4 78 yX2_isSlot, Cond.static yX2_isSlot, Cond.initialized RX2, Cond.code yX2_isSlot cX2_isSlot 1 (some .boolean), Cond.methodLink RX4 142 yX4_canGo, Cond.instanceMethod yX4_canGo, Cond.selects RX4 yX4_canGo yX4_canGo, Cond.code yX4_canGo cX4_canGo 5 (some .boolean), Cond.fieldLink RX4 38 "PickSlots$Warehouse" "goodInSlot" "[I", Cond.methodLink RX4 103 yX4_bears, Cond.instanceMethod yX4_bears, Cond.selects RX4 yX4_bears yX4_bears]
def wsX4_exchangeGoods_r2 : List Cond := [Cond.code yX4_bears cX4_bears 3 (some .boolean), Cond.fieldLink RX4 9 "PickSlots$Warehouse" "weights" "[I", Cond.methodLink RX4 82 yX2_heaviestAt, Cond.static yX2_heaviestAt, Cond.code yX2_heaviestAt cX2_heaviestAt 1 (some .int), Cond.fieldLink RX2 13 "PickSlots$Slots" "HEAVIEST" "[I", Cond.methodLink RX4 146 yX4_goTo, Cond.instanceMethod yX4_goTo, Cond.selects RX4 yX4_goTo yX4_goTo, Cond.code yX4_goTo cX4_goTo 6 (some .int), Cond.fieldLink RX4 47 "PickSlots$Warehouse" "accounts" "LPickSlots$Accounts;", Cond.methodLink RX4 155 yX4_savedByGoing, Cond.instanceMethod yX4_savedByGoing, Cond.selects RX4 yX4_savedByGoing yX4_savedByGoing, Cond.code yX4_savedByGoing cX4_savedByGoing 5 (some .int), Cond.methodLink RX4 138 yX4_presentSeason, Cond.instanceMethod yX4_presentSeason, Cond.selects RX4 yX4_presentSeason yX4_presentSeason, Cond.code yX4_presentSeason cX4_presentSeason 1 (some .int), Cond.fieldLink RX4 63 "PickSlots$Warehouse" "week" "I", Cond.methodLink RX4 96 yX4_demandOf, Cond.instanceMethod yX4_demandOf, Cond.selects RX4 yX4_demandOf yX4_demandOf, Cond.code yX4_demandOf cX4_demandOf 3 (some .int)]
def wsX4_exchangeGoods_r3 : List Cond := [Cond.fieldLink RX4 18 "PickSlots$Warehouse" "seasonDemands" "[I", Cond.methodLink RX4 111 yX2_walkTo, Cond.static yX2_walkTo, Cond.code yX2_walkTo cX2_walkTo 1 (some .int), Cond.fieldLink RX2 9 "PickSlots$Slots" "REACHES" "[I", Cond.methodLink RX4 149 yX4_walkOfGoing, Cond.instanceMethod yX4_walkOfGoing, Cond.selects RX4 yX4_walkOfGoing yX4_walkOfGoing, Cond.code yX4_walkOfGoing cX4_walkOfGoing 6 (some .int), Cond.methodLink RX4 161 yX2_wayBetween, Cond.static yX2_wayBetween, Cond.code yX2_wayBetween cX2_wayBetween 3 (some .int), Cond.methodLink RX2 16 Lib.Math.abs.name, Cond.static Lib.Math.abs.name, Cond.initialized "java/lang/Math", Cond.code Lib.Math.abs.name Lib.Math.abs.code 1 (some .int), Cond.methodLink RX4 107 yX4_standIn, Cond.instanceMethod yX4_standIn, Cond.selects RX4 yX4_standIn yX4_standIn, Cond.code yX4_standIn cX4_standIn 3 none]
def wsX4_exchangeGoods : List Cond := .code yX4_exchangeGoods cX4_exchangeGoods 3 (some .int) :: ((wsX4_exchangeGoods_r1 ++ (wsX4_exchangeGoods_r2 ++ wsX4_exchangeGoods_r3)) ++ wsX40 ++ wsX00)
def wsX4_worthOfGoing_r1 : List Cond := [Cond.methodLink RX4 155 yX4_savedByGoing, Cond.instanceMethod yX4_savedByGoing, Cond.selects RX4 yX4_savedByGoing yX4_savedByGoing, Cond.initialized RX4, Cond.code yX4_savedByGoing cX4_savedByGoing 5 (some .int), Cond.fieldLink RX4 38 "PickSlots$Warehouse" "goodInSlot" "[I", Cond.fieldLink RX4 21 "PickSlots$Warehouse" "slotOfGood" "[I", Cond.methodLink RX4 138 yX4_presentSeason, Cond.instanceMethod yX4_presentSeason, Cond.selects RX4 yX4_presentSeason yX4_presentSeason, Cond.code yX4_presentSeason cX4_presentSeason 1 (some .int), Cond.fieldLink RX4 63 "PickSlots$Warehouse" "week" "I", Cond.methodLink RX4 96 yX4_demandOf, Cond.instanceMethod yX4_demandOf, Cond.selects RX4 yX4_demandOf yX4_demandOf, Cond.code yX4_demandOf cX4_demandOf 3 (some .int), Cond.fieldLink RX4 18 "PickSlots$Warehouse" "seasonDemands" "[I", Cond.methodLink RX4 90 yX4_isGood, Cond.instanceMethod yX4_isGood, Cond.selects RX4 yX4_isGood yX4_isGood, Cond.code yX4_isGood cX4_isGood 2 (some .boolean), Cond.fieldLink RX4 59 "PickSlots$Warehouse" "goods" "I", Cond.methodLink RX4 111 yX2_walkTo, Cond.static yX2_walkTo]
def wsX4_worthOfGoing_r2 : List Cond := [Cond.initialized RX2, Cond.code yX2_walkTo cX2_walkTo 1 (some .int), Cond.fieldLink RX2 9 "PickSlots$Slots" "REACHES" "[I", Cond.methodLink RX4 164 yX4_weeksLeft, Cond.instanceMethod yX4_weeksLeft, Cond.selects RX4 yX4_weeksLeft yX4_weeksLeft, Cond.code yX4_weeksLeft cX4_weeksLeft 1 (some .int), Cond.methodLink RX4 149 yX4_walkOfGoing, Cond.instanceMethod yX4_walkOfGoing, Cond.selects RX4 yX4_walkOfGoing yX4_walkOfGoing, Cond.code yX4_walkOfGoing cX4_walkOfGoing 6 (some .int), Cond.fieldLink RX4 9 "PickSlots$Warehouse" "weights" "[I", Cond.methodLink RX4 161 yX2_wayBetween, Cond.static yX2_wayBetween, Cond.code yX2_wayBetween cX2_wayBetween 3 (some .int), Cond.methodLink RX2 16 Lib.Math.abs.name, Cond.static Lib.Math.abs.name, Cond.initialized "java/lang/Math", Cond.code Lib.Math.abs.name Lib.Math.abs.code 1 (some .int)]
def wsX4_worthOfGoing : List Cond := .code yX4_worthOfGoing cX4_worthOfGoing 3 (some .int) :: ((wsX4_worthOfGoing_r1 ++ wsX4_worthOfGoing_r2) ++ wsX40)
def wsX4_numberOfChange_r1 : List Cond := [Cond.constant RX4 145 (100000000), Cond.methodLink RX4 90 yX4_isGood, Cond.instanceMethod yX4_isGood, Cond.selects RX4 yX4_isGood yX4_isGood, Cond.initialized RX4, Cond.code yX4_isGood cX4_isGood 2 (some .boolean), Cond.fieldLink RX4 59 "PickSlots$Warehouse" "goods" "I", Cond.methodLink RX4 78 yX2_isSlot, Cond.static yX2_isSlot, Cond.initialized RX2, Cond.code yX2_isSlot cX2_isSlot 1 (some .boolean), Cond.static yX5_isIn, Cond.initialized RX5, Cond.code yX5_isIn cX5_isIn 3 (some .boolean), Cond.methodLink RX4 142 yX4_canGo, Cond.instanceMethod yX4_canGo, Cond.selects RX4 yX4_canGo yX4_canGo, Cond.code yX4_canGo cX4_canGo 5 (some .boolean), Cond.fieldLink RX4 21 "PickSlots$Warehouse" "slotOfGood" "[I", Cond.fieldLink RX4 38 "PickSlots$Warehouse" "goodInSlot" "[I", Cond.methodLink RX4 103 yX4_bears, Cond.instanceMethod yX4_bears, Cond.selects RX4 yX4_bears yX4_bears, Cond.code yX4_bears cX4_bears 3 (some .boolean)]
def wsX4_numberOfChange_r2 : List Cond := [Cond.fieldLink RX4 9 "PickSlots$Warehouse" "weights" "[I", Cond.methodLink RX4 82 yX2_heaviestAt, Cond.static yX2_heaviestAt, Cond.code yX2_heaviestAt cX2_heaviestAt 1 (some .int), Cond.fieldLink RX2 13 "PickSlots$Slots" "HEAVIEST" "[I", Cond.methodLink RX4 149 yX4_walkOfGoing, Cond.instanceMethod yX4_walkOfGoing, Cond.selects RX4 yX4_walkOfGoing yX4_walkOfGoing, Cond.code yX4_walkOfGoing cX4_walkOfGoing 6 (some .int), Cond.methodLink RX4 161 yX2_wayBetween, Cond.static yX2_wayBetween, Cond.code yX2_wayBetween cX2_wayBetween 3 (some .int), Cond.methodLink RX2 16 Lib.Math.abs.name, Cond.static Lib.Math.abs.name, Cond.initialized "java/lang/Math", Cond.code Lib.Math.abs.name Lib.Math.abs.code 1 (some .int), Cond.fieldLink RX2 9 "PickSlots$Slots" "REACHES" "[I", Cond.methodLink RX4 152 yX4_worthOfGoing, Cond.instanceMethod yX4_worthOfGoing, Cond.selects RX4 yX4_worthOfGoing yX4_worthOfGoing, Cond.code yX4_worthOfGoing cX4_worthOfGoing 3 (some .int), Cond.methodLink RX4 155 yX4_savedByGoing, Cond.instanceMethod yX4_savedByGoing, Cond.selects RX4 yX4_savedByGoing yX4_savedByGoing]
def wsX4_numberOfChange_r3 : List Cond := [Cond.code yX4_savedByGoing cX4_savedByGoing 5 (some .int), Cond.methodLink RX4 138 yX4_presentSeason, Cond.instanceMethod yX4_presentSeason, Cond.selects RX4 yX4_presentSeason yX4_presentSeason, Cond.code yX4_presentSeason cX4_presentSeason 1 (some .int), Cond.fieldLink RX4 63 "PickSlots$Warehouse" "week" "I", Cond.methodLink RX4 96 yX4_demandOf, Cond.instanceMethod yX4_demandOf, Cond.selects RX4 yX4_demandOf yX4_demandOf, Cond.code yX4_demandOf cX4_demandOf 3 (some .int), Cond.fieldLink RX4 18 "PickSlots$Warehouse" "seasonDemands" "[I", Cond.methodLink RX4 111 yX2_walkTo, Cond.static yX2_walkTo, Cond.code yX2_walkTo cX2_walkTo 1 (some .int), Cond.methodLink RX4 164 yX4_weeksLeft, Cond.instanceMethod yX4_weeksLeft, Cond.selects RX4 yX4_weeksLeft yX4_weeksLeft, Cond.code yX4_weeksLeft cX4_weeksLeft 1 (some .int)]
def wsX4_numberOfChange : List Cond := .code yX4_numberOfChange cX4_numberOfChange 4 (some .int) :: ((wsX4_numberOfChange_r1 ++ (wsX4_numberOfChange_r2 ++ wsX4_numberOfChange_r3)) ++ wsX40)
def wsX4_bestGoing_r1 : List Cond := [Cond.fieldLink RX4 59 "PickSlots$Warehouse" "goods" "I", Cond.methodLink RX4 142 yX4_canGo, Cond.instanceMethod yX4_canGo, Cond.selects RX4 yX4_canGo yX4_canGo, Cond.initialized RX4, Cond.code yX4_canGo cX4_canGo 5 (some .boolean), Cond.fieldLink RX4 21 "PickSlots$Warehouse" "slotOfGood" "[I", Cond.fieldLink RX4 38 "PickSlots$Warehouse" "goodInSlot" "[I", Cond.methodLink RX4 78 yX2_isSlot, Cond.static yX2_isSlot, Cond.initialized RX2, Cond.code yX2_isSlot cX2_isSlot 1 (some .boolean), Cond.methodLink RX4 103 yX4_bears, Cond.instanceMethod yX4_bears, Cond.selects RX4 yX4_bears yX4_bears, Cond.code yX4_bears cX4_bears 3 (some .boolean), Cond.fieldLink RX4 9 "PickSlots$Warehouse" "weights" "[I", Cond.methodLink RX4 82 yX2_heaviestAt, Cond.static yX2_heaviestAt, Cond.code yX2_heaviestAt cX2_heaviestAt 1 (some .int), Cond.fieldLink RX2 13 "PickSlots$Slots" "HEAVIEST" "[I", Cond.methodLink RX4 90 yX4_isGood, Cond.instanceMethod yX4_isGood, Cond.selects RX4 yX4_isGood yX4_isGood]
def wsX4_bestGoing_r2 : List Cond := [Cond.code yX4_isGood cX4_isGood 2 (some .boolean), Cond.methodLink RX4 152 yX4_worthOfGoing, Cond.instanceMethod yX4_worthOfGoing, Cond.selects RX4 yX4_worthOfGoing yX4_worthOfGoing, Cond.code yX4_worthOfGoing cX4_worthOfGoing 3 (some .int), Cond.methodLink RX4 155 yX4_savedByGoing, Cond.instanceMethod yX4_savedByGoing, Cond.selects RX4 yX4_savedByGoing yX4_savedByGoing, Cond.code yX4_savedByGoing cX4_savedByGoing 5 (some .int), Cond.methodLink RX4 138 yX4_presentSeason, Cond.instanceMethod yX4_presentSeason, Cond.selects RX4 yX4_presentSeason yX4_presentSeason, Cond.code yX4_presentSeason cX4_presentSeason 1 (some .int), Cond.fieldLink RX4 63 "PickSlots$Warehouse" "week" "I", Cond.methodLink RX4 96 yX4_demandOf, Cond.instanceMethod yX4_demandOf, Cond.selects RX4 yX4_demandOf yX4_demandOf, Cond.code yX4_demandOf cX4_demandOf 3 (some .int), Cond.fieldLink RX4 18 "PickSlots$Warehouse" "seasonDemands" "[I", Cond.methodLink RX4 111 yX2_walkTo, Cond.static yX2_walkTo, Cond.code yX2_walkTo cX2_walkTo 1 (some .int), Cond.fieldLink RX2 9 "PickSlots$Slots" "REACHES" "[I", Cond.methodLink RX4 164 yX4_weeksLeft]
def wsX4_bestGoing_r3 : List Cond := [Cond.instanceMethod yX4_weeksLeft, Cond.selects RX4 yX4_weeksLeft yX4_weeksLeft, Cond.code yX4_weeksLeft cX4_weeksLeft 1 (some .int), Cond.methodLink RX4 149 yX4_walkOfGoing, Cond.instanceMethod yX4_walkOfGoing, Cond.selects RX4 yX4_walkOfGoing yX4_walkOfGoing, Cond.code yX4_walkOfGoing cX4_walkOfGoing 6 (some .int), Cond.methodLink RX4 161 yX2_wayBetween, Cond.static yX2_wayBetween, Cond.code yX2_wayBetween cX2_wayBetween 3 (some .int), Cond.methodLink RX2 16 Lib.Math.abs.name, Cond.static Lib.Math.abs.name, Cond.initialized "java/lang/Math", Cond.code Lib.Math.abs.name Lib.Math.abs.code 1 (some .int)]
def wsX4_bestGoing : List Cond := .code yX4_bestGoing cX4_bestGoing 5 (some .int) :: ((wsX4_bestGoing_r1 ++ (wsX4_bestGoing_r2 ++ wsX4_bestGoing_r3)) ++ wsX40)
def wsX4_numberOfBest_r1 : List Cond := [Cond.static yX5_isIn, Cond.initialized RX5, Cond.code yX5_isIn cX5_isIn 3 (some .boolean), Cond.methodLink RX4 158 yX4_bestGoing, Cond.instanceMethod yX4_bestGoing, Cond.selects RX4 yX4_bestGoing yX4_bestGoing, Cond.initialized RX4, Cond.code yX4_bestGoing cX4_bestGoing 5 (some .int), Cond.fieldLink RX4 59 "PickSlots$Warehouse" "goods" "I", Cond.methodLink RX4 142 yX4_canGo, Cond.instanceMethod yX4_canGo, Cond.selects RX4 yX4_canGo yX4_canGo, Cond.code yX4_canGo cX4_canGo 5 (some .boolean), Cond.fieldLink RX4 21 "PickSlots$Warehouse" "slotOfGood" "[I", Cond.fieldLink RX4 38 "PickSlots$Warehouse" "goodInSlot" "[I", Cond.methodLink RX4 78 yX2_isSlot, Cond.static yX2_isSlot, Cond.initialized RX2, Cond.code yX2_isSlot cX2_isSlot 1 (some .boolean), Cond.methodLink RX4 103 yX4_bears, Cond.instanceMethod yX4_bears, Cond.selects RX4 yX4_bears yX4_bears, Cond.code yX4_bears cX4_bears 3 (some .boolean), Cond.fieldLink RX4 9 "PickSlots$Warehouse" "weights" "[I"]
def wsX4_numberOfBest_r2 : List Cond := [Cond.methodLink RX4 82 yX2_heaviestAt, Cond.static yX2_heaviestAt, Cond.code yX2_heaviestAt cX2_heaviestAt 1 (some .int), Cond.fieldLink RX2 13 "PickSlots$Slots" "HEAVIEST" "[I", Cond.methodLink RX4 90 yX4_isGood, Cond.instanceMethod yX4_isGood, Cond.selects RX4 yX4_isGood yX4_isGood, Cond.code yX4_isGood cX4_isGood 2 (some .boolean), Cond.methodLink RX4 152 yX4_worthOfGoing, Cond.instanceMethod yX4_worthOfGoing, Cond.selects RX4 yX4_worthOfGoing yX4_worthOfGoing, Cond.code yX4_worthOfGoing cX4_worthOfGoing 3 (some .int), Cond.methodLink RX4 155 yX4_savedByGoing, Cond.instanceMethod yX4_savedByGoing, Cond.selects RX4 yX4_savedByGoing yX4_savedByGoing, Cond.code yX4_savedByGoing cX4_savedByGoing 5 (some .int), Cond.methodLink RX4 138 yX4_presentSeason, Cond.instanceMethod yX4_presentSeason, Cond.selects RX4 yX4_presentSeason yX4_presentSeason, Cond.code yX4_presentSeason cX4_presentSeason 1 (some .int), Cond.fieldLink RX4 63 "PickSlots$Warehouse" "week" "I", Cond.methodLink RX4 96 yX4_demandOf, Cond.instanceMethod yX4_demandOf, Cond.selects RX4 yX4_demandOf yX4_demandOf]
def wsX4_numberOfBest_r3 : List Cond := [Cond.code yX4_demandOf cX4_demandOf 3 (some .int), Cond.fieldLink RX4 18 "PickSlots$Warehouse" "seasonDemands" "[I", Cond.methodLink RX4 111 yX2_walkTo, Cond.static yX2_walkTo, Cond.code yX2_walkTo cX2_walkTo 1 (some .int), Cond.fieldLink RX2 9 "PickSlots$Slots" "REACHES" "[I", Cond.methodLink RX4 164 yX4_weeksLeft, Cond.instanceMethod yX4_weeksLeft, Cond.selects RX4 yX4_weeksLeft yX4_weeksLeft, Cond.code yX4_weeksLeft cX4_weeksLeft 1 (some .int), Cond.methodLink RX4 149 yX4_walkOfGoing, Cond.instanceMethod yX4_walkOfGoing, Cond.selects RX4 yX4_walkOfGoing yX4_walkOfGoing, Cond.code yX4_walkOfGoing cX4_walkOfGoing 6 (some .int), Cond.methodLink RX4 161 yX2_wayBetween, Cond.static yX2_wayBetween, Cond.code yX2_wayBetween cX2_wayBetween 3 (some .int), Cond.methodLink RX2 16 Lib.Math.abs.name, Cond.static Lib.Math.abs.name, Cond.initialized "java/lang/Math", Cond.code Lib.Math.abs.name Lib.Math.abs.code 1 (some .int)]
def wsX4_numberOfBest : List Cond := .code yX4_numberOfBest cX4_numberOfBest 5 (some .int) :: ((wsX4_numberOfBest_r1 ++ (wsX4_numberOfBest_r2 ++ wsX4_numberOfBest_r3)) ++ wsX40)
def wsX4_doBest_r1 : List Cond := [Cond.static yX5_isIn, Cond.initialized RX5, Cond.code yX5_isIn cX5_isIn 3 (some .boolean), Cond.methodLink RX4 158 yX4_bestGoing, Cond.instanceMethod yX4_bestGoing, Cond.selects RX4 yX4_bestGoing yX4_bestGoing, Cond.initialized RX4, Cond.code yX4_bestGoing cX4_bestGoing 5 (some .int), Cond.fieldLink RX4 59 "PickSlots$Warehouse" "goods" "I", Cond.methodLink RX4 142 yX4_canGo, Cond.instanceMethod yX4_canGo, Cond.selects RX4 yX4_canGo yX4_canGo, Cond.code yX4_canGo cX4_canGo 5 (some .boolean), Cond.fieldLink RX4 21 "PickSlots$Warehouse" "slotOfGood" "[I", Cond.fieldLink RX4 38 "PickSlots$Warehouse" "goodInSlot" "[I", Cond.methodLink RX4 78 yX2_isSlot, Cond.static yX2_isSlot, Cond.initialized RX2, Cond.code yX2_isSlot cX2_isSlot 1 (some .boolean), Cond.methodLink RX4 103 yX4_bears, Cond.instanceMethod yX4_bears, Cond.selects RX4 yX4_bears yX4_bears, Cond.code yX4_bears cX4_bears 3 (some .boolean), Cond.fieldLink RX4 9 "PickSlots$Warehouse" "weights" "[I"]
def wsX4_doBest_r2 : List Cond := [Cond.methodLink RX4 82 yX2_heaviestAt, Cond.static yX2_heaviestAt, Cond.code yX2_heaviestAt cX2_heaviestAt 1 (some .int), Cond.fieldLink RX2 13 "PickSlots$Slots" "HEAVIEST" "[I", Cond.methodLink RX4 90 yX4_isGood, Cond.instanceMethod yX4_isGood, Cond.selects RX4 yX4_isGood yX4_isGood, Cond.code yX4_isGood cX4_isGood 2 (some .boolean), Cond.methodLink RX4 152 yX4_worthOfGoing, Cond.instanceMethod yX4_worthOfGoing, Cond.selects RX4 yX4_worthOfGoing yX4_worthOfGoing, Cond.code yX4_worthOfGoing cX4_worthOfGoing 3 (some .int), Cond.methodLink RX4 155 yX4_savedByGoing, Cond.instanceMethod yX4_savedByGoing, Cond.selects RX4 yX4_savedByGoing yX4_savedByGoing, Cond.code yX4_savedByGoing cX4_savedByGoing 5 (some .int), Cond.methodLink RX4 138 yX4_presentSeason, Cond.instanceMethod yX4_presentSeason, Cond.selects RX4 yX4_presentSeason yX4_presentSeason, Cond.code yX4_presentSeason cX4_presentSeason 1 (some .int), Cond.fieldLink RX4 63 "PickSlots$Warehouse" "week" "I", Cond.methodLink RX4 96 yX4_demandOf, Cond.instanceMethod yX4_demandOf, Cond.selects RX4 yX4_demandOf yX4_demandOf]
def wsX4_doBest_r3 : List Cond := [Cond.code yX4_demandOf cX4_demandOf 3 (some .int), Cond.fieldLink RX4 18 "PickSlots$Warehouse" "seasonDemands" "[I", Cond.methodLink RX4 111 yX2_walkTo, Cond.static yX2_walkTo, Cond.code yX2_walkTo cX2_walkTo 1 (some .int), Cond.fieldLink RX2 9 "PickSlots$Slots" "REACHES" "[I", Cond.methodLink RX4 164 yX4_weeksLeft, Cond.instanceMethod yX4_weeksLeft, Cond.selects RX4 yX4_weeksLeft yX4_weeksLeft, Cond.code yX4_weeksLeft cX4_weeksLeft 1 (some .int), Cond.methodLink RX4 149 yX4_walkOfGoing, Cond.instanceMethod yX4_walkOfGoing, Cond.selects RX4 yX4_walkOfGoing yX4_walkOfGoing, Cond.code yX4_walkOfGoing cX4_walkOfGoing 6 (some .int), Cond.methodLink RX4 161 yX2_wayBetween, Cond.static yX2_wayBetween, Cond.code yX2_wayBetween cX2_wayBetween 3 (some .int), Cond.methodLink RX2 16 Lib.Math.abs.name, Cond.static Lib.Math.abs.name, Cond.initialized "java/lang/Math", Cond.code Lib.Math.abs.name Lib.Math.abs.code 1 (some .int), Cond.methodLink RX4 146 yX4_goTo, Cond.instanceMethod yX4_goTo, Cond.selects RX4 yX4_goTo yX4_goTo]
def wsX4_doBest_r4 : List Cond := [Cond.code yX4_goTo cX4_goTo 6 (some .int), Cond.fieldLink RX4 47 "PickSlots$Warehouse" "accounts" "LPickSlots$Accounts;", Cond.methodLink RX4 107 yX4_standIn, Cond.instanceMethod yX4_standIn, Cond.selects RX4 yX4_standIn yX4_standIn, Cond.code yX4_standIn cX4_standIn 3 none]
def wsX4_doBest : List Cond := .code yX4_doBest cX4_doBest 4 (some .int) :: ((wsX4_doBest_r1 ++ (wsX4_doBest_r2 ++ (wsX4_doBest_r3 ++ wsX4_doBest_r4))) ++ wsX40 ++ wsX00)
def wsX4_weeklyWalk : List Cond := .code yX4_weeklyWalk cX4_weeklyWalk 4 (some .int) :: ([.fieldLink RX4 59 "PickSlots$Warehouse" "goods" "I", .fieldLink RX4 21 "PickSlots$Warehouse" "slotOfGood" "[I", .methodLink RX4 100 yX4_isPlaced, .instanceMethod yX4_isPlaced, .selects RX4 yX4_isPlaced yX4_isPlaced, .initialized RX4, .code yX4_isPlaced cX4_isPlaced 2 (some .boolean), .methodLink RX4 78 yX2_isSlot, .static yX2_isSlot, .initialized RX2, .code yX2_isSlot cX2_isSlot 1 (some .boolean), .methodLink RX4 96 yX4_demandOf, .instanceMethod yX4_demandOf, .selects RX4 yX4_demandOf yX4_demandOf, .code yX4_demandOf cX4_demandOf 3 (some .int), .fieldLink RX4 18 "PickSlots$Warehouse" "seasonDemands" "[I", .methodLink RX4 111 yX2_walkTo, .static yX2_walkTo, .code yX2_walkTo cX2_walkTo 1 (some .int), .fieldLink RX2 9 "PickSlots$Slots" "REACHES" "[I"] ++ wsX40)
def wsX4_shortestWalk_r1 : List Cond := [Cond.fieldLink RX4 59 "PickSlots$Warehouse" "goods" "I", Cond.fieldLink RX4 21 "PickSlots$Warehouse" "slotOfGood" "[I", Cond.methodLink RX4 100 yX4_isPlaced, Cond.instanceMethod yX4_isPlaced, Cond.selects RX4 yX4_isPlaced yX4_isPlaced, Cond.initialized RX4, Cond.code yX4_isPlaced cX4_isPlaced 2 (some .boolean), Cond.methodLink RX4 78 yX2_isSlot, Cond.static yX2_isSlot, Cond.initialized RX2, Cond.code yX2_isSlot cX2_isSlot 1 (some .boolean), Cond.methodLink RX4 96 yX4_demandOf, Cond.instanceMethod yX4_demandOf, Cond.selects RX4 yX4_demandOf yX4_demandOf, Cond.code yX4_demandOf cX4_demandOf 3 (some .int), Cond.fieldLink RX4 18 "PickSlots$Warehouse" "seasonDemands" "[I", Cond.methodLink RX4 181 yX3_insert, Cond.instanceMethod yX3_insert, Cond.selects RX3 yX3_insert yX3_insert, Cond.initialized RX3, Cond.code yX3_insert cX3_insert 3 none, Cond.fieldLink RX3 15 "PickSlots$SortedRow" "size" "I", Cond.fieldLink RX3 9 "PickSlots$SortedRow" "values" "[I", Cond.methodLink RX4 111 yX2_walkTo]
def wsX4_shortestWalk_r2 : List Cond := [Cond.static yX2_walkTo, Cond.code yX2_walkTo cX2_walkTo 1 (some .int), Cond.fieldLink RX2 9 "PickSlots$Slots" "REACHES" "[I", Cond.methodLink RX4 185 yX3_valueAt, Cond.instanceMethod yX3_valueAt, Cond.selects RX3 yX3_valueAt yX3_valueAt, Cond.code yX3_valueAt cX3_valueAt 2 (some .int)]
def wsX4_shortestWalk : List Cond := .code yX4_shortestWalk cX4_shortestWalk 6 (some .int) :: ((wsX4_shortestWalk_r1 ++ wsX4_shortestWalk_r2) ++ wsX30 ++ wsX40)
def wsX4_numberOfAccount_r1 : List Cond := [Cond.fieldLink RX4 47 "PickSlots$Warehouse" "accounts" "LPickSlots$Accounts;", Cond.constant RX4 145 (100000000), Cond.methodLink RX4 138 yX4_presentSeason, Cond.instanceMethod yX4_presentSeason, Cond.selects RX4 yX4_presentSeason yX4_presentSeason, Cond.initialized RX4, Cond.code yX4_presentSeason cX4_presentSeason 1 (some .int), Cond.fieldLink RX4 63 "PickSlots$Warehouse" "week" "I", Cond.methodLink RX4 188 yX4_weeklyWalk, Cond.instanceMethod yX4_weeklyWalk, Cond.selects RX4 yX4_weeklyWalk yX4_weeklyWalk, Cond.code yX4_weeklyWalk cX4_weeklyWalk 4 (some .int), Cond.fieldLink RX4 59 "PickSlots$Warehouse" "goods" "I", Cond.fieldLink RX4 21 "PickSlots$Warehouse" "slotOfGood" "[I", Cond.methodLink RX4 100 yX4_isPlaced, Cond.instanceMethod yX4_isPlaced, Cond.selects RX4 yX4_isPlaced yX4_isPlaced, Cond.code yX4_isPlaced cX4_isPlaced 2 (some .boolean), Cond.methodLink RX4 78 yX2_isSlot, Cond.static yX2_isSlot, Cond.initialized RX2, Cond.code yX2_isSlot cX2_isSlot 1 (some .boolean), Cond.methodLink RX4 96 yX4_demandOf, Cond.instanceMethod yX4_demandOf]
def wsX4_numberOfAccount_r2 : List Cond := [Cond.selects RX4 yX4_demandOf yX4_demandOf, Cond.code yX4_demandOf cX4_demandOf 3 (some .int), Cond.fieldLink RX4 18 "PickSlots$Warehouse" "seasonDemands" "[I", Cond.methodLink RX4 111 yX2_walkTo, Cond.static yX2_walkTo, Cond.code yX2_walkTo cX2_walkTo 1 (some .int), Cond.fieldLink RX2 9 "PickSlots$Slots" "REACHES" "[I"]
def wsX4_numberOfAccount : List Cond := .code yX4_numberOfAccount cX4_numberOfAccount 2 (some .int) :: ((wsX4_numberOfAccount_r1 ++ wsX4_numberOfAccount_r2) ++ wsX40 ++ wsX00)
def wsX4_placedGoods : List Cond := .code yX4_placedGoods cX4_placedGoods 4 (some .int) :: ([.fieldLink RX4 59 "PickSlots$Warehouse" "goods" "I", .fieldLink RX4 24 "PickSlots$Warehouse" "unitsInSlot" "[I", .methodLink RX4 100 yX4_isPlaced, .instanceMethod yX4_isPlaced, .selects RX4 yX4_isPlaced yX4_isPlaced, .initialized RX4, .code yX4_isPlaced cX4_isPlaced 2 (some .boolean), .fieldLink RX4 21 "PickSlots$Warehouse" "slotOfGood" "[I", .methodLink RX4 78 yX2_isSlot, .static yX2_isSlot, .initialized RX2, .code yX2_isSlot cX2_isSlot 1 (some .boolean)] ++ wsX40)
def wsX4_sumOf : List Cond := .code yX4_sumOf cX4_sumOf 4 (some .int) :: ([.fieldLink RX4 59 "PickSlots$Warehouse" "goods" "I"] ++ wsX40)
def wsX4_numberOfWarehouse_r1 : List Cond := [Cond.fieldLink RX4 59 "PickSlots$Warehouse" "goods" "I", Cond.fieldLink RX4 63 "PickSlots$Warehouse" "week" "I", Cond.fieldLink RX4 24 "PickSlots$Warehouse" "unitsInSlot" "[I", Cond.fieldLink RX4 27 "PickSlots$Warehouse" "unitsInStore" "[I", Cond.fieldLink RX4 41 "PickSlots$Warehouse" "settings" "[I", Cond.methodLink RX4 191 yX4_placedGoods, Cond.instanceMethod yX4_placedGoods, Cond.selects RX4 yX4_placedGoods yX4_placedGoods, Cond.initialized RX4, Cond.code yX4_placedGoods cX4_placedGoods 4 (some .int), Cond.methodLink RX4 100 yX4_isPlaced, Cond.instanceMethod yX4_isPlaced, Cond.selects RX4 yX4_isPlaced yX4_isPlaced, Cond.code yX4_isPlaced cX4_isPlaced 2 (some .boolean), Cond.fieldLink RX4 21 "PickSlots$Warehouse" "slotOfGood" "[I", Cond.methodLink RX4 78 yX2_isSlot, Cond.static yX2_isSlot, Cond.initialized RX2, Cond.code yX2_isSlot cX2_isSlot 1 (some .boolean), Cond.methodLink RX4 138 yX4_presentSeason, Cond.instanceMethod yX4_presentSeason, Cond.selects RX4 yX4_presentSeason yX4_presentSeason, Cond.code yX4_presentSeason cX4_presentSeason 1 (some .int), Cond.methodLink RX4 164 yX4_weeksLeft]
def wsX4_numberOfWarehouse_r2 : List Cond := [Cond.instanceMethod yX4_weeksLeft, Cond.selects RX4 yX4_weeksLeft yX4_weeksLeft, Cond.code yX4_weeksLeft cX4_weeksLeft 1 (some .int), Cond.methodLink RX4 195 yX4_sumOf, Cond.instanceMethod yX4_sumOf, Cond.selects RX4 yX4_sumOf yX4_sumOf, Cond.code yX4_sumOf cX4_sumOf 4 (some .int)]
def wsX4_numberOfWarehouse : List Cond := .code yX4_numberOfWarehouse cX4_numberOfWarehouse 2 (some .int) :: ((wsX4_numberOfWarehouse_r1 ++ wsX4_numberOfWarehouse_r2) ++ wsX40)
def wsX4_changeSetting : List Cond := .code yX4_changeSetting cX4_changeSetting 4 (some .int) :: ([.fieldLink RX4 199 "PickSlots$Warehouse" "LEAST_SETTINGS" "[I", .fieldLink RX4 202 "PickSlots$Warehouse" "GREATEST_SETTINGS" "[I", .fieldLink RX4 41 "PickSlots$Warehouse" "settings" "[I", .static yX5_isIn, .initialized RX5, .code yX5_isIn cX5_isIn 3 (some .boolean)] ++ wsX40)
def wsX5_init_r1 : List Cond := [Cond.methodLink RX5 1 objectInit, Cond.instanceMethod objectInit, Cond.code objectInit ⟨#[0xb1]⟩ 1 none, Cond.classLink RX5 9 RX4, Cond.fieldLink RX5 11 "PickSlots" "history" "[LPickSlots$Warehouse;", Cond.classLink RX5 15 RX1, Cond.instantiable RX1 6, Cond.initialized RX1, Cond.fieldLink RX5 18 "PickSlots" "text" "LPickSlots$OrderText;", Cond.classLink RX5 22 RX3, Cond.instantiable RX3 2, Cond.initialized RX3, Cond.fieldLink RX5 25 "PickSlots" "demands" "LPickSlots$SortedRow;", Cond.fieldLink RX5 29 "PickSlots" "walks" "LPickSlots$SortedRow;", Cond.instantiable RX4 13, Cond.initialized RX4, Cond.fieldLink RX5 33 "PickSlots" "now" "LPickSlots$Warehouse;", Cond.fieldLink RX5 37 "PickSlots" "trial" "LPickSlots$Warehouse;", Cond.instanceMethod yX1_init, Cond.code yX1_init cX1_init 1 none, Cond.methodLink RX1 3 objectInit, Cond.arrayClass .char, Cond.fieldLink RX1 9 "PickSlots$OrderText" "signs" "[C", Cond.instanceMethod yX3_init]
def wsX5_init_r2 : List Cond := [Cond.code yX3_init cX3_init 1 none, Cond.methodLink RX3 3 objectInit, Cond.arrayClass .int, Cond.fieldLink RX3 9 "PickSlots$SortedRow" "values" "[I", Cond.methodLink RX5 32 yX4_init, Cond.instanceMethod yX4_init, Cond.code yX4_init cX4_init 2 none, Cond.methodLink RX4 3 objectInit, Cond.fieldLink RX4 9 "PickSlots$Warehouse" "weights" "[I", Cond.fieldLink RX4 15 "PickSlots$Warehouse" "capacities" "[I", Cond.fieldLink RX4 18 "PickSlots$Warehouse" "seasonDemands" "[I", Cond.fieldLink RX4 21 "PickSlots$Warehouse" "slotOfGood" "[I", Cond.fieldLink RX4 24 "PickSlots$Warehouse" "unitsInSlot" "[I", Cond.fieldLink RX4 27 "PickSlots$Warehouse" "unitsInStore" "[I", Cond.fieldLink RX4 30 "PickSlots$Warehouse" "weekPicks" "[I", Cond.fieldLink RX4 33 "PickSlots$Warehouse" "unitsPicked" "[I", Cond.fieldLink RX4 38 "PickSlots$Warehouse" "goodInSlot" "[I", Cond.fieldLink RX4 41 "PickSlots$Warehouse" "settings" "[I", Cond.classLink RX4 44 RX0, Cond.instantiable RX0 7, Cond.initialized RX0, Cond.fieldLink RX4 47 "PickSlots$Warehouse" "accounts" "LPickSlots$Accounts;", Cond.instanceMethod yX0_init, Cond.code yX0_init cX0_init 1 none]
def wsX5_init_r3 : List Cond := [Cond.methodLink RX0 1 objectInit]
def wsX5_init : List Cond := .code yX5_init cX5_init 2 none :: ((wsX5_init_r1 ++ (wsX5_init_r2 ++ wsX5_init_r3)) ++ wsX50 ++ wsX10 ++ wsX30 ++ wsX40 ++ wsX00)
def wsX5_startTrial_r1 : List Cond := [Cond.fieldLink RX5 37 "PickSlots" "trial" "LPickSlots$Warehouse;", Cond.fieldLink RX5 33 "PickSlots" "now" "LPickSlots$Warehouse;", Cond.methodLink RX5 137 yX4_copyFrom, Cond.instanceMethod yX4_copyFrom, Cond.selects RX4 yX4_copyFrom yX4_copyFrom, Cond.initialized RX4, Cond.code yX4_copyFrom cX4_copyFrom 2 none, Cond.fieldLink RX4 9 "PickSlots$Warehouse" "weights" "[I", Cond.fieldLink RX4 15 "PickSlots$Warehouse" "capacities" "[I", Cond.fieldLink RX4 18 "PickSlots$Warehouse" "seasonDemands" "[I", Cond.fieldLink RX4 21 "PickSlots$Warehouse" "slotOfGood" "[I", Cond.fieldLink RX4 24 "PickSlots$Warehouse" "unitsInSlot" "[I", Cond.fieldLink RX4 27 "PickSlots$Warehouse" "unitsInStore" "[I", Cond.fieldLink RX4 30 "PickSlots$Warehouse" "weekPicks" "[I", Cond.fieldLink RX4 33 "PickSlots$Warehouse" "unitsPicked" "[I", Cond.fieldLink RX4 38 "PickSlots$Warehouse" "goodInSlot" "[I", Cond.fieldLink RX4 41 "PickSlots$Warehouse" "settings" "[I", Cond.fieldLink RX4 47 "PickSlots$Warehouse" "accounts" "LPickSlots$Accounts;", Cond.fieldLink RX4 59 "PickSlots$Warehouse" "goods" "I", Cond.fieldLink RX4 63 "PickSlots$Warehouse" "week" "I", Cond.methodLink RX4 51 yX4_copyRow, Cond.static yX4_copyRow, Cond.code yX4_copyRow cX4_copyRow 2 none, Cond.methodLink RX4 66 Lib.Math.min.name]
def wsX5_startTrial_r2 : List Cond := [Cond.static Lib.Math.min.name, Cond.initialized "java/lang/Math", Cond.code Lib.Math.min.name Lib.Math.min.code 2 (some .int), Cond.methodLink RX4 72 arraycopyName, Cond.native arraycopyName, Cond.static arraycopyName, Cond.initialized "java/lang/System", Cond.methodLink RX4 55 yX0_copyFrom, Cond.instanceMethod yX0_copyFrom, Cond.selects RX0 yX0_copyFrom yX0_copyFrom, Cond.initialized RX0, Cond.code yX0_copyFrom cX0_copyFrom 2 none, Cond.fieldLink RX0 7 "PickSlots$Accounts" "pickWalk" "I", Cond.fieldLink RX0 13 "PickSlots$Accounts" "refillWalk" "I", Cond.fieldLink RX0 16 "PickSlots$Accounts" "moveWalk" "I", Cond.fieldLink RX0 19 "PickSlots$Accounts" "trips" "I", Cond.fieldLink RX0 22 "PickSlots$Accounts" "saved" "I", Cond.fieldLink RX0 25 "PickSlots$Accounts" "moves" "I", Cond.fieldLink RX0 28 "PickSlots$Accounts" "picks" "I"]
def wsX5_startTrial : List Cond := .code yX5_startTrial cX5_startTrial 1 none :: ((wsX5_startTrial_r1 ++ wsX5_startTrial_r2) ++ wsX50 ++ wsX40 ++ wsX00)
def wsX5_dropOldestState : List Cond := .code yX5_dropOldestState cX5_dropOldestState 3 none :: ([.fieldLink RX5 11 "PickSlots" "history" "[LPickSlots$Warehouse;", .fieldLink RX5 112 "PickSlots" "states" "I"] ++ wsX50)
def wsX5_keepTrial : List Cond := .code yX5_keepTrial cX5_keepTrial 2 none :: ([.fieldLink RX5 112 "PickSlots" "states" "I", .fieldLink RX5 11 "PickSlots" "history" "[LPickSlots$Warehouse;", .fieldLink RX5 33 "PickSlots" "now" "LPickSlots$Warehouse;", .fieldLink RX5 37 "PickSlots" "trial" "LPickSlots$Warehouse;", .methodLink RX5 144 yX5_dropOldestState, .instanceMethod yX5_dropOldestState, .selects RX5 yX5_dropOldestState yX5_dropOldestState, .initialized RX5, .code yX5_dropOldestState cX5_dropOldestState 3 none] ++ wsX50)
def wsX5_endTrial : List Cond := .code yX5_endTrial cX5_endTrial 2 (some .int) :: ([.methodLink RX5 141 yX5_keepTrial, .instanceMethod yX5_keepTrial, .selects RX5 yX5_keepTrial yX5_keepTrial, .initialized RX5, .code yX5_keepTrial cX5_keepTrial 2 none, .fieldLink RX5 112 "PickSlots" "states" "I", .fieldLink RX5 11 "PickSlots" "history" "[LPickSlots$Warehouse;", .fieldLink RX5 33 "PickSlots" "now" "LPickSlots$Warehouse;", .fieldLink RX5 37 "PickSlots" "trial" "LPickSlots$Warehouse;", .methodLink RX5 144 yX5_dropOldestState, .instanceMethod yX5_dropOldestState, .selects RX5 yX5_dropOldestState yX5_dropOldestState, .code yX5_dropOldestState cX5_dropOldestState 3 none] ++ wsX50)
def wsX5_good_r1 : List Cond := [Cond.fieldLink RX5 37 "PickSlots" "trial" "LPickSlots$Warehouse;", Cond.methodLink RX5 40 yX5_startTrial, Cond.instanceMethod yX5_startTrial, Cond.selects RX5 yX5_startTrial yX5_startTrial, Cond.initialized RX5, Cond.code yX5_startTrial cX5_startTrial 1 none, Cond.fieldLink RX5 33 "PickSlots" "now" "LPickSlots$Warehouse;", Cond.methodLink RX5 137 yX4_copyFrom, Cond.instanceMethod yX4_copyFrom, Cond.selects RX4 yX4_copyFrom yX4_copyFrom, Cond.initialized RX4, Cond.code yX4_copyFrom cX4_copyFrom 2 none, Cond.fieldLink RX4 9 "PickSlots$Warehouse" "weights" "[I", Cond.fieldLink RX4 15 "PickSlots$Warehouse" "capacities" "[I", Cond.fieldLink RX4 18 "PickSlots$Warehouse" "seasonDemands" "[I", Cond.fieldLink RX4 21 "PickSlots$Warehouse" "slotOfGood" "[I", Cond.fieldLink RX4 24 "PickSlots$Warehouse" "unitsInSlot" "[I", Cond.fieldLink RX4 27 "PickSlots$Warehouse" "unitsInStore" "[I", Cond.fieldLink RX4 30 "PickSlots$Warehouse" "weekPicks" "[I", Cond.fieldLink RX4 33 "PickSlots$Warehouse" "unitsPicked" "[I", Cond.fieldLink RX4 38 "PickSlots$Warehouse" "goodInSlot" "[I", Cond.fieldLink RX4 41 "PickSlots$Warehouse" "settings" "[I", Cond.fieldLink RX4 47 "PickSlots$Warehouse" "accounts" "LPickSlots$Accounts;", Cond.fieldLink RX4 59 "PickSlots$Warehouse" "goods" "I"]
def wsX5_good_r2 : List Cond := [Cond.fieldLink RX4 63 "PickSlots$Warehouse" "week" "I", Cond.methodLink RX4 51 yX4_copyRow, Cond.static yX4_copyRow, Cond.code yX4_copyRow cX4_copyRow 2 none, Cond.methodLink RX4 66 Lib.Math.min.name, Cond.static Lib.Math.min.name, Cond.initialized "java/lang/Math", Cond.code Lib.Math.min.name Lib.Math.min.code 2 (some .int), Cond.methodLink RX4 72 arraycopyName, Cond.native arraycopyName, Cond.static arraycopyName, Cond.initialized "java/lang/System", Cond.methodLink RX4 55 yX0_copyFrom, Cond.instanceMethod yX0_copyFrom, Cond.selects RX0 yX0_copyFrom yX0_copyFrom, Cond.initialized RX0, Cond.code yX0_copyFrom cX0_copyFrom 2 none, Cond.fieldLink RX0 7 "PickSlots$Accounts" "pickWalk" "I", Cond.fieldLink RX0 13 "PickSlots$Accounts" "refillWalk" "I", Cond.fieldLink RX0 16 "PickSlots$Accounts" "moveWalk" "I", Cond.fieldLink RX0 19 "PickSlots$Accounts" "trips" "I", Cond.fieldLink RX0 22 "PickSlots$Accounts" "saved" "I", Cond.fieldLink RX0 25 "PickSlots$Accounts" "moves" "I", Cond.fieldLink RX0 28 "PickSlots$Accounts" "picks" "I"]
def wsX5_good_r3 : List Cond := [Cond.methodLink RX5 43 yX4_addGood, Cond.instanceMethod yX4_addGood, Cond.selects RX4 yX4_addGood yX4_addGood, Cond.code yX4_addGood cX4_addGood 3 (some .int), Cond.static yX5_isIn, Cond.code yX5_isIn cX5_isIn 3 (some .boolean), Cond.methodLink RX5 47 yX5_endTrial, Cond.instanceMethod yX5_endTrial, Cond.selects RX5 yX5_endTrial yX5_endTrial, Cond.code yX5_endTrial cX5_endTrial 2 (some .int), Cond.methodLink RX5 141 yX5_keepTrial, Cond.instanceMethod yX5_keepTrial, Cond.selects RX5 yX5_keepTrial yX5_keepTrial, Cond.code yX5_keepTrial cX5_keepTrial 2 none, Cond.fieldLink RX5 112 "PickSlots" "states" "I", Cond.fieldLink RX5 11 "PickSlots" "history" "[LPickSlots$Warehouse;", Cond.methodLink RX5 144 yX5_dropOldestState, Cond.instanceMethod yX5_dropOldestState, Cond.selects RX5 yX5_dropOldestState yX5_dropOldestState, Cond.code yX5_dropOldestState cX5_dropOldestState 3 none]
def wsX5_good : List Cond := .code yX5_good cX5_good 3 (some .int) :: ((wsX5_good_r1 ++ (wsX5_good_r2 ++ wsX5_good_r3)) ++ wsX50 ++ wsX40 ++ wsX00)
def wsX5_demand_r1 : List Cond := [Cond.fieldLink RX5 37 "PickSlots" "trial" "LPickSlots$Warehouse;", Cond.methodLink RX5 40 yX5_startTrial, Cond.instanceMethod yX5_startTrial, Cond.selects RX5 yX5_startTrial yX5_startTrial, Cond.initialized RX5, Cond.code yX5_startTrial cX5_startTrial 1 none, Cond.fieldLink RX5 33 "PickSlots" "now" "LPickSlots$Warehouse;", Cond.methodLink RX5 137 yX4_copyFrom, Cond.instanceMethod yX4_copyFrom, Cond.selects RX4 yX4_copyFrom yX4_copyFrom, Cond.initialized RX4, Cond.code yX4_copyFrom cX4_copyFrom 2 none, Cond.fieldLink RX4 9 "PickSlots$Warehouse" "weights" "[I", Cond.fieldLink RX4 15 "PickSlots$Warehouse" "capacities" "[I", Cond.fieldLink RX4 18 "PickSlots$Warehouse" "seasonDemands" "[I", Cond.fieldLink RX4 21 "PickSlots$Warehouse" "slotOfGood" "[I", Cond.fieldLink RX4 24 "PickSlots$Warehouse" "unitsInSlot" "[I", Cond.fieldLink RX4 27 "PickSlots$Warehouse" "unitsInStore" "[I", Cond.fieldLink RX4 30 "PickSlots$Warehouse" "weekPicks" "[I", Cond.fieldLink RX4 33 "PickSlots$Warehouse" "unitsPicked" "[I", Cond.fieldLink RX4 38 "PickSlots$Warehouse" "goodInSlot" "[I", Cond.fieldLink RX4 41 "PickSlots$Warehouse" "settings" "[I", Cond.fieldLink RX4 47 "PickSlots$Warehouse" "accounts" "LPickSlots$Accounts;", Cond.fieldLink RX4 59 "PickSlots$Warehouse" "goods" "I"]
def wsX5_demand_r2 : List Cond := [Cond.fieldLink RX4 63 "PickSlots$Warehouse" "week" "I", Cond.methodLink RX4 51 yX4_copyRow, Cond.static yX4_copyRow, Cond.code yX4_copyRow cX4_copyRow 2 none, Cond.methodLink RX4 66 Lib.Math.min.name, Cond.static Lib.Math.min.name, Cond.initialized "java/lang/Math", Cond.code Lib.Math.min.name Lib.Math.min.code 2 (some .int), Cond.methodLink RX4 72 arraycopyName, Cond.native arraycopyName, Cond.static arraycopyName, Cond.initialized "java/lang/System", Cond.methodLink RX4 55 yX0_copyFrom, Cond.instanceMethod yX0_copyFrom, Cond.selects RX0 yX0_copyFrom yX0_copyFrom, Cond.initialized RX0, Cond.code yX0_copyFrom cX0_copyFrom 2 none, Cond.fieldLink RX0 7 "PickSlots$Accounts" "pickWalk" "I", Cond.fieldLink RX0 13 "PickSlots$Accounts" "refillWalk" "I", Cond.fieldLink RX0 16 "PickSlots$Accounts" "moveWalk" "I", Cond.fieldLink RX0 19 "PickSlots$Accounts" "trips" "I", Cond.fieldLink RX0 22 "PickSlots$Accounts" "saved" "I", Cond.fieldLink RX0 25 "PickSlots$Accounts" "moves" "I", Cond.fieldLink RX0 28 "PickSlots$Accounts" "picks" "I"]
def wsX5_demand_r3 : List Cond := [Cond.methodLink RX5 51 yX4_changeDemand, Cond.instanceMethod yX4_changeDemand, Cond.selects RX4 yX4_changeDemand yX4_changeDemand, Cond.code yX4_changeDemand cX4_changeDemand 5 (some .int), Cond.methodLink RX4 90 yX4_isGood, Cond.instanceMethod yX4_isGood, Cond.selects RX4 yX4_isGood yX4_isGood, Cond.code yX4_isGood cX4_isGood 2 (some .boolean), Cond.static yX5_isSeason, Cond.code yX5_isSeason cX5_isSeason 1 (some .boolean), Cond.static yX5_isIn, Cond.code yX5_isIn cX5_isIn 3 (some .boolean), Cond.methodLink RX4 96 yX4_demandOf, Cond.instanceMethod yX4_demandOf, Cond.selects RX4 yX4_demandOf yX4_demandOf, Cond.code yX4_demandOf cX4_demandOf 3 (some .int), Cond.methodLink RX5 47 yX5_endTrial, Cond.instanceMethod yX5_endTrial, Cond.selects RX5 yX5_endTrial yX5_endTrial, Cond.code yX5_endTrial cX5_endTrial 2 (some .int), Cond.methodLink RX5 141 yX5_keepTrial, Cond.instanceMethod yX5_keepTrial, Cond.selects RX5 yX5_keepTrial yX5_keepTrial, Cond.code yX5_keepTrial cX5_keepTrial 2 none]
def wsX5_demand_r4 : List Cond := [Cond.fieldLink RX5 112 "PickSlots" "states" "I", Cond.fieldLink RX5 11 "PickSlots" "history" "[LPickSlots$Warehouse;", Cond.methodLink RX5 144 yX5_dropOldestState, Cond.instanceMethod yX5_dropOldestState, Cond.selects RX5 yX5_dropOldestState yX5_dropOldestState, Cond.code yX5_dropOldestState cX5_dropOldestState 3 none]
def wsX5_demand : List Cond := .code yX5_demand cX5_demand 4 (some .int) :: ((wsX5_demand_r1 ++ (wsX5_demand_r2 ++ (wsX5_demand_r3 ++ wsX5_demand_r4))) ++ wsX50 ++ wsX40 ++ wsX00)
def wsX5_deliver_r1 : List Cond := [Cond.fieldLink RX5 37 "PickSlots" "trial" "LPickSlots$Warehouse;", Cond.methodLink RX5 40 yX5_startTrial, Cond.instanceMethod yX5_startTrial, Cond.selects RX5 yX5_startTrial yX5_startTrial, Cond.initialized RX5, Cond.code yX5_startTrial cX5_startTrial 1 none, Cond.fieldLink RX5 33 "PickSlots" "now" "LPickSlots$Warehouse;", Cond.methodLink RX5 137 yX4_copyFrom, Cond.instanceMethod yX4_copyFrom, Cond.selects RX4 yX4_copyFrom yX4_copyFrom, Cond.initialized RX4, Cond.code yX4_copyFrom cX4_copyFrom 2 none, Cond.fieldLink RX4 9 "PickSlots$Warehouse" "weights" "[I", Cond.fieldLink RX4 15 "PickSlots$Warehouse" "capacities" "[I", Cond.fieldLink RX4 18 "PickSlots$Warehouse" "seasonDemands" "[I", Cond.fieldLink RX4 21 "PickSlots$Warehouse" "slotOfGood" "[I", Cond.fieldLink RX4 24 "PickSlots$Warehouse" "unitsInSlot" "[I", Cond.fieldLink RX4 27 "PickSlots$Warehouse" "unitsInStore" "[I", Cond.fieldLink RX4 30 "PickSlots$Warehouse" "weekPicks" "[I", Cond.fieldLink RX4 33 "PickSlots$Warehouse" "unitsPicked" "[I", Cond.fieldLink RX4 38 "PickSlots$Warehouse" "goodInSlot" "[I", Cond.fieldLink RX4 41 "PickSlots$Warehouse" "settings" "[I", Cond.fieldLink RX4 47 "PickSlots$Warehouse" "accounts" "LPickSlots$Accounts;", Cond.fieldLink RX4 59 "PickSlots$Warehouse" "goods" "I"]
def wsX5_deliver_r2 : List Cond := [Cond.fieldLink RX4 63 "PickSlots$Warehouse" "week" "I", Cond.methodLink RX4 51 yX4_copyRow, Cond.static yX4_copyRow, Cond.code yX4_copyRow cX4_copyRow 2 none, Cond.methodLink RX4 66 Lib.Math.min.name, Cond.static Lib.Math.min.name, Cond.initialized "java/lang/Math", Cond.code Lib.Math.min.name Lib.Math.min.code 2 (some .int), Cond.methodLink RX4 72 arraycopyName, Cond.native arraycopyName, Cond.static arraycopyName, Cond.initialized "java/lang/System", Cond.methodLink RX4 55 yX0_copyFrom, Cond.instanceMethod yX0_copyFrom, Cond.selects RX0 yX0_copyFrom yX0_copyFrom, Cond.initialized RX0, Cond.code yX0_copyFrom cX0_copyFrom 2 none, Cond.fieldLink RX0 7 "PickSlots$Accounts" "pickWalk" "I", Cond.fieldLink RX0 13 "PickSlots$Accounts" "refillWalk" "I", Cond.fieldLink RX0 16 "PickSlots$Accounts" "moveWalk" "I", Cond.fieldLink RX0 19 "PickSlots$Accounts" "trips" "I", Cond.fieldLink RX0 22 "PickSlots$Accounts" "saved" "I", Cond.fieldLink RX0 25 "PickSlots$Accounts" "moves" "I", Cond.fieldLink RX0 28 "PickSlots$Accounts" "picks" "I"]
def wsX5_deliver_r3 : List Cond := [Cond.methodLink RX5 55 yX4_addToStore, Cond.instanceMethod yX4_addToStore, Cond.selects RX4 yX4_addToStore yX4_addToStore, Cond.code yX4_addToStore cX4_addToStore 3 (some .int), Cond.constant RX4 99 (100000), Cond.methodLink RX4 90 yX4_isGood, Cond.instanceMethod yX4_isGood, Cond.selects RX4 yX4_isGood yX4_isGood, Cond.code yX4_isGood cX4_isGood 2 (some .boolean), Cond.static yX5_isIn, Cond.code yX5_isIn cX5_isIn 3 (some .boolean), Cond.methodLink RX5 47 yX5_endTrial, Cond.instanceMethod yX5_endTrial, Cond.selects RX5 yX5_endTrial yX5_endTrial, Cond.code yX5_endTrial cX5_endTrial 2 (some .int), Cond.methodLink RX5 141 yX5_keepTrial, Cond.instanceMethod yX5_keepTrial, Cond.selects RX5 yX5_keepTrial yX5_keepTrial, Cond.code yX5_keepTrial cX5_keepTrial 2 none, Cond.fieldLink RX5 112 "PickSlots" "states" "I", Cond.fieldLink RX5 11 "PickSlots" "history" "[LPickSlots$Warehouse;", Cond.methodLink RX5 144 yX5_dropOldestState, Cond.instanceMethod yX5_dropOldestState, Cond.selects RX5 yX5_dropOldestState yX5_dropOldestState]
def wsX5_deliver_r4 : List Cond := [Cond.code yX5_dropOldestState cX5_dropOldestState 3 none]
def wsX5_deliver : List Cond := .code yX5_deliver cX5_deliver 3 (some .int) :: ((wsX5_deliver_r1 ++ (wsX5_deliver_r2 ++ (wsX5_deliver_r3 ++ wsX5_deliver_r4))) ++ wsX50 ++ wsX40 ++ wsX00)
def wsX5_place_r1 : List Cond := [Cond.fieldLink RX5 37 "PickSlots" "trial" "LPickSlots$Warehouse;", Cond.methodLink RX5 40 yX5_startTrial, Cond.instanceMethod yX5_startTrial, Cond.selects RX5 yX5_startTrial yX5_startTrial, Cond.initialized RX5, Cond.code yX5_startTrial cX5_startTrial 1 none, Cond.fieldLink RX5 33 "PickSlots" "now" "LPickSlots$Warehouse;", Cond.methodLink RX5 137 yX4_copyFrom, Cond.instanceMethod yX4_copyFrom, Cond.selects RX4 yX4_copyFrom yX4_copyFrom, Cond.initialized RX4, Cond.code yX4_copyFrom cX4_copyFrom 2 none, Cond.fieldLink RX4 9 "PickSlots$Warehouse" "weights" "[I", Cond.fieldLink RX4 15 "PickSlots$Warehouse" "capacities" "[I", Cond.fieldLink RX4 18 "PickSlots$Warehouse" "seasonDemands" "[I", Cond.fieldLink RX4 21 "PickSlots$Warehouse" "slotOfGood" "[I", Cond.fieldLink RX4 24 "PickSlots$Warehouse" "unitsInSlot" "[I", Cond.fieldLink RX4 27 "PickSlots$Warehouse" "unitsInStore" "[I", Cond.fieldLink RX4 30 "PickSlots$Warehouse" "weekPicks" "[I", Cond.fieldLink RX4 33 "PickSlots$Warehouse" "unitsPicked" "[I", Cond.fieldLink RX4 38 "PickSlots$Warehouse" "goodInSlot" "[I", Cond.fieldLink RX4 41 "PickSlots$Warehouse" "settings" "[I", Cond.fieldLink RX4 47 "PickSlots$Warehouse" "accounts" "LPickSlots$Accounts;", Cond.fieldLink RX4 59 "PickSlots$Warehouse" "goods" "I"]
def wsX5_place_r2 : List Cond := [Cond.fieldLink RX4 63 "PickSlots$Warehouse" "week" "I", Cond.methodLink RX4 51 yX4_copyRow, Cond.static yX4_copyRow, Cond.code yX4_copyRow cX4_copyRow 2 none, Cond.methodLink RX4 66 Lib.Math.min.name, Cond.static Lib.Math.min.name, Cond.initialized "java/lang/Math", Cond.code Lib.Math.min.name Lib.Math.min.code 2 (some .int), Cond.methodLink RX4 72 arraycopyName, Cond.native arraycopyName, Cond.static arraycopyName, Cond.initialized "java/lang/System", Cond.methodLink RX4 55 yX0_copyFrom, Cond.instanceMethod yX0_copyFrom, Cond.selects RX0 yX0_copyFrom yX0_copyFrom, Cond.initialized RX0, Cond.code yX0_copyFrom cX0_copyFrom 2 none, Cond.fieldLink RX0 7 "PickSlots$Accounts" "pickWalk" "I", Cond.fieldLink RX0 13 "PickSlots$Accounts" "refillWalk" "I", Cond.fieldLink RX0 16 "PickSlots$Accounts" "moveWalk" "I", Cond.fieldLink RX0 19 "PickSlots$Accounts" "trips" "I", Cond.fieldLink RX0 22 "PickSlots$Accounts" "saved" "I", Cond.fieldLink RX0 25 "PickSlots$Accounts" "moves" "I", Cond.fieldLink RX0 28 "PickSlots$Accounts" "picks" "I"]
def wsX5_place_r3 : List Cond := [Cond.methodLink RX5 58 yX4_putIntoSlot, Cond.instanceMethod yX4_putIntoSlot, Cond.selects RX4 yX4_putIntoSlot yX4_putIntoSlot, Cond.code yX4_putIntoSlot cX4_putIntoSlot 3 (some .int), Cond.methodLink RX4 90 yX4_isGood, Cond.instanceMethod yX4_isGood, Cond.selects RX4 yX4_isGood yX4_isGood, Cond.code yX4_isGood cX4_isGood 2 (some .boolean), Cond.methodLink RX4 78 yX2_isSlot, Cond.static yX2_isSlot, Cond.initialized RX2, Cond.code yX2_isSlot cX2_isSlot 1 (some .boolean), Cond.methodLink RX4 100 yX4_isPlaced, Cond.instanceMethod yX4_isPlaced, Cond.selects RX4 yX4_isPlaced yX4_isPlaced, Cond.code yX4_isPlaced cX4_isPlaced 2 (some .boolean), Cond.methodLink RX4 103 yX4_bears, Cond.instanceMethod yX4_bears, Cond.selects RX4 yX4_bears yX4_bears, Cond.code yX4_bears cX4_bears 3 (some .boolean), Cond.methodLink RX4 82 yX2_heaviestAt, Cond.static yX2_heaviestAt, Cond.code yX2_heaviestAt cX2_heaviestAt 1 (some .int), Cond.fieldLink RX2 13 "PickSlots$Slots" "HEAVIEST" "[I"]
def wsX5_place_r4 : List Cond := [Cond.methodLink RX4 107 yX4_standIn, Cond.instanceMethod yX4_standIn, Cond.selects RX4 yX4_standIn yX4_standIn, Cond.code yX4_standIn cX4_standIn 3 none, Cond.methodLink RX4 111 yX2_walkTo, Cond.static yX2_walkTo, Cond.code yX2_walkTo cX2_walkTo 1 (some .int), Cond.fieldLink RX2 9 "PickSlots$Slots" "REACHES" "[I", Cond.methodLink RX5 47 yX5_endTrial, Cond.instanceMethod yX5_endTrial, Cond.selects RX5 yX5_endTrial yX5_endTrial, Cond.code yX5_endTrial cX5_endTrial 2 (some .int), Cond.methodLink RX5 141 yX5_keepTrial, Cond.instanceMethod yX5_keepTrial, Cond.selects RX5 yX5_keepTrial yX5_keepTrial, Cond.code yX5_keepTrial cX5_keepTrial 2 none, Cond.fieldLink RX5 112 "PickSlots" "states" "I", Cond.fieldLink RX5 11 "PickSlots" "history" "[LPickSlots$Warehouse;", Cond.methodLink RX5 144 yX5_dropOldestState, Cond.instanceMethod yX5_dropOldestState, Cond.selects RX5 yX5_dropOldestState yX5_dropOldestState, Cond.code yX5_dropOldestState cX5_dropOldestState 3 none]
def wsX5_place : List Cond := .code yX5_place cX5_place 3 (some .int) :: ((wsX5_place_r1 ++ (wsX5_place_r2 ++ (wsX5_place_r3 ++ wsX5_place_r4))) ++ wsX50 ++ wsX40 ++ wsX00)
def wsX5_take_r1 : List Cond := [Cond.fieldLink RX5 37 "PickSlots" "trial" "LPickSlots$Warehouse;", Cond.methodLink RX5 40 yX5_startTrial, Cond.instanceMethod yX5_startTrial, Cond.selects RX5 yX5_startTrial yX5_startTrial, Cond.initialized RX5, Cond.code yX5_startTrial cX5_startTrial 1 none, Cond.fieldLink RX5 33 "PickSlots" "now" "LPickSlots$Warehouse;", Cond.methodLink RX5 137 yX4_copyFrom, Cond.instanceMethod yX4_copyFrom, Cond.selects RX4 yX4_copyFrom yX4_copyFrom, Cond.initialized RX4, Cond.code yX4_copyFrom cX4_copyFrom 2 none, Cond.fieldLink RX4 9 "PickSlots$Warehouse" "weights" "[I", Cond.fieldLink RX4 15 "PickSlots$Warehouse" "capacities" "[I", Cond.fieldLink RX4 18 "PickSlots$Warehouse" "seasonDemands" "[I", Cond.fieldLink RX4 21 "PickSlots$Warehouse" "slotOfGood" "[I", Cond.fieldLink RX4 24 "PickSlots$Warehouse" "unitsInSlot" "[I", Cond.fieldLink RX4 27 "PickSlots$Warehouse" "unitsInStore" "[I", Cond.fieldLink RX4 30 "PickSlots$Warehouse" "weekPicks" "[I", Cond.fieldLink RX4 33 "PickSlots$Warehouse" "unitsPicked" "[I", Cond.fieldLink RX4 38 "PickSlots$Warehouse" "goodInSlot" "[I", Cond.fieldLink RX4 41 "PickSlots$Warehouse" "settings" "[I", Cond.fieldLink RX4 47 "PickSlots$Warehouse" "accounts" "LPickSlots$Accounts;", Cond.fieldLink RX4 59 "PickSlots$Warehouse" "goods" "I"]
def wsX5_take_r2 : List Cond := [Cond.fieldLink RX4 63 "PickSlots$Warehouse" "week" "I", Cond.methodLink RX4 51 yX4_copyRow, Cond.static yX4_copyRow, Cond.code yX4_copyRow cX4_copyRow 2 none, Cond.methodLink RX4 66 Lib.Math.min.name, Cond.static Lib.Math.min.name, Cond.initialized "java/lang/Math", Cond.code Lib.Math.min.name Lib.Math.min.code 2 (some .int), Cond.methodLink RX4 72 arraycopyName, Cond.native arraycopyName, Cond.static arraycopyName, Cond.initialized "java/lang/System", Cond.methodLink RX4 55 yX0_copyFrom, Cond.instanceMethod yX0_copyFrom, Cond.selects RX0 yX0_copyFrom yX0_copyFrom, Cond.initialized RX0, Cond.code yX0_copyFrom cX0_copyFrom 2 none, Cond.fieldLink RX0 7 "PickSlots$Accounts" "pickWalk" "I", Cond.fieldLink RX0 13 "PickSlots$Accounts" "refillWalk" "I", Cond.fieldLink RX0 16 "PickSlots$Accounts" "moveWalk" "I", Cond.fieldLink RX0 19 "PickSlots$Accounts" "trips" "I", Cond.fieldLink RX0 22 "PickSlots$Accounts" "saved" "I", Cond.fieldLink RX0 25 "PickSlots$Accounts" "moves" "I", Cond.fieldLink RX0 28 "PickSlots$Accounts" "picks" "I"]
def wsX5_take_r3 : List Cond := [Cond.methodLink RX5 61 yX4_takeOutOfSlot, Cond.instanceMethod yX4_takeOutOfSlot, Cond.selects RX4 yX4_takeOutOfSlot yX4_takeOutOfSlot, Cond.code yX4_takeOutOfSlot cX4_takeOutOfSlot 3 (some .int), Cond.methodLink RX4 90 yX4_isGood, Cond.instanceMethod yX4_isGood, Cond.selects RX4 yX4_isGood yX4_isGood, Cond.code yX4_isGood cX4_isGood 2 (some .boolean), Cond.methodLink RX4 100 yX4_isPlaced, Cond.instanceMethod yX4_isPlaced, Cond.selects RX4 yX4_isPlaced yX4_isPlaced, Cond.code yX4_isPlaced cX4_isPlaced 2 (some .boolean), Cond.methodLink RX4 78 yX2_isSlot, Cond.static yX2_isSlot, Cond.initialized RX2, Cond.code yX2_isSlot cX2_isSlot 1 (some .boolean), Cond.methodLink RX5 47 yX5_endTrial, Cond.instanceMethod yX5_endTrial, Cond.selects RX5 yX5_endTrial yX5_endTrial, Cond.code yX5_endTrial cX5_endTrial 2 (some .int), Cond.methodLink RX5 141 yX5_keepTrial, Cond.instanceMethod yX5_keepTrial, Cond.selects RX5 yX5_keepTrial yX5_keepTrial, Cond.code yX5_keepTrial cX5_keepTrial 2 none]
def wsX5_take_r4 : List Cond := [Cond.fieldLink RX5 112 "PickSlots" "states" "I", Cond.fieldLink RX5 11 "PickSlots" "history" "[LPickSlots$Warehouse;", Cond.methodLink RX5 144 yX5_dropOldestState, Cond.instanceMethod yX5_dropOldestState, Cond.selects RX5 yX5_dropOldestState yX5_dropOldestState, Cond.code yX5_dropOldestState cX5_dropOldestState 3 none]
def wsX5_take : List Cond := .code yX5_take cX5_take 2 (some .int) :: ((wsX5_take_r1 ++ (wsX5_take_r2 ++ (wsX5_take_r3 ++ wsX5_take_r4))) ++ wsX50 ++ wsX40 ++ wsX00)
def wsX5_goodOf_r1 : List Cond := [Cond.fieldLink RX5 33 "PickSlots" "now" "LPickSlots$Warehouse;", Cond.methodLink RX5 64 yX4_numberOfGood, Cond.instanceMethod yX4_numberOfGood, Cond.selects RX4 yX4_numberOfGood yX4_numberOfGood, Cond.initialized RX4, Cond.code yX4_numberOfGood cX4_numberOfGood 3 (some .int), Cond.fieldLink RX4 9 "PickSlots$Warehouse" "weights" "[I", Cond.fieldLink RX4 15 "PickSlots$Warehouse" "capacities" "[I", Cond.fieldLink RX4 21 "PickSlots$Warehouse" "slotOfGood" "[I", Cond.fieldLink RX4 24 "PickSlots$Warehouse" "unitsInSlot" "[I", Cond.fieldLink RX4 27 "PickSlots$Warehouse" "unitsInStore" "[I", Cond.fieldLink RX4 30 "PickSlots$Warehouse" "weekPicks" "[I", Cond.fieldLink RX4 33 "PickSlots$Warehouse" "unitsPicked" "[I", Cond.methodLink RX4 90 yX4_isGood, Cond.instanceMethod yX4_isGood, Cond.selects RX4 yX4_isGood yX4_isGood, Cond.code yX4_isGood cX4_isGood 2 (some .boolean), Cond.fieldLink RX4 59 "PickSlots$Warehouse" "goods" "I", Cond.static yX5_isIn, Cond.initialized RX5, Cond.code yX5_isIn cX5_isIn 3 (some .boolean), Cond.methodLink RX4 100 yX4_isPlaced, Cond.instanceMethod yX4_isPlaced, Cond.selects RX4 yX4_isPlaced yX4_isPlaced]
def wsX5_goodOf_r2 : List Cond := [Cond.code yX4_isPlaced cX4_isPlaced 2 (some .boolean), Cond.methodLink RX4 78 yX2_isSlot, Cond.static yX2_isSlot, Cond.initialized RX2, Cond.code yX2_isSlot cX2_isSlot 1 (some .boolean), Cond.methodLink RX4 114 yX2_greatestHeightFor, Cond.static yX2_greatestHeightFor, Cond.code yX2_greatestHeightFor cX2_greatestHeightFor 3 (some .int), Cond.fieldLink RX2 13 "PickSlots$Slots" "HEAVIEST" "[I", Cond.methodLink RX4 96 yX4_demandOf, Cond.instanceMethod yX4_demandOf, Cond.selects RX4 yX4_demandOf yX4_demandOf, Cond.code yX4_demandOf cX4_demandOf 3 (some .int), Cond.fieldLink RX4 18 "PickSlots$Warehouse" "seasonDemands" "[I"]
def wsX5_goodOf : List Cond := .code yX5_goodOf cX5_goodOf 3 (some .int) :: ((wsX5_goodOf_r1 ++ wsX5_goodOf_r2) ++ wsX50 ++ wsX40)
def wsX5_slotOf : List Cond := .code yX5_slotOf cX5_slotOf 3 (some .int) :: ([.fieldLink RX5 33 "PickSlots" "now" "LPickSlots$Warehouse;", .methodLink RX5 67 yX4_numberOfSlot, .instanceMethod yX4_numberOfSlot, .selects RX4 yX4_numberOfSlot yX4_numberOfSlot, .initialized RX4, .code yX4_numberOfSlot cX4_numberOfSlot 3 (some .int), .fieldLink RX4 38 "PickSlots$Warehouse" "goodInSlot" "[I", .methodLink RX4 78 yX2_isSlot, .static yX2_isSlot, .initialized RX2, .code yX2_isSlot cX2_isSlot 1 (some .boolean), .methodLink RX4 90 yX4_isGood, .instanceMethod yX4_isGood, .selects RX4 yX4_isGood yX4_isGood, .code yX4_isGood cX4_isGood 2 (some .boolean), .fieldLink RX4 59 "PickSlots$Warehouse" "goods" "I", .methodLink RX4 111 yX2_walkTo, .static yX2_walkTo, .code yX2_walkTo cX2_walkTo 1 (some .int), .fieldLink RX2 9 "PickSlots$Slots" "REACHES" "[I", .methodLink RX4 82 yX2_heaviestAt, .static yX2_heaviestAt, .code yX2_heaviestAt cX2_heaviestAt 1 (some .int), .fieldLink RX2 13 "PickSlots$Slots" "HEAVIEST" "[I"] ++ wsX50 ++ wsX40)
def wsX5_nearest_r1 : List Cond := [Cond.fieldLink RX5 33 "PickSlots" "now" "LPickSlots$Warehouse;", Cond.methodLink RX5 70 yX4_nearestFreeSlot, Cond.instanceMethod yX4_nearestFreeSlot, Cond.selects RX4 yX4_nearestFreeSlot yX4_nearestFreeSlot, Cond.initialized RX4, Cond.code yX4_nearestFreeSlot cX4_nearestFreeSlot 5 (some .int), Cond.fieldLink RX4 38 "PickSlots$Warehouse" "goodInSlot" "[I", Cond.methodLink RX4 90 yX4_isGood, Cond.instanceMethod yX4_isGood, Cond.selects RX4 yX4_isGood yX4_isGood, Cond.code yX4_isGood cX4_isGood 2 (some .boolean), Cond.fieldLink RX4 59 "PickSlots$Warehouse" "goods" "I", Cond.methodLink RX4 103 yX4_bears, Cond.instanceMethod yX4_bears, Cond.selects RX4 yX4_bears yX4_bears, Cond.code yX4_bears cX4_bears 3 (some .boolean), Cond.fieldLink RX4 9 "PickSlots$Warehouse" "weights" "[I", Cond.methodLink RX4 82 yX2_heaviestAt, Cond.static yX2_heaviestAt, Cond.initialized RX2, Cond.code yX2_heaviestAt cX2_heaviestAt 1 (some .int), Cond.fieldLink RX2 13 "PickSlots$Slots" "HEAVIEST" "[I", Cond.methodLink RX4 111 yX2_walkTo, Cond.static yX2_walkTo]
def wsX5_nearest_r2 : List Cond := [Cond.code yX2_walkTo cX2_walkTo 1 (some .int), Cond.fieldLink RX2 9 "PickSlots$Slots" "REACHES" "[I"]
def wsX5_nearest : List Cond := .code yX5_nearest cX5_nearest 2 (some .int) :: ((wsX5_nearest_r1 ++ wsX5_nearest_r2) ++ wsX50 ++ wsX40)
def wsX5_pick_r1 : List Cond := [Cond.fieldLink RX5 37 "PickSlots" "trial" "LPickSlots$Warehouse;", Cond.methodLink RX5 40 yX5_startTrial, Cond.instanceMethod yX5_startTrial, Cond.selects RX5 yX5_startTrial yX5_startTrial, Cond.initialized RX5, Cond.code yX5_startTrial cX5_startTrial 1 none, Cond.fieldLink RX5 33 "PickSlots" "now" "LPickSlots$Warehouse;", Cond.methodLink RX5 137 yX4_copyFrom, Cond.instanceMethod yX4_copyFrom, Cond.selects RX4 yX4_copyFrom yX4_copyFrom, Cond.initialized RX4, Cond.code yX4_copyFrom cX4_copyFrom 2 none, Cond.fieldLink RX4 9 "PickSlots$Warehouse" "weights" "[I", Cond.fieldLink RX4 15 "PickSlots$Warehouse" "capacities" "[I", Cond.fieldLink RX4 18 "PickSlots$Warehouse" "seasonDemands" "[I", Cond.fieldLink RX4 21 "PickSlots$Warehouse" "slotOfGood" "[I", Cond.fieldLink RX4 24 "PickSlots$Warehouse" "unitsInSlot" "[I", Cond.fieldLink RX4 27 "PickSlots$Warehouse" "unitsInStore" "[I", Cond.fieldLink RX4 30 "PickSlots$Warehouse" "weekPicks" "[I", Cond.fieldLink RX4 33 "PickSlots$Warehouse" "unitsPicked" "[I", Cond.fieldLink RX4 38 "PickSlots$Warehouse" "goodInSlot" "[I", Cond.fieldLink RX4 41 "PickSlots$Warehouse" "settings" "[I", Cond.fieldLink RX4 47 "PickSlots$Warehouse" "accounts" "LPickSlots$Accounts;", Cond.fieldLink RX4 59 "PickSlots$Warehouse" "goods" "I"]
def wsX5_pick_r2 : List Cond := [Cond.fieldLink RX4 63 "PickSlots$Warehouse" "week" "I", Cond.methodLink RX4 51 yX4_copyRow, Cond.static yX4_copyRow, Cond.code yX4_copyRow cX4_copyRow 2 none, Cond.methodLink RX4 66 Lib.Math.min.name, Cond.static Lib.Math.min.name, Cond.initialized "java/lang/Math", Cond.code Lib.Math.min.name Lib.Math.min.code 2 (some .int), Cond.methodLink RX4 72 arraycopyName, Cond.native arraycopyName, Cond.static arraycopyName, Cond.initialized "java/lang/System", Cond.methodLink RX4 55 yX0_copyFrom, Cond.instanceMethod yX0_copyFrom, Cond.selects RX0 yX0_copyFrom yX0_copyFrom, Cond.initialized RX0, Cond.code yX0_copyFrom cX0_copyFrom 2 none, Cond.fieldLink RX0 7 "PickSlots$Accounts" "pickWalk" "I", Cond.fieldLink RX0 13 "PickSlots$Accounts" "refillWalk" "I", Cond.fieldLink RX0 16 "PickSlots$Accounts" "moveWalk" "I", Cond.fieldLink RX0 19 "PickSlots$Accounts" "trips" "I", Cond.fieldLink RX0 22 "PickSlots$Accounts" "saved" "I", Cond.fieldLink RX0 25 "PickSlots$Accounts" "moves" "I", Cond.fieldLink RX0 28 "PickSlots$Accounts" "picks" "I"]
def wsX5_pick_r3 : List Cond := [Cond.methodLink RX5 73 yX4_pickUnits, Cond.instanceMethod yX4_pickUnits, Cond.selects RX4 yX4_pickUnits yX4_pickUnits, Cond.code yX4_pickUnits cX4_pickUnits 6 (some .int), Cond.methodLink RX4 90 yX4_isGood, Cond.instanceMethod yX4_isGood, Cond.selects RX4 yX4_isGood yX4_isGood, Cond.code yX4_isGood cX4_isGood 2 (some .boolean), Cond.static yX5_isIn, Cond.code yX5_isIn cX5_isIn 3 (some .boolean), Cond.methodLink RX4 100 yX4_isPlaced, Cond.instanceMethod yX4_isPlaced, Cond.selects RX4 yX4_isPlaced yX4_isPlaced, Cond.code yX4_isPlaced cX4_isPlaced 2 (some .boolean), Cond.methodLink RX4 78 yX2_isSlot, Cond.static yX2_isSlot, Cond.initialized RX2, Cond.code yX2_isSlot cX2_isSlot 1 (some .boolean), Cond.methodLink RX4 117 yX4_unitsToBring, Cond.instanceMethod yX4_unitsToBring, Cond.selects RX4 yX4_unitsToBring yX4_unitsToBring, Cond.code yX4_unitsToBring cX4_unitsToBring 2 (some .int), Cond.methodLink RX4 120 yX4_bring, Cond.instanceMethod yX4_bring]
def wsX5_pick_r4 : List Cond := [Cond.selects RX4 yX4_bring yX4_bring, Cond.code yX4_bring cX4_bring 5 (some .int), Cond.methodLink RX4 129 yX4_tripsFor, Cond.instanceMethod yX4_tripsFor, Cond.selects RX4 yX4_tripsFor yX4_tripsFor, Cond.code yX4_tripsFor cX4_tripsFor 3 (some .int), Cond.methodLink RX4 111 yX2_walkTo, Cond.static yX2_walkTo, Cond.code yX2_walkTo cX2_walkTo 1 (some .int), Cond.fieldLink RX2 9 "PickSlots$Slots" "REACHES" "[I", Cond.methodLink RX5 47 yX5_endTrial, Cond.instanceMethod yX5_endTrial, Cond.selects RX5 yX5_endTrial yX5_endTrial, Cond.code yX5_endTrial cX5_endTrial 2 (some .int), Cond.methodLink RX5 141 yX5_keepTrial, Cond.instanceMethod yX5_keepTrial, Cond.selects RX5 yX5_keepTrial yX5_keepTrial, Cond.code yX5_keepTrial cX5_keepTrial 2 none, Cond.fieldLink RX5 112 "PickSlots" "states" "I", Cond.fieldLink RX5 11 "PickSlots" "history" "[LPickSlots$Warehouse;", Cond.methodLink RX5 144 yX5_dropOldestState, Cond.instanceMethod yX5_dropOldestState, Cond.selects RX5 yX5_dropOldestState yX5_dropOldestState, Cond.code yX5_dropOldestState cX5_dropOldestState 3 none]
def wsX5_pick : List Cond := .code yX5_pick cX5_pick 3 (some .int) :: ((wsX5_pick_r1 ++ (wsX5_pick_r2 ++ (wsX5_pick_r3 ++ wsX5_pick_r4))) ++ wsX50 ++ wsX40 ++ wsX00)
def wsX5_refill_r1 : List Cond := [Cond.fieldLink RX5 37 "PickSlots" "trial" "LPickSlots$Warehouse;", Cond.methodLink RX5 40 yX5_startTrial, Cond.instanceMethod yX5_startTrial, Cond.selects RX5 yX5_startTrial yX5_startTrial, Cond.initialized RX5, Cond.code yX5_startTrial cX5_startTrial 1 none, Cond.fieldLink RX5 33 "PickSlots" "now" "LPickSlots$Warehouse;", Cond.methodLink RX5 137 yX4_copyFrom, Cond.instanceMethod yX4_copyFrom, Cond.selects RX4 yX4_copyFrom yX4_copyFrom, Cond.initialized RX4, Cond.code yX4_copyFrom cX4_copyFrom 2 none, Cond.fieldLink RX4 9 "PickSlots$Warehouse" "weights" "[I", Cond.fieldLink RX4 15 "PickSlots$Warehouse" "capacities" "[I", Cond.fieldLink RX4 18 "PickSlots$Warehouse" "seasonDemands" "[I", Cond.fieldLink RX4 21 "PickSlots$Warehouse" "slotOfGood" "[I", Cond.fieldLink RX4 24 "PickSlots$Warehouse" "unitsInSlot" "[I", Cond.fieldLink RX4 27 "PickSlots$Warehouse" "unitsInStore" "[I", Cond.fieldLink RX4 30 "PickSlots$Warehouse" "weekPicks" "[I", Cond.fieldLink RX4 33 "PickSlots$Warehouse" "unitsPicked" "[I", Cond.fieldLink RX4 38 "PickSlots$Warehouse" "goodInSlot" "[I", Cond.fieldLink RX4 41 "PickSlots$Warehouse" "settings" "[I", Cond.fieldLink RX4 47 "PickSlots$Warehouse" "accounts" "LPickSlots$Accounts;", Cond.fieldLink RX4 59 "PickSlots$Warehouse" "goods" "I"]
def wsX5_refill_r2 : List Cond := [Cond.fieldLink RX4 63 "PickSlots$Warehouse" "week" "I", Cond.methodLink RX4 51 yX4_copyRow, Cond.static yX4_copyRow, Cond.code yX4_copyRow cX4_copyRow 2 none, Cond.methodLink RX4 66 Lib.Math.min.name, Cond.static Lib.Math.min.name, Cond.initialized "java/lang/Math", Cond.code Lib.Math.min.name Lib.Math.min.code 2 (some .int), Cond.methodLink RX4 72 arraycopyName, Cond.native arraycopyName, Cond.static arraycopyName, Cond.initialized "java/lang/System", Cond.methodLink RX4 55 yX0_copyFrom, Cond.instanceMethod yX0_copyFrom, Cond.selects RX0 yX0_copyFrom yX0_copyFrom, Cond.initialized RX0, Cond.code yX0_copyFrom cX0_copyFrom 2 none, Cond.fieldLink RX0 7 "PickSlots$Accounts" "pickWalk" "I", Cond.fieldLink RX0 13 "PickSlots$Accounts" "refillWalk" "I", Cond.fieldLink RX0 16 "PickSlots$Accounts" "moveWalk" "I", Cond.fieldLink RX0 19 "PickSlots$Accounts" "trips" "I", Cond.fieldLink RX0 22 "PickSlots$Accounts" "saved" "I", Cond.fieldLink RX0 25 "PickSlots$Accounts" "moves" "I", Cond.fieldLink RX0 28 "PickSlots$Accounts" "picks" "I"]
def wsX5_refill_r3 : List Cond := [Cond.methodLink RX5 76 yX4_refillSlot, Cond.instanceMethod yX4_refillSlot, Cond.selects RX4 yX4_refillSlot yX4_refillSlot, Cond.code yX4_refillSlot cX4_refillSlot 3 (some .int), Cond.methodLink RX4 90 yX4_isGood, Cond.instanceMethod yX4_isGood, Cond.selects RX4 yX4_isGood yX4_isGood, Cond.code yX4_isGood cX4_isGood 2 (some .boolean), Cond.methodLink RX4 100 yX4_isPlaced, Cond.instanceMethod yX4_isPlaced, Cond.selects RX4 yX4_isPlaced yX4_isPlaced, Cond.code yX4_isPlaced cX4_isPlaced 2 (some .boolean), Cond.methodLink RX4 78 yX2_isSlot, Cond.static yX2_isSlot, Cond.initialized RX2, Cond.code yX2_isSlot cX2_isSlot 1 (some .boolean), Cond.methodLink RX4 117 yX4_unitsToBring, Cond.instanceMethod yX4_unitsToBring, Cond.selects RX4 yX4_unitsToBring yX4_unitsToBring, Cond.code yX4_unitsToBring cX4_unitsToBring 2 (some .int), Cond.methodLink RX4 120 yX4_bring, Cond.instanceMethod yX4_bring, Cond.selects RX4 yX4_bring yX4_bring, Cond.code yX4_bring cX4_bring 5 (some .int)]
def wsX5_refill_r4 : List Cond := [Cond.methodLink RX4 129 yX4_tripsFor, Cond.instanceMethod yX4_tripsFor, Cond.selects RX4 yX4_tripsFor yX4_tripsFor, Cond.code yX4_tripsFor cX4_tripsFor 3 (some .int), Cond.methodLink RX4 111 yX2_walkTo, Cond.static yX2_walkTo, Cond.code yX2_walkTo cX2_walkTo 1 (some .int), Cond.fieldLink RX2 9 "PickSlots$Slots" "REACHES" "[I", Cond.methodLink RX5 47 yX5_endTrial, Cond.instanceMethod yX5_endTrial, Cond.selects RX5 yX5_endTrial yX5_endTrial, Cond.code yX5_endTrial cX5_endTrial 2 (some .int), Cond.methodLink RX5 141 yX5_keepTrial, Cond.instanceMethod yX5_keepTrial, Cond.selects RX5 yX5_keepTrial yX5_keepTrial, Cond.code yX5_keepTrial cX5_keepTrial 2 none, Cond.fieldLink RX5 112 "PickSlots" "states" "I", Cond.fieldLink RX5 11 "PickSlots" "history" "[LPickSlots$Warehouse;", Cond.methodLink RX5 144 yX5_dropOldestState, Cond.instanceMethod yX5_dropOldestState, Cond.selects RX5 yX5_dropOldestState yX5_dropOldestState, Cond.code yX5_dropOldestState cX5_dropOldestState 3 none]
def wsX5_refill : List Cond := .code yX5_refill cX5_refill 2 (some .int) :: ((wsX5_refill_r1 ++ (wsX5_refill_r2 ++ (wsX5_refill_r3 ++ wsX5_refill_r4))) ++ wsX50 ++ wsX40 ++ wsX00)
def wsX5_endWeek_r1 : List Cond := [Cond.fieldLink RX5 37 "PickSlots" "trial" "LPickSlots$Warehouse;", Cond.methodLink RX5 40 yX5_startTrial, Cond.instanceMethod yX5_startTrial, Cond.selects RX5 yX5_startTrial yX5_startTrial, Cond.initialized RX5, Cond.code yX5_startTrial cX5_startTrial 1 none, Cond.fieldLink RX5 33 "PickSlots" "now" "LPickSlots$Warehouse;", Cond.methodLink RX5 137 yX4_copyFrom, Cond.instanceMethod yX4_copyFrom, Cond.selects RX4 yX4_copyFrom yX4_copyFrom, Cond.initialized RX4, Cond.code yX4_copyFrom cX4_copyFrom 2 none, Cond.fieldLink RX4 9 "PickSlots$Warehouse" "weights" "[I", Cond.fieldLink RX4 15 "PickSlots$Warehouse" "capacities" "[I", Cond.fieldLink RX4 18 "PickSlots$Warehouse" "seasonDemands" "[I", Cond.fieldLink RX4 21 "PickSlots$Warehouse" "slotOfGood" "[I", Cond.fieldLink RX4 24 "PickSlots$Warehouse" "unitsInSlot" "[I", Cond.fieldLink RX4 27 "PickSlots$Warehouse" "unitsInStore" "[I", Cond.fieldLink RX4 30 "PickSlots$Warehouse" "weekPicks" "[I", Cond.fieldLink RX4 33 "PickSlots$Warehouse" "unitsPicked" "[I", Cond.fieldLink RX4 38 "PickSlots$Warehouse" "goodInSlot" "[I", Cond.fieldLink RX4 41 "PickSlots$Warehouse" "settings" "[I", Cond.fieldLink RX4 47 "PickSlots$Warehouse" "accounts" "LPickSlots$Accounts;", Cond.fieldLink RX4 59 "PickSlots$Warehouse" "goods" "I"]
def wsX5_endWeek_r2 : List Cond := [Cond.fieldLink RX4 63 "PickSlots$Warehouse" "week" "I", Cond.methodLink RX4 51 yX4_copyRow, Cond.static yX4_copyRow, Cond.code yX4_copyRow cX4_copyRow 2 none, Cond.methodLink RX4 66 Lib.Math.min.name, Cond.static Lib.Math.min.name, Cond.initialized "java/lang/Math", Cond.code Lib.Math.min.name Lib.Math.min.code 2 (some .int), Cond.methodLink RX4 72 arraycopyName, Cond.native arraycopyName, Cond.static arraycopyName, Cond.initialized "java/lang/System", Cond.methodLink RX4 55 yX0_copyFrom, Cond.instanceMethod yX0_copyFrom, Cond.selects RX0 yX0_copyFrom yX0_copyFrom, Cond.initialized RX0, Cond.code yX0_copyFrom cX0_copyFrom 2 none, Cond.fieldLink RX0 7 "PickSlots$Accounts" "pickWalk" "I", Cond.fieldLink RX0 13 "PickSlots$Accounts" "refillWalk" "I", Cond.fieldLink RX0 16 "PickSlots$Accounts" "moveWalk" "I", Cond.fieldLink RX0 19 "PickSlots$Accounts" "trips" "I", Cond.fieldLink RX0 22 "PickSlots$Accounts" "saved" "I", Cond.fieldLink RX0 25 "PickSlots$Accounts" "moves" "I", Cond.fieldLink RX0 28 "PickSlots$Accounts" "picks" "I"]
def wsX5_endWeek_r3 : List Cond := [Cond.methodLink RX5 79 yX4_finishWeek, Cond.instanceMethod yX4_finishWeek, Cond.selects RX4 yX4_finishWeek yX4_finishWeek, Cond.code yX4_finishWeek cX4_finishWeek 4 (some .int), Cond.methodLink RX4 138 yX4_presentSeason, Cond.instanceMethod yX4_presentSeason, Cond.selects RX4 yX4_presentSeason yX4_presentSeason, Cond.code yX4_presentSeason cX4_presentSeason 1 (some .int), Cond.methodLink RX4 96 yX4_demandOf, Cond.instanceMethod yX4_demandOf, Cond.selects RX4 yX4_demandOf yX4_demandOf, Cond.code yX4_demandOf cX4_demandOf 3 (some .int), Cond.methodLink RX5 47 yX5_endTrial, Cond.instanceMethod yX5_endTrial, Cond.selects RX5 yX5_endTrial yX5_endTrial, Cond.code yX5_endTrial cX5_endTrial 2 (some .int), Cond.methodLink RX5 141 yX5_keepTrial, Cond.instanceMethod yX5_keepTrial, Cond.selects RX5 yX5_keepTrial yX5_keepTrial, Cond.code yX5_keepTrial cX5_keepTrial 2 none, Cond.fieldLink RX5 112 "PickSlots" "states" "I", Cond.fieldLink RX5 11 "PickSlots" "history" "[LPickSlots$Warehouse;", Cond.methodLink RX5 144 yX5_dropOldestState, Cond.instanceMethod yX5_dropOldestState]
def wsX5_endWeek_r4 : List Cond := [Cond.selects RX5 yX5_dropOldestState yX5_dropOldestState, Cond.code yX5_dropOldestState cX5_dropOldestState 3 none]
def wsX5_endWeek : List Cond := .code yX5_endWeek cX5_endWeek 1 (some .int) :: ((wsX5_endWeek_r1 ++ (wsX5_endWeek_r2 ++ (wsX5_endWeek_r3 ++ wsX5_endWeek_r4))) ++ wsX50 ++ wsX40 ++ wsX00)
def wsX5_move_r1 : List Cond := [Cond.fieldLink RX5 37 "PickSlots" "trial" "LPickSlots$Warehouse;", Cond.methodLink RX5 40 yX5_startTrial, Cond.instanceMethod yX5_startTrial, Cond.selects RX5 yX5_startTrial yX5_startTrial, Cond.initialized RX5, Cond.code yX5_startTrial cX5_startTrial 1 none, Cond.fieldLink RX5 33 "PickSlots" "now" "LPickSlots$Warehouse;", Cond.methodLink RX5 137 yX4_copyFrom, Cond.instanceMethod yX4_copyFrom, Cond.selects RX4 yX4_copyFrom yX4_copyFrom, Cond.initialized RX4, Cond.code yX4_copyFrom cX4_copyFrom 2 none, Cond.fieldLink RX4 9 "PickSlots$Warehouse" "weights" "[I", Cond.fieldLink RX4 15 "PickSlots$Warehouse" "capacities" "[I", Cond.fieldLink RX4 18 "PickSlots$Warehouse" "seasonDemands" "[I", Cond.fieldLink RX4 21 "PickSlots$Warehouse" "slotOfGood" "[I", Cond.fieldLink RX4 24 "PickSlots$Warehouse" "unitsInSlot" "[I", Cond.fieldLink RX4 27 "PickSlots$Warehouse" "unitsInStore" "[I", Cond.fieldLink RX4 30 "PickSlots$Warehouse" "weekPicks" "[I", Cond.fieldLink RX4 33 "PickSlots$Warehouse" "unitsPicked" "[I", Cond.fieldLink RX4 38 "PickSlots$Warehouse" "goodInSlot" "[I", Cond.fieldLink RX4 41 "PickSlots$Warehouse" "settings" "[I", Cond.fieldLink RX4 47 "PickSlots$Warehouse" "accounts" "LPickSlots$Accounts;", Cond.fieldLink RX4 59 "PickSlots$Warehouse" "goods" "I"]
def wsX5_move_r2 : List Cond := [Cond.fieldLink RX4 63 "PickSlots$Warehouse" "week" "I", Cond.methodLink RX4 51 yX4_copyRow, Cond.static yX4_copyRow, Cond.code yX4_copyRow cX4_copyRow 2 none, Cond.methodLink RX4 66 Lib.Math.min.name, Cond.static Lib.Math.min.name, Cond.initialized "java/lang/Math", Cond.code Lib.Math.min.name Lib.Math.min.code 2 (some .int), Cond.methodLink RX4 72 arraycopyName, Cond.native arraycopyName, Cond.static arraycopyName, Cond.initialized "java/lang/System", Cond.methodLink RX4 55 yX0_copyFrom, Cond.instanceMethod yX0_copyFrom, Cond.selects RX0 yX0_copyFrom yX0_copyFrom, Cond.initialized RX0, Cond.code yX0_copyFrom cX0_copyFrom 2 none, Cond.fieldLink RX0 7 "PickSlots$Accounts" "pickWalk" "I", Cond.fieldLink RX0 13 "PickSlots$Accounts" "refillWalk" "I", Cond.fieldLink RX0 16 "PickSlots$Accounts" "moveWalk" "I", Cond.fieldLink RX0 19 "PickSlots$Accounts" "trips" "I", Cond.fieldLink RX0 22 "PickSlots$Accounts" "saved" "I", Cond.fieldLink RX0 25 "PickSlots$Accounts" "moves" "I", Cond.fieldLink RX0 28 "PickSlots$Accounts" "picks" "I"]
def wsX5_move_r3 : List Cond := [Cond.methodLink RX5 83 yX4_moveGood, Cond.instanceMethod yX4_moveGood, Cond.selects RX4 yX4_moveGood yX4_moveGood, Cond.code yX4_moveGood cX4_moveGood 3 (some .int), Cond.constant RX4 145 (100000000), Cond.methodLink RX4 90 yX4_isGood, Cond.instanceMethod yX4_isGood, Cond.selects RX4 yX4_isGood yX4_isGood, Cond.code yX4_isGood cX4_isGood 2 (some .boolean), Cond.methodLink RX4 78 yX2_isSlot, Cond.static yX2_isSlot, Cond.initialized RX2, Cond.code yX2_isSlot cX2_isSlot 1 (some .boolean), Cond.methodLink RX4 142 yX4_canGo, Cond.instanceMethod yX4_canGo, Cond.selects RX4 yX4_canGo yX4_canGo, Cond.code yX4_canGo cX4_canGo 5 (some .boolean), Cond.methodLink RX4 103 yX4_bears, Cond.instanceMethod yX4_bears, Cond.selects RX4 yX4_bears yX4_bears, Cond.code yX4_bears cX4_bears 3 (some .boolean), Cond.methodLink RX4 82 yX2_heaviestAt, Cond.static yX2_heaviestAt, Cond.code yX2_heaviestAt cX2_heaviestAt 1 (some .int)]
def wsX5_move_r4 : List Cond := [Cond.fieldLink RX2 13 "PickSlots$Slots" "HEAVIEST" "[I", Cond.methodLink RX4 146 yX4_goTo, Cond.instanceMethod yX4_goTo, Cond.selects RX4 yX4_goTo yX4_goTo, Cond.code yX4_goTo cX4_goTo 6 (some .int), Cond.methodLink RX4 155 yX4_savedByGoing, Cond.instanceMethod yX4_savedByGoing, Cond.selects RX4 yX4_savedByGoing yX4_savedByGoing, Cond.code yX4_savedByGoing cX4_savedByGoing 5 (some .int), Cond.methodLink RX4 138 yX4_presentSeason, Cond.instanceMethod yX4_presentSeason, Cond.selects RX4 yX4_presentSeason yX4_presentSeason, Cond.code yX4_presentSeason cX4_presentSeason 1 (some .int), Cond.methodLink RX4 96 yX4_demandOf, Cond.instanceMethod yX4_demandOf, Cond.selects RX4 yX4_demandOf yX4_demandOf, Cond.code yX4_demandOf cX4_demandOf 3 (some .int), Cond.methodLink RX4 111 yX2_walkTo, Cond.static yX2_walkTo, Cond.code yX2_walkTo cX2_walkTo 1 (some .int), Cond.fieldLink RX2 9 "PickSlots$Slots" "REACHES" "[I", Cond.methodLink RX4 149 yX4_walkOfGoing, Cond.instanceMethod yX4_walkOfGoing, Cond.selects RX4 yX4_walkOfGoing yX4_walkOfGoing]
def wsX5_move_r5 : List Cond := [Cond.code yX4_walkOfGoing cX4_walkOfGoing 6 (some .int), Cond.methodLink RX4 161 yX2_wayBetween, Cond.static yX2_wayBetween, Cond.code yX2_wayBetween cX2_wayBetween 3 (some .int), Cond.methodLink RX2 16 Lib.Math.abs.name, Cond.static Lib.Math.abs.name, Cond.code Lib.Math.abs.name Lib.Math.abs.code 1 (some .int), Cond.methodLink RX4 107 yX4_standIn, Cond.instanceMethod yX4_standIn, Cond.selects RX4 yX4_standIn yX4_standIn, Cond.code yX4_standIn cX4_standIn 3 none, Cond.methodLink RX5 47 yX5_endTrial, Cond.instanceMethod yX5_endTrial, Cond.selects RX5 yX5_endTrial yX5_endTrial, Cond.code yX5_endTrial cX5_endTrial 2 (some .int), Cond.methodLink RX5 141 yX5_keepTrial, Cond.instanceMethod yX5_keepTrial, Cond.selects RX5 yX5_keepTrial yX5_keepTrial, Cond.code yX5_keepTrial cX5_keepTrial 2 none, Cond.fieldLink RX5 112 "PickSlots" "states" "I", Cond.fieldLink RX5 11 "PickSlots" "history" "[LPickSlots$Warehouse;", Cond.methodLink RX5 144 yX5_dropOldestState, Cond.instanceMethod yX5_dropOldestState, Cond.selects RX5 yX5_dropOldestState yX5_dropOldestState]
def wsX5_move_r6 : List Cond := [Cond.code yX5_dropOldestState cX5_dropOldestState 3 none]
def wsX5_move : List Cond := .code yX5_move cX5_move 3 (some .int) :: ((wsX5_move_r1 ++ (wsX5_move_r2 ++ (wsX5_move_r3 ++ (wsX5_move_r4 ++ (wsX5_move_r5 ++ wsX5_move_r6))))) ++ wsX50 ++ wsX40 ++ wsX00)
def wsX5_exchange_r1 : List Cond := [Cond.fieldLink RX5 37 "PickSlots" "trial" "LPickSlots$Warehouse;", Cond.methodLink RX5 40 yX5_startTrial, Cond.instanceMethod yX5_startTrial, Cond.selects RX5 yX5_startTrial yX5_startTrial, Cond.initialized RX5, Cond.code yX5_startTrial cX5_startTrial 1 none, Cond.fieldLink RX5 33 "PickSlots" "now" "LPickSlots$Warehouse;", Cond.methodLink RX5 137 yX4_copyFrom, Cond.instanceMethod yX4_copyFrom, Cond.selects RX4 yX4_copyFrom yX4_copyFrom, Cond.initialized RX4, Cond.code yX4_copyFrom cX4_copyFrom 2 none, Cond.fieldLink RX4 9 "PickSlots$Warehouse" "weights" "[I", Cond.fieldLink RX4 15 "PickSlots$Warehouse" "capacities" "[I", Cond.fieldLink RX4 18 "PickSlots$Warehouse" "seasonDemands" "[I", Cond.fieldLink RX4 21 "PickSlots$Warehouse" "slotOfGood" "[I", Cond.fieldLink RX4 24 "PickSlots$Warehouse" "unitsInSlot" "[I", Cond.fieldLink RX4 27 "PickSlots$Warehouse" "unitsInStore" "[I", Cond.fieldLink RX4 30 "PickSlots$Warehouse" "weekPicks" "[I", Cond.fieldLink RX4 33 "PickSlots$Warehouse" "unitsPicked" "[I", Cond.fieldLink RX4 38 "PickSlots$Warehouse" "goodInSlot" "[I", Cond.fieldLink RX4 41 "PickSlots$Warehouse" "settings" "[I", Cond.fieldLink RX4 47 "PickSlots$Warehouse" "accounts" "LPickSlots$Accounts;", Cond.fieldLink RX4 59 "PickSlots$Warehouse" "goods" "I"]
def wsX5_exchange_r2 : List Cond := [Cond.fieldLink RX4 63 "PickSlots$Warehouse" "week" "I", Cond.methodLink RX4 51 yX4_copyRow, Cond.static yX4_copyRow, Cond.code yX4_copyRow cX4_copyRow 2 none, Cond.methodLink RX4 66 Lib.Math.min.name, Cond.static Lib.Math.min.name, Cond.initialized "java/lang/Math", Cond.code Lib.Math.min.name Lib.Math.min.code 2 (some .int), Cond.methodLink RX4 72 arraycopyName, Cond.native arraycopyName, Cond.static arraycopyName, Cond.initialized "java/lang/System", Cond.methodLink RX4 55 yX0_copyFrom, Cond.instanceMethod yX0_copyFrom, Cond.selects RX0 yX0_copyFrom yX0_copyFrom, Cond.initialized RX0, Cond.code yX0_copyFrom cX0_copyFrom 2 none, Cond.fieldLink RX0 7 "PickSlots$Accounts" "pickWalk" "I", Cond.fieldLink RX0 13 "PickSlots$Accounts" "refillWalk" "I", Cond.fieldLink RX0 16 "PickSlots$Accounts" "moveWalk" "I", Cond.fieldLink RX0 19 "PickSlots$Accounts" "trips" "I", Cond.fieldLink RX0 22 "PickSlots$Accounts" "saved" "I", Cond.fieldLink RX0 25 "PickSlots$Accounts" "moves" "I", Cond.fieldLink RX0 28 "PickSlots$Accounts" "picks" "I"]
def wsX5_exchange_r3 : List Cond := [Cond.methodLink RX5 86 yX4_exchangeGoods, Cond.instanceMethod yX4_exchangeGoods, Cond.selects RX4 yX4_exchangeGoods yX4_exchangeGoods, Cond.code yX4_exchangeGoods cX4_exchangeGoods 3 (some .int), Cond.constant RX4 145 (100000000), Cond.methodLink RX4 90 yX4_isGood, Cond.instanceMethod yX4_isGood, Cond.selects RX4 yX4_isGood yX4_isGood, Cond.code yX4_isGood cX4_isGood 2 (some .boolean), Cond.methodLink RX4 100 yX4_isPlaced, Cond.instanceMethod yX4_isPlaced, Cond.selects RX4 yX4_isPlaced yX4_isPlaced, Cond.code yX4_isPlaced cX4_isPlaced 2 (some .boolean), Cond.methodLink RX4 78 yX2_isSlot, Cond.static yX2_isSlot, Cond.initialized RX2, Cond.code yX2_isSlot cX2_isSlot 1 (some .boolean), Cond.methodLink RX4 142 yX4_canGo, Cond.instanceMethod yX4_canGo, Cond.selects RX4 yX4_canGo yX4_canGo, Cond.code yX4_canGo cX4_canGo 5 (some .boolean), Cond.methodLink RX4 103 yX4_bears, Cond.instanceMethod yX4_bears, Cond.selects RX4 yX4_bears yX4_bears]
def wsX5_exchange_r4 : List Cond := [Cond.code yX4_bears cX4_bears 3 (some .boolean), Cond.methodLink RX4 82 yX2_heaviestAt, Cond.static yX2_heaviestAt, Cond.code yX2_heaviestAt cX2_heaviestAt 1 (some .int), Cond.fieldLink RX2 13 "PickSlots$Slots" "HEAVIEST" "[I", Cond.methodLink RX4 146 yX4_goTo, Cond.instanceMethod yX4_goTo, Cond.selects RX4 yX4_goTo yX4_goTo, Cond.code yX4_goTo cX4_goTo 6 (some .int), Cond.methodLink RX4 155 yX4_savedByGoing, Cond.instanceMethod yX4_savedByGoing, Cond.selects RX4 yX4_savedByGoing yX4_savedByGoing, Cond.code yX4_savedByGoing cX4_savedByGoing 5 (some .int), Cond.methodLink RX4 138 yX4_presentSeason, Cond.instanceMethod yX4_presentSeason, Cond.selects RX4 yX4_presentSeason yX4_presentSeason, Cond.code yX4_presentSeason cX4_presentSeason 1 (some .int), Cond.methodLink RX4 96 yX4_demandOf, Cond.instanceMethod yX4_demandOf, Cond.selects RX4 yX4_demandOf yX4_demandOf, Cond.code yX4_demandOf cX4_demandOf 3 (some .int), Cond.methodLink RX4 111 yX2_walkTo, Cond.static yX2_walkTo, Cond.code yX2_walkTo cX2_walkTo 1 (some .int)]
def wsX5_exchange_r5 : List Cond := [Cond.fieldLink RX2 9 "PickSlots$Slots" "REACHES" "[I", Cond.methodLink RX4 149 yX4_walkOfGoing, Cond.instanceMethod yX4_walkOfGoing, Cond.selects RX4 yX4_walkOfGoing yX4_walkOfGoing, Cond.code yX4_walkOfGoing cX4_walkOfGoing 6 (some .int), Cond.methodLink RX4 161 yX2_wayBetween, Cond.static yX2_wayBetween, Cond.code yX2_wayBetween cX2_wayBetween 3 (some .int), Cond.methodLink RX2 16 Lib.Math.abs.name, Cond.static Lib.Math.abs.name, Cond.code Lib.Math.abs.name Lib.Math.abs.code 1 (some .int), Cond.methodLink RX4 107 yX4_standIn, Cond.instanceMethod yX4_standIn, Cond.selects RX4 yX4_standIn yX4_standIn, Cond.code yX4_standIn cX4_standIn 3 none, Cond.methodLink RX5 47 yX5_endTrial, Cond.instanceMethod yX5_endTrial, Cond.selects RX5 yX5_endTrial yX5_endTrial, Cond.code yX5_endTrial cX5_endTrial 2 (some .int), Cond.methodLink RX5 141 yX5_keepTrial, Cond.instanceMethod yX5_keepTrial, Cond.selects RX5 yX5_keepTrial yX5_keepTrial, Cond.code yX5_keepTrial cX5_keepTrial 2 none, Cond.fieldLink RX5 112 "PickSlots" "states" "I"]
def wsX5_exchange_r6 : List Cond := [Cond.fieldLink RX5 11 "PickSlots" "history" "[LPickSlots$Warehouse;", Cond.methodLink RX5 144 yX5_dropOldestState, Cond.instanceMethod yX5_dropOldestState, Cond.selects RX5 yX5_dropOldestState yX5_dropOldestState, Cond.code yX5_dropOldestState cX5_dropOldestState 3 none]
def wsX5_exchange : List Cond := .code yX5_exchange cX5_exchange 3 (some .int) :: ((wsX5_exchange_r1 ++ (wsX5_exchange_r2 ++ (wsX5_exchange_r3 ++ (wsX5_exchange_r4 ++ (wsX5_exchange_r5 ++ wsX5_exchange_r6))))) ++ wsX50 ++ wsX40 ++ wsX00)
def wsX5_worth_r1 : List Cond := [Cond.fieldLink RX5 33 "PickSlots" "now" "LPickSlots$Warehouse;", Cond.methodLink RX5 89 yX4_numberOfChange, Cond.instanceMethod yX4_numberOfChange, Cond.selects RX4 yX4_numberOfChange yX4_numberOfChange, Cond.initialized RX4, Cond.code yX4_numberOfChange cX4_numberOfChange 4 (some .int), Cond.constant RX4 145 (100000000), Cond.methodLink RX4 90 yX4_isGood, Cond.instanceMethod yX4_isGood, Cond.selects RX4 yX4_isGood yX4_isGood, Cond.code yX4_isGood cX4_isGood 2 (some .boolean), Cond.fieldLink RX4 59 "PickSlots$Warehouse" "goods" "I", Cond.methodLink RX4 78 yX2_isSlot, Cond.static yX2_isSlot, Cond.initialized RX2, Cond.code yX2_isSlot cX2_isSlot 1 (some .boolean), Cond.static yX5_isIn, Cond.initialized RX5, Cond.code yX5_isIn cX5_isIn 3 (some .boolean), Cond.methodLink RX4 142 yX4_canGo, Cond.instanceMethod yX4_canGo, Cond.selects RX4 yX4_canGo yX4_canGo, Cond.code yX4_canGo cX4_canGo 5 (some .boolean), Cond.fieldLink RX4 21 "PickSlots$Warehouse" "slotOfGood" "[I"]
def wsX5_worth_r2 : List Cond := [Cond.fieldLink RX4 38 "PickSlots$Warehouse" "goodInSlot" "[I", Cond.methodLink RX4 103 yX4_bears, Cond.instanceMethod yX4_bears, Cond.selects RX4 yX4_bears yX4_bears, Cond.code yX4_bears cX4_bears 3 (some .boolean), Cond.fieldLink RX4 9 "PickSlots$Warehouse" "weights" "[I", Cond.methodLink RX4 82 yX2_heaviestAt, Cond.static yX2_heaviestAt, Cond.code yX2_heaviestAt cX2_heaviestAt 1 (some .int), Cond.fieldLink RX2 13 "PickSlots$Slots" "HEAVIEST" "[I", Cond.methodLink RX4 149 yX4_walkOfGoing, Cond.instanceMethod yX4_walkOfGoing, Cond.selects RX4 yX4_walkOfGoing yX4_walkOfGoing, Cond.code yX4_walkOfGoing cX4_walkOfGoing 6 (some .int), Cond.methodLink RX4 161 yX2_wayBetween, Cond.static yX2_wayBetween, Cond.code yX2_wayBetween cX2_wayBetween 3 (some .int), Cond.methodLink RX2 16 Lib.Math.abs.name, Cond.static Lib.Math.abs.name, Cond.initialized "java/lang/Math", Cond.code Lib.Math.abs.name Lib.Math.abs.code 1 (some .int), Cond.fieldLink RX2 9 "PickSlots$Slots" "REACHES" "[I", Cond.methodLink RX4 152 yX4_worthOfGoing, Cond.instanceMethod yX4_worthOfGoing]
def wsX5_worth_r3 : List Cond := [Cond.selects RX4 yX4_worthOfGoing yX4_worthOfGoing, Cond.code yX4_worthOfGoing cX4_worthOfGoing 3 (some .int), Cond.methodLink RX4 155 yX4_savedByGoing, Cond.instanceMethod yX4_savedByGoing, Cond.selects RX4 yX4_savedByGoing yX4_savedByGoing, Cond.code yX4_savedByGoing cX4_savedByGoing 5 (some .int), Cond.methodLink RX4 138 yX4_presentSeason, Cond.instanceMethod yX4_presentSeason, Cond.selects RX4 yX4_presentSeason yX4_presentSeason, Cond.code yX4_presentSeason cX4_presentSeason 1 (some .int), Cond.fieldLink RX4 63 "PickSlots$Warehouse" "week" "I", Cond.methodLink RX4 96 yX4_demandOf, Cond.instanceMethod yX4_demandOf, Cond.selects RX4 yX4_demandOf yX4_demandOf, Cond.code yX4_demandOf cX4_demandOf 3 (some .int), Cond.fieldLink RX4 18 "PickSlots$Warehouse" "seasonDemands" "[I", Cond.methodLink RX4 111 yX2_walkTo, Cond.static yX2_walkTo, Cond.code yX2_walkTo cX2_walkTo 1 (some .int), Cond.methodLink RX4 164 yX4_weeksLeft, Cond.instanceMethod yX4_weeksLeft, Cond.selects RX4 yX4_weeksLeft yX4_weeksLeft, Cond.code yX4_weeksLeft cX4_weeksLeft 1 (some .int)]
def wsX5_worth : List Cond := .code yX5_worth cX5_worth 4 (some .int) :: ((wsX5_worth_r1 ++ (wsX5_worth_r2 ++ wsX5_worth_r3)) ++ wsX50 ++ wsX40)
def wsX5_best_r1 : List Cond := [Cond.fieldLink RX5 33 "PickSlots" "now" "LPickSlots$Warehouse;", Cond.methodLink RX5 92 yX4_numberOfBest, Cond.instanceMethod yX4_numberOfBest, Cond.selects RX4 yX4_numberOfBest yX4_numberOfBest, Cond.initialized RX4, Cond.code yX4_numberOfBest cX4_numberOfBest 5 (some .int), Cond.static yX5_isIn, Cond.initialized RX5, Cond.code yX5_isIn cX5_isIn 3 (some .boolean), Cond.methodLink RX4 158 yX4_bestGoing, Cond.instanceMethod yX4_bestGoing, Cond.selects RX4 yX4_bestGoing yX4_bestGoing, Cond.code yX4_bestGoing cX4_bestGoing 5 (some .int), Cond.fieldLink RX4 59 "PickSlots$Warehouse" "goods" "I", Cond.methodLink RX4 142 yX4_canGo, Cond.instanceMethod yX4_canGo, Cond.selects RX4 yX4_canGo yX4_canGo, Cond.code yX4_canGo cX4_canGo 5 (some .boolean), Cond.fieldLink RX4 21 "PickSlots$Warehouse" "slotOfGood" "[I", Cond.fieldLink RX4 38 "PickSlots$Warehouse" "goodInSlot" "[I", Cond.methodLink RX4 78 yX2_isSlot, Cond.static yX2_isSlot, Cond.initialized RX2, Cond.code yX2_isSlot cX2_isSlot 1 (some .boolean)]
def wsX5_best_r2 : List Cond := [Cond.methodLink RX4 103 yX4_bears, Cond.instanceMethod yX4_bears, Cond.selects RX4 yX4_bears yX4_bears, Cond.code yX4_bears cX4_bears 3 (some .boolean), Cond.fieldLink RX4 9 "PickSlots$Warehouse" "weights" "[I", Cond.methodLink RX4 82 yX2_heaviestAt, Cond.static yX2_heaviestAt, Cond.code yX2_heaviestAt cX2_heaviestAt 1 (some .int), Cond.fieldLink RX2 13 "PickSlots$Slots" "HEAVIEST" "[I", Cond.methodLink RX4 90 yX4_isGood, Cond.instanceMethod yX4_isGood, Cond.selects RX4 yX4_isGood yX4_isGood, Cond.code yX4_isGood cX4_isGood 2 (some .boolean), Cond.methodLink RX4 152 yX4_worthOfGoing, Cond.instanceMethod yX4_worthOfGoing, Cond.selects RX4 yX4_worthOfGoing yX4_worthOfGoing, Cond.code yX4_worthOfGoing cX4_worthOfGoing 3 (some .int), Cond.methodLink RX4 155 yX4_savedByGoing, Cond.instanceMethod yX4_savedByGoing, Cond.selects RX4 yX4_savedByGoing yX4_savedByGoing, Cond.code yX4_savedByGoing cX4_savedByGoing 5 (some .int), Cond.methodLink RX4 138 yX4_presentSeason, Cond.instanceMethod yX4_presentSeason, Cond.selects RX4 yX4_presentSeason yX4_presentSeason]
def wsX5_best_r3 : List Cond := [Cond.code yX4_presentSeason cX4_presentSeason 1 (some .int), Cond.fieldLink RX4 63 "PickSlots$Warehouse" "week" "I", Cond.methodLink RX4 96 yX4_demandOf, Cond.instanceMethod yX4_demandOf, Cond.selects RX4 yX4_demandOf yX4_demandOf, Cond.code yX4_demandOf cX4_demandOf 3 (some .int), Cond.fieldLink RX4 18 "PickSlots$Warehouse" "seasonDemands" "[I", Cond.methodLink RX4 111 yX2_walkTo, Cond.static yX2_walkTo, Cond.code yX2_walkTo cX2_walkTo 1 (some .int), Cond.fieldLink RX2 9 "PickSlots$Slots" "REACHES" "[I", Cond.methodLink RX4 164 yX4_weeksLeft, Cond.instanceMethod yX4_weeksLeft, Cond.selects RX4 yX4_weeksLeft yX4_weeksLeft, Cond.code yX4_weeksLeft cX4_weeksLeft 1 (some .int), Cond.methodLink RX4 149 yX4_walkOfGoing, Cond.instanceMethod yX4_walkOfGoing, Cond.selects RX4 yX4_walkOfGoing yX4_walkOfGoing, Cond.code yX4_walkOfGoing cX4_walkOfGoing 6 (some .int), Cond.methodLink RX4 161 yX2_wayBetween, Cond.static yX2_wayBetween, Cond.code yX2_wayBetween cX2_wayBetween 3 (some .int), Cond.methodLink RX2 16 Lib.Math.abs.name, Cond.static Lib.Math.abs.name]
def wsX5_best_r4 : List Cond := [Cond.initialized "java/lang/Math", Cond.code Lib.Math.abs.name Lib.Math.abs.code 1 (some .int)]
def wsX5_best : List Cond := .code yX5_best cX5_best 2 (some .int) :: ((wsX5_best_r1 ++ (wsX5_best_r2 ++ (wsX5_best_r3 ++ wsX5_best_r4))) ++ wsX50 ++ wsX40)
def wsX5_improve_r1 : List Cond := [Cond.fieldLink RX5 37 "PickSlots" "trial" "LPickSlots$Warehouse;", Cond.methodLink RX5 40 yX5_startTrial, Cond.instanceMethod yX5_startTrial, Cond.selects RX5 yX5_startTrial yX5_startTrial, Cond.initialized RX5, Cond.code yX5_startTrial cX5_startTrial 1 none, Cond.fieldLink RX5 33 "PickSlots" "now" "LPickSlots$Warehouse;", Cond.methodLink RX5 137 yX4_copyFrom, Cond.instanceMethod yX4_copyFrom, Cond.selects RX4 yX4_copyFrom yX4_copyFrom, Cond.initialized RX4, Cond.code yX4_copyFrom cX4_copyFrom 2 none, Cond.fieldLink RX4 9 "PickSlots$Warehouse" "weights" "[I", Cond.fieldLink RX4 15 "PickSlots$Warehouse" "capacities" "[I", Cond.fieldLink RX4 18 "PickSlots$Warehouse" "seasonDemands" "[I", Cond.fieldLink RX4 21 "PickSlots$Warehouse" "slotOfGood" "[I", Cond.fieldLink RX4 24 "PickSlots$Warehouse" "unitsInSlot" "[I", Cond.fieldLink RX4 27 "PickSlots$Warehouse" "unitsInStore" "[I", Cond.fieldLink RX4 30 "PickSlots$Warehouse" "weekPicks" "[I", Cond.fieldLink RX4 33 "PickSlots$Warehouse" "unitsPicked" "[I", Cond.fieldLink RX4 38 "PickSlots$Warehouse" "goodInSlot" "[I", Cond.fieldLink RX4 41 "PickSlots$Warehouse" "settings" "[I", Cond.fieldLink RX4 47 "PickSlots$Warehouse" "accounts" "LPickSlots$Accounts;", Cond.fieldLink RX4 59 "PickSlots$Warehouse" "goods" "I"]
def wsX5_improve_r2 : List Cond := [Cond.fieldLink RX4 63 "PickSlots$Warehouse" "week" "I", Cond.methodLink RX4 51 yX4_copyRow, Cond.static yX4_copyRow, Cond.code yX4_copyRow cX4_copyRow 2 none, Cond.methodLink RX4 66 Lib.Math.min.name, Cond.static Lib.Math.min.name, Cond.initialized "java/lang/Math", Cond.code Lib.Math.min.name Lib.Math.min.code 2 (some .int), Cond.methodLink RX4 72 arraycopyName, Cond.native arraycopyName, Cond.static arraycopyName, Cond.initialized "java/lang/System", Cond.methodLink RX4 55 yX0_copyFrom, Cond.instanceMethod yX0_copyFrom, Cond.selects RX0 yX0_copyFrom yX0_copyFrom, Cond.initialized RX0, Cond.code yX0_copyFrom cX0_copyFrom 2 none, Cond.fieldLink RX0 7 "PickSlots$Accounts" "pickWalk" "I", Cond.fieldLink RX0 13 "PickSlots$Accounts" "refillWalk" "I", Cond.fieldLink RX0 16 "PickSlots$Accounts" "moveWalk" "I", Cond.fieldLink RX0 19 "PickSlots$Accounts" "trips" "I", Cond.fieldLink RX0 22 "PickSlots$Accounts" "saved" "I", Cond.fieldLink RX0 25 "PickSlots$Accounts" "moves" "I", Cond.fieldLink RX0 28 "PickSlots$Accounts" "picks" "I"]
def wsX5_improve_r3 : List Cond := [Cond.methodLink RX5 95 yX4_doBest, Cond.instanceMethod yX4_doBest, Cond.selects RX4 yX4_doBest yX4_doBest, Cond.code yX4_doBest cX4_doBest 4 (some .int), Cond.static yX5_isIn, Cond.code yX5_isIn cX5_isIn 3 (some .boolean), Cond.methodLink RX4 158 yX4_bestGoing, Cond.instanceMethod yX4_bestGoing, Cond.selects RX4 yX4_bestGoing yX4_bestGoing, Cond.code yX4_bestGoing cX4_bestGoing 5 (some .int), Cond.methodLink RX4 142 yX4_canGo, Cond.instanceMethod yX4_canGo, Cond.selects RX4 yX4_canGo yX4_canGo, Cond.code yX4_canGo cX4_canGo 5 (some .boolean), Cond.methodLink RX4 78 yX2_isSlot, Cond.static yX2_isSlot, Cond.initialized RX2, Cond.code yX2_isSlot cX2_isSlot 1 (some .boolean), Cond.methodLink RX4 103 yX4_bears, Cond.instanceMethod yX4_bears, Cond.selects RX4 yX4_bears yX4_bears, Cond.code yX4_bears cX4_bears 3 (some .boolean), Cond.methodLink RX4 82 yX2_heaviestAt, Cond.static yX2_heaviestAt]
def wsX5_improve_r4 : List Cond := [Cond.code yX2_heaviestAt cX2_heaviestAt 1 (some .int), Cond.fieldLink RX2 13 "PickSlots$Slots" "HEAVIEST" "[I", Cond.methodLink RX4 90 yX4_isGood, Cond.instanceMethod yX4_isGood, Cond.selects RX4 yX4_isGood yX4_isGood, Cond.code yX4_isGood cX4_isGood 2 (some .boolean), Cond.methodLink RX4 152 yX4_worthOfGoing, Cond.instanceMethod yX4_worthOfGoing, Cond.selects RX4 yX4_worthOfGoing yX4_worthOfGoing, Cond.code yX4_worthOfGoing cX4_worthOfGoing 3 (some .int), Cond.methodLink RX4 155 yX4_savedByGoing, Cond.instanceMethod yX4_savedByGoing, Cond.selects RX4 yX4_savedByGoing yX4_savedByGoing, Cond.code yX4_savedByGoing cX4_savedByGoing 5 (some .int), Cond.methodLink RX4 138 yX4_presentSeason, Cond.instanceMethod yX4_presentSeason, Cond.selects RX4 yX4_presentSeason yX4_presentSeason, Cond.code yX4_presentSeason cX4_presentSeason 1 (some .int), Cond.methodLink RX4 96 yX4_demandOf, Cond.instanceMethod yX4_demandOf, Cond.selects RX4 yX4_demandOf yX4_demandOf, Cond.code yX4_demandOf cX4_demandOf 3 (some .int), Cond.methodLink RX4 111 yX2_walkTo, Cond.static yX2_walkTo]
def wsX5_improve_r5 : List Cond := [Cond.code yX2_walkTo cX2_walkTo 1 (some .int), Cond.fieldLink RX2 9 "PickSlots$Slots" "REACHES" "[I", Cond.methodLink RX4 164 yX4_weeksLeft, Cond.instanceMethod yX4_weeksLeft, Cond.selects RX4 yX4_weeksLeft yX4_weeksLeft, Cond.code yX4_weeksLeft cX4_weeksLeft 1 (some .int), Cond.methodLink RX4 149 yX4_walkOfGoing, Cond.instanceMethod yX4_walkOfGoing, Cond.selects RX4 yX4_walkOfGoing yX4_walkOfGoing, Cond.code yX4_walkOfGoing cX4_walkOfGoing 6 (some .int), Cond.methodLink RX4 161 yX2_wayBetween, Cond.static yX2_wayBetween, Cond.code yX2_wayBetween cX2_wayBetween 3 (some .int), Cond.methodLink RX2 16 Lib.Math.abs.name, Cond.static Lib.Math.abs.name, Cond.code Lib.Math.abs.name Lib.Math.abs.code 1 (some .int), Cond.methodLink RX4 146 yX4_goTo, Cond.instanceMethod yX4_goTo, Cond.selects RX4 yX4_goTo yX4_goTo, Cond.code yX4_goTo cX4_goTo 6 (some .int), Cond.methodLink RX4 107 yX4_standIn, Cond.instanceMethod yX4_standIn, Cond.selects RX4 yX4_standIn yX4_standIn, Cond.code yX4_standIn cX4_standIn 3 none]
def wsX5_improve_r6 : List Cond := [Cond.methodLink RX5 47 yX5_endTrial, Cond.instanceMethod yX5_endTrial, Cond.selects RX5 yX5_endTrial yX5_endTrial, Cond.code yX5_endTrial cX5_endTrial 2 (some .int), Cond.methodLink RX5 141 yX5_keepTrial, Cond.instanceMethod yX5_keepTrial, Cond.selects RX5 yX5_keepTrial yX5_keepTrial, Cond.code yX5_keepTrial cX5_keepTrial 2 none, Cond.fieldLink RX5 112 "PickSlots" "states" "I", Cond.fieldLink RX5 11 "PickSlots" "history" "[LPickSlots$Warehouse;", Cond.methodLink RX5 144 yX5_dropOldestState, Cond.instanceMethod yX5_dropOldestState, Cond.selects RX5 yX5_dropOldestState yX5_dropOldestState, Cond.code yX5_dropOldestState cX5_dropOldestState 3 none]
def wsX5_improve : List Cond := .code yX5_improve cX5_improve 2 (some .int) :: ((wsX5_improve_r1 ++ (wsX5_improve_r2 ++ (wsX5_improve_r3 ++ (wsX5_improve_r4 ++ (wsX5_improve_r5 ++ wsX5_improve_r6))))) ++ wsX50 ++ wsX40 ++ wsX00)
def wsX5_weekly_r1 : List Cond := [Cond.fieldLink RX5 33 "PickSlots" "now" "LPickSlots$Warehouse;", Cond.methodLink RX5 98 yX5_isSeason, Cond.static yX5_isSeason, Cond.initialized RX5, Cond.code yX5_isSeason cX5_isSeason 1 (some .boolean), Cond.methodLink RX5 102 yX4_weeklyWalk, Cond.instanceMethod yX4_weeklyWalk, Cond.selects RX4 yX4_weeklyWalk yX4_weeklyWalk, Cond.initialized RX4, Cond.code yX4_weeklyWalk cX4_weeklyWalk 4 (some .int), Cond.fieldLink RX4 59 "PickSlots$Warehouse" "goods" "I", Cond.fieldLink RX4 21 "PickSlots$Warehouse" "slotOfGood" "[I", Cond.methodLink RX4 100 yX4_isPlaced, Cond.instanceMethod yX4_isPlaced, Cond.selects RX4 yX4_isPlaced yX4_isPlaced, Cond.code yX4_isPlaced cX4_isPlaced 2 (some .boolean), Cond.methodLink RX4 78 yX2_isSlot, Cond.static yX2_isSlot, Cond.initialized RX2, Cond.code yX2_isSlot cX2_isSlot 1 (some .boolean), Cond.methodLink RX4 96 yX4_demandOf, Cond.instanceMethod yX4_demandOf, Cond.selects RX4 yX4_demandOf yX4_demandOf, Cond.code yX4_demandOf cX4_demandOf 3 (some .int)]
def wsX5_weekly_r2 : List Cond := [Cond.fieldLink RX4 18 "PickSlots$Warehouse" "seasonDemands" "[I", Cond.methodLink RX4 111 yX2_walkTo, Cond.static yX2_walkTo, Cond.code yX2_walkTo cX2_walkTo 1 (some .int), Cond.fieldLink RX2 9 "PickSlots$Slots" "REACHES" "[I"]
def wsX5_weekly : List Cond := .code yX5_weekly cX5_weekly 2 (some .int) :: ((wsX5_weekly_r1 ++ wsX5_weekly_r2) ++ wsX50 ++ wsX40)
def wsX5_atBest_r1 : List Cond := [Cond.fieldLink RX5 33 "PickSlots" "now" "LPickSlots$Warehouse;", Cond.fieldLink RX5 25 "PickSlots" "demands" "LPickSlots$SortedRow;", Cond.fieldLink RX5 29 "PickSlots" "walks" "LPickSlots$SortedRow;", Cond.methodLink RX5 98 yX5_isSeason, Cond.static yX5_isSeason, Cond.initialized RX5, Cond.code yX5_isSeason cX5_isSeason 1 (some .boolean), Cond.methodLink RX5 105 yX4_shortestWalk, Cond.instanceMethod yX4_shortestWalk, Cond.selects RX4 yX4_shortestWalk yX4_shortestWalk, Cond.initialized RX4, Cond.code yX4_shortestWalk cX4_shortestWalk 6 (some .int), Cond.fieldLink RX4 59 "PickSlots$Warehouse" "goods" "I", Cond.fieldLink RX4 21 "PickSlots$Warehouse" "slotOfGood" "[I", Cond.methodLink RX4 100 yX4_isPlaced, Cond.instanceMethod yX4_isPlaced, Cond.selects RX4 yX4_isPlaced yX4_isPlaced, Cond.code yX4_isPlaced cX4_isPlaced 2 (some .boolean), Cond.methodLink RX4 78 yX2_isSlot, Cond.static yX2_isSlot, Cond.initialized RX2, Cond.code yX2_isSlot cX2_isSlot 1 (some .boolean), Cond.methodLink RX4 96 yX4_demandOf, Cond.instanceMethod yX4_demandOf]
def wsX5_atBest_r2 : List Cond := [Cond.selects RX4 yX4_demandOf yX4_demandOf, Cond.code yX4_demandOf cX4_demandOf 3 (some .int), Cond.fieldLink RX4 18 "PickSlots$Warehouse" "seasonDemands" "[I", Cond.methodLink RX4 181 yX3_insert, Cond.instanceMethod yX3_insert, Cond.selects RX3 yX3_insert yX3_insert, Cond.initialized RX3, Cond.code yX3_insert cX3_insert 3 none, Cond.fieldLink RX3 15 "PickSlots$SortedRow" "size" "I", Cond.fieldLink RX3 9 "PickSlots$SortedRow" "values" "[I", Cond.methodLink RX4 111 yX2_walkTo, Cond.static yX2_walkTo, Cond.code yX2_walkTo cX2_walkTo 1 (some .int), Cond.fieldLink RX2 9 "PickSlots$Slots" "REACHES" "[I", Cond.methodLink RX4 185 yX3_valueAt, Cond.instanceMethod yX3_valueAt, Cond.selects RX3 yX3_valueAt yX3_valueAt, Cond.code yX3_valueAt cX3_valueAt 2 (some .int)]
def wsX5_atBest : List Cond := .code yX5_atBest cX5_atBest 2 (some .int) :: ((wsX5_atBest_r1 ++ wsX5_atBest_r2) ++ wsX50 ++ wsX30 ++ wsX40)
def wsX5_account_r1 : List Cond := [Cond.fieldLink RX5 33 "PickSlots" "now" "LPickSlots$Warehouse;", Cond.methodLink RX5 109 yX4_numberOfAccount, Cond.instanceMethod yX4_numberOfAccount, Cond.selects RX4 yX4_numberOfAccount yX4_numberOfAccount, Cond.initialized RX4, Cond.code yX4_numberOfAccount cX4_numberOfAccount 2 (some .int), Cond.fieldLink RX4 47 "PickSlots$Warehouse" "accounts" "LPickSlots$Accounts;", Cond.constant RX4 145 (100000000), Cond.methodLink RX4 138 yX4_presentSeason, Cond.instanceMethod yX4_presentSeason, Cond.selects RX4 yX4_presentSeason yX4_presentSeason, Cond.code yX4_presentSeason cX4_presentSeason 1 (some .int), Cond.fieldLink RX4 63 "PickSlots$Warehouse" "week" "I", Cond.methodLink RX4 188 yX4_weeklyWalk, Cond.instanceMethod yX4_weeklyWalk, Cond.selects RX4 yX4_weeklyWalk yX4_weeklyWalk, Cond.code yX4_weeklyWalk cX4_weeklyWalk 4 (some .int), Cond.fieldLink RX4 59 "PickSlots$Warehouse" "goods" "I", Cond.fieldLink RX4 21 "PickSlots$Warehouse" "slotOfGood" "[I", Cond.methodLink RX4 100 yX4_isPlaced, Cond.instanceMethod yX4_isPlaced, Cond.selects RX4 yX4_isPlaced yX4_isPlaced, Cond.code yX4_isPlaced cX4_isPlaced 2 (some .boolean), Cond.methodLink RX4 78 yX2_isSlot]
def wsX5_account_r2 : List Cond := [Cond.static yX2_isSlot, Cond.initialized RX2, Cond.code yX2_isSlot cX2_isSlot 1 (some .boolean), Cond.methodLink RX4 96 yX4_demandOf, Cond.instanceMethod yX4_demandOf, Cond.selects RX4 yX4_demandOf yX4_demandOf, Cond.code yX4_demandOf cX4_demandOf 3 (some .int), Cond.fieldLink RX4 18 "PickSlots$Warehouse" "seasonDemands" "[I", Cond.methodLink RX4 111 yX2_walkTo, Cond.static yX2_walkTo, Cond.code yX2_walkTo cX2_walkTo 1 (some .int), Cond.fieldLink RX2 9 "PickSlots$Slots" "REACHES" "[I"]
def wsX5_account : List Cond := .code yX5_account cX5_account 2 (some .int) :: ((wsX5_account_r1 ++ wsX5_account_r2) ++ wsX50 ++ wsX40 ++ wsX00)
def wsX5_count_r1 : List Cond := [Cond.fieldLink RX5 112 "PickSlots" "states" "I", Cond.fieldLink RX5 18 "PickSlots" "text" "LPickSlots$OrderText;", Cond.fieldLink RX5 33 "PickSlots" "now" "LPickSlots$Warehouse;", Cond.methodLink RX5 119 yX4_numberOfWarehouse, Cond.instanceMethod yX4_numberOfWarehouse, Cond.selects RX4 yX4_numberOfWarehouse yX4_numberOfWarehouse, Cond.initialized RX4, Cond.code yX4_numberOfWarehouse cX4_numberOfWarehouse 2 (some .int), Cond.fieldLink RX4 59 "PickSlots$Warehouse" "goods" "I", Cond.fieldLink RX4 63 "PickSlots$Warehouse" "week" "I", Cond.fieldLink RX4 24 "PickSlots$Warehouse" "unitsInSlot" "[I", Cond.fieldLink RX4 27 "PickSlots$Warehouse" "unitsInStore" "[I", Cond.fieldLink RX4 41 "PickSlots$Warehouse" "settings" "[I", Cond.methodLink RX4 191 yX4_placedGoods, Cond.instanceMethod yX4_placedGoods, Cond.selects RX4 yX4_placedGoods yX4_placedGoods, Cond.code yX4_placedGoods cX4_placedGoods 4 (some .int), Cond.methodLink RX4 100 yX4_isPlaced, Cond.instanceMethod yX4_isPlaced, Cond.selects RX4 yX4_isPlaced yX4_isPlaced, Cond.code yX4_isPlaced cX4_isPlaced 2 (some .boolean), Cond.fieldLink RX4 21 "PickSlots$Warehouse" "slotOfGood" "[I", Cond.methodLink RX4 78 yX2_isSlot, Cond.static yX2_isSlot]
def wsX5_count_r2 : List Cond := [Cond.initialized RX2, Cond.code yX2_isSlot cX2_isSlot 1 (some .boolean), Cond.methodLink RX4 138 yX4_presentSeason, Cond.instanceMethod yX4_presentSeason, Cond.selects RX4 yX4_presentSeason yX4_presentSeason, Cond.code yX4_presentSeason cX4_presentSeason 1 (some .int), Cond.methodLink RX4 164 yX4_weeksLeft, Cond.instanceMethod yX4_weeksLeft, Cond.selects RX4 yX4_weeksLeft yX4_weeksLeft, Cond.code yX4_weeksLeft cX4_weeksLeft 1 (some .int), Cond.methodLink RX4 195 yX4_sumOf, Cond.instanceMethod yX4_sumOf, Cond.selects RX4 yX4_sumOf yX4_sumOf, Cond.code yX4_sumOf cX4_sumOf 4 (some .int)]
def wsX5_count : List Cond := .code yX5_count cX5_count 2 (some .int) :: ((wsX5_count_r1 ++ wsX5_count_r2) ++ wsX50 ++ wsX10 ++ wsX40)
def wsX5_set_r1 : List Cond := [Cond.fieldLink RX5 37 "PickSlots" "trial" "LPickSlots$Warehouse;", Cond.methodLink RX5 40 yX5_startTrial, Cond.instanceMethod yX5_startTrial, Cond.selects RX5 yX5_startTrial yX5_startTrial, Cond.initialized RX5, Cond.code yX5_startTrial cX5_startTrial 1 none, Cond.fieldLink RX5 33 "PickSlots" "now" "LPickSlots$Warehouse;", Cond.methodLink RX5 137 yX4_copyFrom, Cond.instanceMethod yX4_copyFrom, Cond.selects RX4 yX4_copyFrom yX4_copyFrom, Cond.initialized RX4, Cond.code yX4_copyFrom cX4_copyFrom 2 none, Cond.fieldLink RX4 9 "PickSlots$Warehouse" "weights" "[I", Cond.fieldLink RX4 15 "PickSlots$Warehouse" "capacities" "[I", Cond.fieldLink RX4 18 "PickSlots$Warehouse" "seasonDemands" "[I", Cond.fieldLink RX4 21 "PickSlots$Warehouse" "slotOfGood" "[I", Cond.fieldLink RX4 24 "PickSlots$Warehouse" "unitsInSlot" "[I", Cond.fieldLink RX4 27 "PickSlots$Warehouse" "unitsInStore" "[I", Cond.fieldLink RX4 30 "PickSlots$Warehouse" "weekPicks" "[I", Cond.fieldLink RX4 33 "PickSlots$Warehouse" "unitsPicked" "[I", Cond.fieldLink RX4 38 "PickSlots$Warehouse" "goodInSlot" "[I", Cond.fieldLink RX4 41 "PickSlots$Warehouse" "settings" "[I", Cond.fieldLink RX4 47 "PickSlots$Warehouse" "accounts" "LPickSlots$Accounts;", Cond.fieldLink RX4 59 "PickSlots$Warehouse" "goods" "I"]
def wsX5_set_r2 : List Cond := [Cond.fieldLink RX4 63 "PickSlots$Warehouse" "week" "I", Cond.methodLink RX4 51 yX4_copyRow, Cond.static yX4_copyRow, Cond.code yX4_copyRow cX4_copyRow 2 none, Cond.methodLink RX4 66 Lib.Math.min.name, Cond.static Lib.Math.min.name, Cond.initialized "java/lang/Math", Cond.code Lib.Math.min.name Lib.Math.min.code 2 (some .int), Cond.methodLink RX4 72 arraycopyName, Cond.native arraycopyName, Cond.static arraycopyName, Cond.initialized "java/lang/System", Cond.methodLink RX4 55 yX0_copyFrom, Cond.instanceMethod yX0_copyFrom, Cond.selects RX0 yX0_copyFrom yX0_copyFrom, Cond.initialized RX0, Cond.code yX0_copyFrom cX0_copyFrom 2 none, Cond.fieldLink RX0 7 "PickSlots$Accounts" "pickWalk" "I", Cond.fieldLink RX0 13 "PickSlots$Accounts" "refillWalk" "I", Cond.fieldLink RX0 16 "PickSlots$Accounts" "moveWalk" "I", Cond.fieldLink RX0 19 "PickSlots$Accounts" "trips" "I", Cond.fieldLink RX0 22 "PickSlots$Accounts" "saved" "I", Cond.fieldLink RX0 25 "PickSlots$Accounts" "moves" "I", Cond.fieldLink RX0 28 "PickSlots$Accounts" "picks" "I"]
def wsX5_set_r3 : List Cond := [Cond.methodLink RX5 122 yX4_changeSetting, Cond.instanceMethod yX4_changeSetting, Cond.selects RX4 yX4_changeSetting yX4_changeSetting, Cond.code yX4_changeSetting cX4_changeSetting 4 (some .int), Cond.fieldLink RX4 199 "PickSlots$Warehouse" "LEAST_SETTINGS" "[I", Cond.fieldLink RX4 202 "PickSlots$Warehouse" "GREATEST_SETTINGS" "[I", Cond.static yX5_isIn, Cond.code yX5_isIn cX5_isIn 3 (some .boolean), Cond.methodLink RX5 47 yX5_endTrial, Cond.instanceMethod yX5_endTrial, Cond.selects RX5 yX5_endTrial yX5_endTrial, Cond.code yX5_endTrial cX5_endTrial 2 (some .int), Cond.methodLink RX5 141 yX5_keepTrial, Cond.instanceMethod yX5_keepTrial, Cond.selects RX5 yX5_keepTrial yX5_keepTrial, Cond.code yX5_keepTrial cX5_keepTrial 2 none, Cond.fieldLink RX5 112 "PickSlots" "states" "I", Cond.fieldLink RX5 11 "PickSlots" "history" "[LPickSlots$Warehouse;", Cond.methodLink RX5 144 yX5_dropOldestState, Cond.instanceMethod yX5_dropOldestState, Cond.selects RX5 yX5_dropOldestState yX5_dropOldestState, Cond.code yX5_dropOldestState cX5_dropOldestState 3 none]
def wsX5_set : List Cond := .code yX5_set cX5_set 3 (some .int) :: ((wsX5_set_r1 ++ (wsX5_set_r2 ++ wsX5_set_r3)) ++ wsX50 ++ wsX40 ++ wsX00)
def wsX5_undo : List Cond := .code yX5_undo cX5_undo 2 (some .int) :: ([.fieldLink RX5 112 "PickSlots" "states" "I", .fieldLink RX5 33 "PickSlots" "now" "LPickSlots$Warehouse;", .fieldLink RX5 11 "PickSlots" "history" "[LPickSlots$Warehouse;"] ++ wsX50)
def wsX5_type : List Cond := .code yX5_type cX5_type 2 (some .int) :: ([.fieldLink RX5 18 "PickSlots" "text" "LPickSlots$OrderText;", .methodLink RX5 125 yX1_append, .instanceMethod yX1_append, .selects RX1 yX1_append yX1_append, .initialized RX1, .code yX1_append cX1_append 2 (some .int), .fieldLink RX1 19 "PickSlots$OrderText" "length" "I", .fieldLink RX1 9 "PickSlots$OrderText" "signs" "[C", .static yX5_isIn, .initialized RX5, .code yX5_isIn cX5_isIn 3 (some .boolean)] ++ wsX50 ++ wsX10)
def wsX5_hasGoodsAndSlots : List Cond := .code yX5_hasGoodsAndSlots cX5_hasGoodsAndSlots 4 (some .boolean) :: ([.fieldLink RX5 37 "PickSlots" "trial" "LPickSlots$Warehouse;", .methodLink RX5 176 yX4_isGood, .instanceMethod yX4_isGood, .selects RX4 yX4_isGood yX4_isGood, .initialized RX4, .code yX4_isGood cX4_isGood 2 (some .boolean), .fieldLink RX4 59 "PickSlots$Warehouse" "goods" "I", .methodLink RX5 179 yX2_isSlot, .static yX2_isSlot, .initialized RX2, .code yX2_isSlot cX2_isSlot 1 (some .boolean)] ++ wsX50 ++ wsX40)
def wsX5_doOrder_r1 : List Cond := [Cond.fieldLink RX5 37 "PickSlots" "trial" "LPickSlots$Warehouse;", Cond.methodLink RX5 73 yX4_pickUnits, Cond.instanceMethod yX4_pickUnits, Cond.selects RX4 yX4_pickUnits yX4_pickUnits, Cond.initialized RX4, Cond.code yX4_pickUnits cX4_pickUnits 6 (some .int), Cond.fieldLink RX4 24 "PickSlots$Warehouse" "unitsInSlot" "[I", Cond.fieldLink RX4 41 "PickSlots$Warehouse" "settings" "[I", Cond.fieldLink RX4 21 "PickSlots$Warehouse" "slotOfGood" "[I", Cond.fieldLink RX4 33 "PickSlots$Warehouse" "unitsPicked" "[I", Cond.fieldLink RX4 30 "PickSlots$Warehouse" "weekPicks" "[I", Cond.fieldLink RX4 47 "PickSlots$Warehouse" "accounts" "LPickSlots$Accounts;", Cond.methodLink RX4 90 yX4_isGood, Cond.instanceMethod yX4_isGood, Cond.selects RX4 yX4_isGood yX4_isGood, Cond.code yX4_isGood cX4_isGood 2 (some .boolean), Cond.fieldLink RX4 59 "PickSlots$Warehouse" "goods" "I", Cond.static yX5_isIn, Cond.initialized RX5, Cond.code yX5_isIn cX5_isIn 3 (some .boolean), Cond.methodLink RX4 100 yX4_isPlaced, Cond.instanceMethod yX4_isPlaced, Cond.selects RX4 yX4_isPlaced yX4_isPlaced, Cond.code yX4_isPlaced cX4_isPlaced 2 (some .boolean)]
def wsX5_doOrder_r2 : List Cond := [Cond.methodLink RX4 78 yX2_isSlot, Cond.static yX2_isSlot, Cond.initialized RX2, Cond.code yX2_isSlot cX2_isSlot 1 (some .boolean), Cond.methodLink RX4 117 yX4_unitsToBring, Cond.instanceMethod yX4_unitsToBring, Cond.selects RX4 yX4_unitsToBring yX4_unitsToBring, Cond.code yX4_unitsToBring cX4_unitsToBring 2 (some .int), Cond.fieldLink RX4 15 "PickSlots$Warehouse" "capacities" "[I", Cond.fieldLink RX4 27 "PickSlots$Warehouse" "unitsInStore" "[I", Cond.methodLink RX4 66 Lib.Math.min.name, Cond.static Lib.Math.min.name, Cond.initialized "java/lang/Math", Cond.code Lib.Math.min.name Lib.Math.min.code 2 (some .int), Cond.methodLink RX4 120 yX4_bring, Cond.instanceMethod yX4_bring, Cond.selects RX4 yX4_bring yX4_bring, Cond.code yX4_bring cX4_bring 5 (some .int), Cond.fieldLink RX4 9 "PickSlots$Warehouse" "weights" "[I", Cond.methodLink RX4 129 yX4_tripsFor, Cond.instanceMethod yX4_tripsFor, Cond.selects RX4 yX4_tripsFor yX4_tripsFor, Cond.code yX4_tripsFor cX4_tripsFor 3 (some .int), Cond.methodLink RX4 111 yX2_walkTo]
def wsX5_doOrder_r3 : List Cond := [Cond.static yX2_walkTo, Cond.code yX2_walkTo cX2_walkTo 1 (some .int), Cond.fieldLink RX2 9 "PickSlots$Slots" "REACHES" "[I", Cond.methodLink RX5 76 yX4_refillSlot, Cond.instanceMethod yX4_refillSlot, Cond.selects RX4 yX4_refillSlot yX4_refillSlot, Cond.code yX4_refillSlot cX4_refillSlot 3 (some .int), Cond.methodLink RX5 83 yX4_moveGood, Cond.instanceMethod yX4_moveGood, Cond.selects RX4 yX4_moveGood yX4_moveGood, Cond.code yX4_moveGood cX4_moveGood 3 (some .int), Cond.fieldLink RX4 38 "PickSlots$Warehouse" "goodInSlot" "[I", Cond.constant RX4 145 (100000000), Cond.methodLink RX4 142 yX4_canGo, Cond.instanceMethod yX4_canGo, Cond.selects RX4 yX4_canGo yX4_canGo, Cond.code yX4_canGo cX4_canGo 5 (some .boolean), Cond.methodLink RX4 103 yX4_bears, Cond.instanceMethod yX4_bears, Cond.selects RX4 yX4_bears yX4_bears, Cond.code yX4_bears cX4_bears 3 (some .boolean), Cond.methodLink RX4 82 yX2_heaviestAt, Cond.static yX2_heaviestAt, Cond.code yX2_heaviestAt cX2_heaviestAt 1 (some .int)]
def wsX5_doOrder_r4 : List Cond := [Cond.fieldLink RX2 13 "PickSlots$Slots" "HEAVIEST" "[I", Cond.methodLink RX4 146 yX4_goTo, Cond.instanceMethod yX4_goTo, Cond.selects RX4 yX4_goTo yX4_goTo, Cond.code yX4_goTo cX4_goTo 6 (some .int), Cond.methodLink RX4 155 yX4_savedByGoing, Cond.instanceMethod yX4_savedByGoing, Cond.selects RX4 yX4_savedByGoing yX4_savedByGoing, Cond.code yX4_savedByGoing cX4_savedByGoing 5 (some .int), Cond.methodLink RX4 138 yX4_presentSeason, Cond.instanceMethod yX4_presentSeason, Cond.selects RX4 yX4_presentSeason yX4_presentSeason, Cond.code yX4_presentSeason cX4_presentSeason 1 (some .int), Cond.fieldLink RX4 63 "PickSlots$Warehouse" "week" "I", Cond.methodLink RX4 96 yX4_demandOf, Cond.instanceMethod yX4_demandOf, Cond.selects RX4 yX4_demandOf yX4_demandOf, Cond.code yX4_demandOf cX4_demandOf 3 (some .int), Cond.fieldLink RX4 18 "PickSlots$Warehouse" "seasonDemands" "[I", Cond.methodLink RX4 149 yX4_walkOfGoing, Cond.instanceMethod yX4_walkOfGoing, Cond.selects RX4 yX4_walkOfGoing yX4_walkOfGoing, Cond.code yX4_walkOfGoing cX4_walkOfGoing 6 (some .int), Cond.methodLink RX4 161 yX2_wayBetween]
def wsX5_doOrder_r5 : List Cond := [Cond.static yX2_wayBetween, Cond.code yX2_wayBetween cX2_wayBetween 3 (some .int), Cond.methodLink RX2 16 Lib.Math.abs.name, Cond.static Lib.Math.abs.name, Cond.code Lib.Math.abs.name Lib.Math.abs.code 1 (some .int), Cond.methodLink RX4 107 yX4_standIn, Cond.instanceMethod yX4_standIn, Cond.selects RX4 yX4_standIn yX4_standIn, Cond.code yX4_standIn cX4_standIn 3 none, Cond.methodLink RX5 86 yX4_exchangeGoods, Cond.instanceMethod yX4_exchangeGoods, Cond.selects RX4 yX4_exchangeGoods yX4_exchangeGoods, Cond.code yX4_exchangeGoods cX4_exchangeGoods 3 (some .int), Cond.methodLink RX5 79 yX4_finishWeek, Cond.instanceMethod yX4_finishWeek, Cond.selects RX4 yX4_finishWeek yX4_finishWeek, Cond.code yX4_finishWeek cX4_finishWeek 4 (some .int)]
def wsX5_doOrder : List Cond := .code yX5_doOrder cX5_doOrder 4 (some .int) :: ((wsX5_doOrder_r1 ++ (wsX5_doOrder_r2 ++ (wsX5_doOrder_r3 ++ (wsX5_doOrder_r4 ++ wsX5_doOrder_r5)))) ++ wsX50 ++ wsX40 ++ wsX00)
def wsX5_tryText_r1 : List Cond := [Cond.fieldLink RX5 18 "PickSlots" "text" "LPickSlots$OrderText;", Cond.fieldLink RX5 131 "PickSlots" "faultReason" "I", Cond.fieldLink RX5 134 "PickSlots" "faultPosition" "I", Cond.methodLink RX5 40 yX5_startTrial, Cond.instanceMethod yX5_startTrial, Cond.selects RX5 yX5_startTrial yX5_startTrial, Cond.initialized RX5, Cond.code yX5_startTrial cX5_startTrial 1 none, Cond.fieldLink RX5 37 "PickSlots" "trial" "LPickSlots$Warehouse;", Cond.fieldLink RX5 33 "PickSlots" "now" "LPickSlots$Warehouse;", Cond.methodLink RX5 137 yX4_copyFrom, Cond.instanceMethod yX4_copyFrom, Cond.selects RX4 yX4_copyFrom yX4_copyFrom, Cond.initialized RX4, Cond.code yX4_copyFrom cX4_copyFrom 2 none, Cond.fieldLink RX4 9 "PickSlots$Warehouse" "weights" "[I", Cond.fieldLink RX4 15 "PickSlots$Warehouse" "capacities" "[I", Cond.fieldLink RX4 18 "PickSlots$Warehouse" "seasonDemands" "[I", Cond.fieldLink RX4 21 "PickSlots$Warehouse" "slotOfGood" "[I", Cond.fieldLink RX4 24 "PickSlots$Warehouse" "unitsInSlot" "[I", Cond.fieldLink RX4 27 "PickSlots$Warehouse" "unitsInStore" "[I", Cond.fieldLink RX4 30 "PickSlots$Warehouse" "weekPicks" "[I", Cond.fieldLink RX4 33 "PickSlots$Warehouse" "unitsPicked" "[I", Cond.fieldLink RX4 38 "PickSlots$Warehouse" "goodInSlot" "[I"]
def wsX5_tryText_r2 : List Cond := [Cond.fieldLink RX4 41 "PickSlots$Warehouse" "settings" "[I", Cond.fieldLink RX4 47 "PickSlots$Warehouse" "accounts" "LPickSlots$Accounts;", Cond.fieldLink RX4 59 "PickSlots$Warehouse" "goods" "I", Cond.fieldLink RX4 63 "PickSlots$Warehouse" "week" "I", Cond.methodLink RX4 51 yX4_copyRow, Cond.static yX4_copyRow, Cond.code yX4_copyRow cX4_copyRow 2 none, Cond.methodLink RX4 66 Lib.Math.min.name, Cond.static Lib.Math.min.name, Cond.initialized "java/lang/Math", Cond.code Lib.Math.min.name Lib.Math.min.code 2 (some .int), Cond.methodLink RX4 72 arraycopyName, Cond.native arraycopyName, Cond.static arraycopyName, Cond.initialized "java/lang/System", Cond.methodLink RX4 55 yX0_copyFrom, Cond.instanceMethod yX0_copyFrom, Cond.selects RX0 yX0_copyFrom yX0_copyFrom, Cond.initialized RX0, Cond.code yX0_copyFrom cX0_copyFrom 2 none, Cond.fieldLink RX0 7 "PickSlots$Accounts" "pickWalk" "I", Cond.fieldLink RX0 13 "PickSlots$Accounts" "refillWalk" "I", Cond.fieldLink RX0 16 "PickSlots$Accounts" "moveWalk" "I", Cond.fieldLink RX0 19 "PickSlots$Accounts" "trips" "I"]
def wsX5_tryText_r3 : List Cond := [Cond.fieldLink RX0 22 "PickSlots$Accounts" "saved" "I", Cond.fieldLink RX0 25 "PickSlots$Accounts" "moves" "I", Cond.fieldLink RX0 28 "PickSlots$Accounts" "picks" "I", Cond.methodLink RX5 147 yX1_startReading, Cond.instanceMethod yX1_startReading, Cond.selects RX1 yX1_startReading yX1_startReading, Cond.initialized RX1, Cond.code yX1_startReading cX1_startReading 1 none, Cond.fieldLink RX1 23 "PickSlots$OrderText" "at" "I", Cond.methodLink RX5 150 yX1_isAtEnd, Cond.instanceMethod yX1_isAtEnd, Cond.selects RX1 yX1_isAtEnd yX1_isAtEnd, Cond.code yX1_isAtEnd cX1_isAtEnd 1 (some .boolean), Cond.fieldLink RX1 19 "PickSlots$OrderText" "length" "I", Cond.methodLink RX5 157 yX1_readOrder, Cond.instanceMethod yX1_readOrder, Cond.selects RX1 yX1_readOrder yX1_readOrder, Cond.code yX1_readOrder cX1_readOrder 1 (some .boolean), Cond.fieldLink RX1 30 "PickSlots$OrderText" "kind" "I", Cond.fieldLink RX1 41 "PickSlots$OrderText" "first" "I", Cond.methodLink RX1 26 yX1_nextSign, Cond.instanceMethod yX1_nextSign, Cond.selects RX1 yX1_nextSign yX1_nextSign, Cond.code yX1_nextSign cX1_nextSign 1 (some .char)]
def wsX5_tryText_r4 : List Cond := [Cond.fieldLink RX1 9 "PickSlots$OrderText" "signs" "[C", Cond.methodLink RX1 33 yX1_readSign, Cond.instanceMethod yX1_readSign, Cond.selects RX1 yX1_readSign yX1_readSign, Cond.code yX1_readSign cX1_readSign 2 (some .boolean), Cond.methodLink RX1 37 yX1_readNumber, Cond.instanceMethod yX1_readNumber, Cond.selects RX1 yX1_readNumber yX1_readNumber, Cond.code yX1_readNumber cX1_readNumber 3 (some .int), Cond.methodLink RX1 51 yX1_isDigit, Cond.static yX1_isDigit, Cond.code yX1_isDigit cX1_isDigit 1 (some .boolean), Cond.methodLink RX1 44 yX1_readTwoNumbers, Cond.instanceMethod yX1_readTwoNumbers, Cond.selects RX1 yX1_readTwoNumbers yX1_readTwoNumbers, Cond.code yX1_readTwoNumbers cX1_readTwoNumbers 1 (some .boolean), Cond.fieldLink RX1 48 "PickSlots$OrderText" "second" "I", Cond.methodLink RX5 169 yX5_hasGoodsAndSlots, Cond.instanceMethod yX5_hasGoodsAndSlots, Cond.selects RX5 yX5_hasGoodsAndSlots yX5_hasGoodsAndSlots, Cond.code yX5_hasGoodsAndSlots cX5_hasGoodsAndSlots 4 (some .boolean), Cond.methodLink RX5 176 yX4_isGood, Cond.instanceMethod yX4_isGood, Cond.selects RX4 yX4_isGood yX4_isGood]
def wsX5_tryText_r5 : List Cond := [Cond.code yX4_isGood cX4_isGood 2 (some .boolean), Cond.methodLink RX5 179 yX2_isSlot, Cond.static yX2_isSlot, Cond.initialized RX2, Cond.code yX2_isSlot cX2_isSlot 1 (some .boolean), Cond.methodLink RX5 173 yX5_doOrder, Cond.instanceMethod yX5_doOrder, Cond.selects RX5 yX5_doOrder yX5_doOrder, Cond.code yX5_doOrder cX5_doOrder 4 (some .int), Cond.methodLink RX5 73 yX4_pickUnits, Cond.instanceMethod yX4_pickUnits, Cond.selects RX4 yX4_pickUnits yX4_pickUnits, Cond.code yX4_pickUnits cX4_pickUnits 6 (some .int), Cond.methodLink RX4 90 yX4_isGood, Cond.static yX5_isIn, Cond.code yX5_isIn cX5_isIn 3 (some .boolean), Cond.methodLink RX4 100 yX4_isPlaced, Cond.instanceMethod yX4_isPlaced, Cond.selects RX4 yX4_isPlaced yX4_isPlaced, Cond.code yX4_isPlaced cX4_isPlaced 2 (some .boolean), Cond.methodLink RX4 78 yX2_isSlot, Cond.methodLink RX4 117 yX4_unitsToBring, Cond.instanceMethod yX4_unitsToBring, Cond.selects RX4 yX4_unitsToBring yX4_unitsToBring]
def wsX5_tryText_r6 : List Cond := [Cond.code yX4_unitsToBring cX4_unitsToBring 2 (some .int), Cond.methodLink RX4 120 yX4_bring, Cond.instanceMethod yX4_bring, Cond.selects RX4 yX4_bring yX4_bring, Cond.code yX4_bring cX4_bring 5 (some .int), Cond.methodLink RX4 129 yX4_tripsFor, Cond.instanceMethod yX4_tripsFor, Cond.selects RX4 yX4_tripsFor yX4_tripsFor, Cond.code yX4_tripsFor cX4_tripsFor 3 (some .int), Cond.methodLink RX4 111 yX2_walkTo, Cond.static yX2_walkTo, Cond.code yX2_walkTo cX2_walkTo 1 (some .int), Cond.fieldLink RX2 9 "PickSlots$Slots" "REACHES" "[I", Cond.methodLink RX5 76 yX4_refillSlot, Cond.instanceMethod yX4_refillSlot, Cond.selects RX4 yX4_refillSlot yX4_refillSlot, Cond.code yX4_refillSlot cX4_refillSlot 3 (some .int), Cond.methodLink RX5 83 yX4_moveGood, Cond.instanceMethod yX4_moveGood, Cond.selects RX4 yX4_moveGood yX4_moveGood, Cond.code yX4_moveGood cX4_moveGood 3 (some .int), Cond.constant RX4 145 (100000000), Cond.methodLink RX4 142 yX4_canGo, Cond.instanceMethod yX4_canGo]
def wsX5_tryText_r7 : List Cond := [Cond.selects RX4 yX4_canGo yX4_canGo, Cond.code yX4_canGo cX4_canGo 5 (some .boolean), Cond.methodLink RX4 103 yX4_bears, Cond.instanceMethod yX4_bears, Cond.selects RX4 yX4_bears yX4_bears, Cond.code yX4_bears cX4_bears 3 (some .boolean), Cond.methodLink RX4 82 yX2_heaviestAt, Cond.static yX2_heaviestAt, Cond.code yX2_heaviestAt cX2_heaviestAt 1 (some .int), Cond.fieldLink RX2 13 "PickSlots$Slots" "HEAVIEST" "[I", Cond.methodLink RX4 146 yX4_goTo, Cond.instanceMethod yX4_goTo, Cond.selects RX4 yX4_goTo yX4_goTo, Cond.code yX4_goTo cX4_goTo 6 (some .int), Cond.methodLink RX4 155 yX4_savedByGoing, Cond.instanceMethod yX4_savedByGoing, Cond.selects RX4 yX4_savedByGoing yX4_savedByGoing, Cond.code yX4_savedByGoing cX4_savedByGoing 5 (some .int), Cond.methodLink RX4 138 yX4_presentSeason, Cond.instanceMethod yX4_presentSeason, Cond.selects RX4 yX4_presentSeason yX4_presentSeason, Cond.code yX4_presentSeason cX4_presentSeason 1 (some .int), Cond.methodLink RX4 96 yX4_demandOf, Cond.instanceMethod yX4_demandOf]
def wsX5_tryText_r8 : List Cond := [Cond.selects RX4 yX4_demandOf yX4_demandOf, Cond.code yX4_demandOf cX4_demandOf 3 (some .int), Cond.methodLink RX4 149 yX4_walkOfGoing, Cond.instanceMethod yX4_walkOfGoing, Cond.selects RX4 yX4_walkOfGoing yX4_walkOfGoing, Cond.code yX4_walkOfGoing cX4_walkOfGoing 6 (some .int), Cond.methodLink RX4 161 yX2_wayBetween, Cond.static yX2_wayBetween, Cond.code yX2_wayBetween cX2_wayBetween 3 (some .int), Cond.methodLink RX2 16 Lib.Math.abs.name, Cond.static Lib.Math.abs.name, Cond.code Lib.Math.abs.name Lib.Math.abs.code 1 (some .int), Cond.methodLink RX4 107 yX4_standIn, Cond.instanceMethod yX4_standIn, Cond.selects RX4 yX4_standIn yX4_standIn, Cond.code yX4_standIn cX4_standIn 3 none, Cond.methodLink RX5 86 yX4_exchangeGoods, Cond.instanceMethod yX4_exchangeGoods, Cond.selects RX4 yX4_exchangeGoods yX4_exchangeGoods, Cond.code yX4_exchangeGoods cX4_exchangeGoods 3 (some .int), Cond.methodLink RX5 79 yX4_finishWeek, Cond.instanceMethod yX4_finishWeek, Cond.selects RX4 yX4_finishWeek yX4_finishWeek, Cond.code yX4_finishWeek cX4_finishWeek 4 (some .int)]
def wsX5_tryText : List Cond := .code yX5_tryText cX5_tryText 2 (some .int) :: ((wsX5_tryText_r1 ++ (wsX5_tryText_r2 ++ (wsX5_tryText_r3 ++ (wsX5_tryText_r4 ++ (wsX5_tryText_r5 ++ (wsX5_tryText_r6 ++ (wsX5_tryText_r7 ++ wsX5_tryText_r8))))))) ++ wsX50 ++ wsX10 ++ wsX40 ++ wsX00)
def wsX5_fault_r1 : List Cond := [Cond.fieldLink RX5 131 "PickSlots" "faultReason" "I", Cond.fieldLink RX5 134 "PickSlots" "faultPosition" "I", Cond.methodLink RX5 128 yX5_tryText, Cond.instanceMethod yX5_tryText, Cond.selects RX5 yX5_tryText yX5_tryText, Cond.initialized RX5, Cond.code yX5_tryText cX5_tryText 2 (some .int), Cond.fieldLink RX5 18 "PickSlots" "text" "LPickSlots$OrderText;", Cond.methodLink RX5 40 yX5_startTrial, Cond.instanceMethod yX5_startTrial, Cond.selects RX5 yX5_startTrial yX5_startTrial, Cond.code yX5_startTrial cX5_startTrial 1 none, Cond.fieldLink RX5 37 "PickSlots" "trial" "LPickSlots$Warehouse;", Cond.fieldLink RX5 33 "PickSlots" "now" "LPickSlots$Warehouse;", Cond.methodLink RX5 137 yX4_copyFrom, Cond.instanceMethod yX4_copyFrom, Cond.selects RX4 yX4_copyFrom yX4_copyFrom, Cond.initialized RX4, Cond.code yX4_copyFrom cX4_copyFrom 2 none, Cond.fieldLink RX4 9 "PickSlots$Warehouse" "weights" "[I", Cond.fieldLink RX4 15 "PickSlots$Warehouse" "capacities" "[I", Cond.fieldLink RX4 18 "PickSlots$Warehouse" "seasonDemands" "[I", Cond.fieldLink RX4 21 "PickSlots$Warehouse" "slotOfGood" "[I", Cond.fieldLink RX4 24 "PickSlots$Warehouse" "unitsInSlot" "[I"]
def wsX5_fault_r2 : List Cond := [Cond.fieldLink RX4 27 "PickSlots$Warehouse" "unitsInStore" "[I", Cond.fieldLink RX4 30 "PickSlots$Warehouse" "weekPicks" "[I", Cond.fieldLink RX4 33 "PickSlots$Warehouse" "unitsPicked" "[I", Cond.fieldLink RX4 38 "PickSlots$Warehouse" "goodInSlot" "[I", Cond.fieldLink RX4 41 "PickSlots$Warehouse" "settings" "[I", Cond.fieldLink RX4 47 "PickSlots$Warehouse" "accounts" "LPickSlots$Accounts;", Cond.fieldLink RX4 59 "PickSlots$Warehouse" "goods" "I", Cond.fieldLink RX4 63 "PickSlots$Warehouse" "week" "I", Cond.methodLink RX4 51 yX4_copyRow, Cond.static yX4_copyRow, Cond.code yX4_copyRow cX4_copyRow 2 none, Cond.methodLink RX4 66 Lib.Math.min.name, Cond.static Lib.Math.min.name, Cond.initialized "java/lang/Math", Cond.code Lib.Math.min.name Lib.Math.min.code 2 (some .int), Cond.methodLink RX4 72 arraycopyName, Cond.native arraycopyName, Cond.static arraycopyName, Cond.initialized "java/lang/System", Cond.methodLink RX4 55 yX0_copyFrom, Cond.instanceMethod yX0_copyFrom, Cond.selects RX0 yX0_copyFrom yX0_copyFrom, Cond.initialized RX0, Cond.code yX0_copyFrom cX0_copyFrom 2 none]
def wsX5_fault_r3 : List Cond := [Cond.fieldLink RX0 7 "PickSlots$Accounts" "pickWalk" "I", Cond.fieldLink RX0 13 "PickSlots$Accounts" "refillWalk" "I", Cond.fieldLink RX0 16 "PickSlots$Accounts" "moveWalk" "I", Cond.fieldLink RX0 19 "PickSlots$Accounts" "trips" "I", Cond.fieldLink RX0 22 "PickSlots$Accounts" "saved" "I", Cond.fieldLink RX0 25 "PickSlots$Accounts" "moves" "I", Cond.fieldLink RX0 28 "PickSlots$Accounts" "picks" "I", Cond.methodLink RX5 147 yX1_startReading, Cond.instanceMethod yX1_startReading, Cond.selects RX1 yX1_startReading yX1_startReading, Cond.initialized RX1, Cond.code yX1_startReading cX1_startReading 1 none, Cond.fieldLink RX1 23 "PickSlots$OrderText" "at" "I", Cond.methodLink RX5 150 yX1_isAtEnd, Cond.instanceMethod yX1_isAtEnd, Cond.selects RX1 yX1_isAtEnd yX1_isAtEnd, Cond.code yX1_isAtEnd cX1_isAtEnd 1 (some .boolean), Cond.fieldLink RX1 19 "PickSlots$OrderText" "length" "I", Cond.methodLink RX5 157 yX1_readOrder, Cond.instanceMethod yX1_readOrder, Cond.selects RX1 yX1_readOrder yX1_readOrder, Cond.code yX1_readOrder cX1_readOrder 1 (some .boolean), Cond.fieldLink RX1 30 "PickSlots$OrderText" "kind" "I", Cond.fieldLink RX1 41 "PickSlots$OrderText" "first" "I"]
def wsX5_fault_r4 : List Cond := [Cond.methodLink RX1 26 yX1_nextSign, Cond.instanceMethod yX1_nextSign, Cond.selects RX1 yX1_nextSign yX1_nextSign, Cond.code yX1_nextSign cX1_nextSign 1 (some .char), Cond.fieldLink RX1 9 "PickSlots$OrderText" "signs" "[C", Cond.methodLink RX1 33 yX1_readSign, Cond.instanceMethod yX1_readSign, Cond.selects RX1 yX1_readSign yX1_readSign, Cond.code yX1_readSign cX1_readSign 2 (some .boolean), Cond.methodLink RX1 37 yX1_readNumber, Cond.instanceMethod yX1_readNumber, Cond.selects RX1 yX1_readNumber yX1_readNumber, Cond.code yX1_readNumber cX1_readNumber 3 (some .int), Cond.methodLink RX1 51 yX1_isDigit, Cond.static yX1_isDigit, Cond.code yX1_isDigit cX1_isDigit 1 (some .boolean), Cond.methodLink RX1 44 yX1_readTwoNumbers, Cond.instanceMethod yX1_readTwoNumbers, Cond.selects RX1 yX1_readTwoNumbers yX1_readTwoNumbers, Cond.code yX1_readTwoNumbers cX1_readTwoNumbers 1 (some .boolean), Cond.fieldLink RX1 48 "PickSlots$OrderText" "second" "I", Cond.methodLink RX5 169 yX5_hasGoodsAndSlots, Cond.instanceMethod yX5_hasGoodsAndSlots, Cond.selects RX5 yX5_hasGoodsAndSlots yX5_hasGoodsAndSlots]
def wsX5_fault_r5 : List Cond := [Cond.code yX5_hasGoodsAndSlots cX5_hasGoodsAndSlots 4 (some .boolean), Cond.methodLink RX5 176 yX4_isGood, Cond.instanceMethod yX4_isGood, Cond.selects RX4 yX4_isGood yX4_isGood, Cond.code yX4_isGood cX4_isGood 2 (some .boolean), Cond.methodLink RX5 179 yX2_isSlot, Cond.static yX2_isSlot, Cond.initialized RX2, Cond.code yX2_isSlot cX2_isSlot 1 (some .boolean), Cond.methodLink RX5 173 yX5_doOrder, Cond.instanceMethod yX5_doOrder, Cond.selects RX5 yX5_doOrder yX5_doOrder, Cond.code yX5_doOrder cX5_doOrder 4 (some .int), Cond.methodLink RX5 73 yX4_pickUnits, Cond.instanceMethod yX4_pickUnits, Cond.selects RX4 yX4_pickUnits yX4_pickUnits, Cond.code yX4_pickUnits cX4_pickUnits 6 (some .int), Cond.methodLink RX4 90 yX4_isGood, Cond.static yX5_isIn, Cond.code yX5_isIn cX5_isIn 3 (some .boolean), Cond.methodLink RX4 100 yX4_isPlaced, Cond.instanceMethod yX4_isPlaced, Cond.selects RX4 yX4_isPlaced yX4_isPlaced, Cond.code yX4_isPlaced cX4_isPlaced 2 (some .boolean)]
def wsX5_fault_r6 : List Cond := [Cond.methodLink RX4 78 yX2_isSlot, Cond.methodLink RX4 117 yX4_unitsToBring, Cond.instanceMethod yX4_unitsToBring, Cond.selects RX4 yX4_unitsToBring yX4_unitsToBring, Cond.code yX4_unitsToBring cX4_unitsToBring 2 (some .int), Cond.methodLink RX4 120 yX4_bring, Cond.instanceMethod yX4_bring, Cond.selects RX4 yX4_bring yX4_bring, Cond.code yX4_bring cX4_bring 5 (some .int), Cond.methodLink RX4 129 yX4_tripsFor, Cond.instanceMethod yX4_tripsFor, Cond.selects RX4 yX4_tripsFor yX4_tripsFor, Cond.code yX4_tripsFor cX4_tripsFor 3 (some .int), Cond.methodLink RX4 111 yX2_walkTo, Cond.static yX2_walkTo, Cond.code yX2_walkTo cX2_walkTo 1 (some .int), Cond.fieldLink RX2 9 "PickSlots$Slots" "REACHES" "[I", Cond.methodLink RX5 76 yX4_refillSlot, Cond.instanceMethod yX4_refillSlot, Cond.selects RX4 yX4_refillSlot yX4_refillSlot, Cond.code yX4_refillSlot cX4_refillSlot 3 (some .int), Cond.methodLink RX5 83 yX4_moveGood, Cond.instanceMethod yX4_moveGood, Cond.selects RX4 yX4_moveGood yX4_moveGood]
def wsX5_fault_r7 : List Cond := [Cond.code yX4_moveGood cX4_moveGood 3 (some .int), Cond.constant RX4 145 (100000000), Cond.methodLink RX4 142 yX4_canGo, Cond.instanceMethod yX4_canGo, Cond.selects RX4 yX4_canGo yX4_canGo, Cond.code yX4_canGo cX4_canGo 5 (some .boolean), Cond.methodLink RX4 103 yX4_bears, Cond.instanceMethod yX4_bears, Cond.selects RX4 yX4_bears yX4_bears, Cond.code yX4_bears cX4_bears 3 (some .boolean), Cond.methodLink RX4 82 yX2_heaviestAt, Cond.static yX2_heaviestAt, Cond.code yX2_heaviestAt cX2_heaviestAt 1 (some .int), Cond.fieldLink RX2 13 "PickSlots$Slots" "HEAVIEST" "[I", Cond.methodLink RX4 146 yX4_goTo, Cond.instanceMethod yX4_goTo, Cond.selects RX4 yX4_goTo yX4_goTo, Cond.code yX4_goTo cX4_goTo 6 (some .int), Cond.methodLink RX4 155 yX4_savedByGoing, Cond.instanceMethod yX4_savedByGoing, Cond.selects RX4 yX4_savedByGoing yX4_savedByGoing, Cond.code yX4_savedByGoing cX4_savedByGoing 5 (some .int), Cond.methodLink RX4 138 yX4_presentSeason, Cond.instanceMethod yX4_presentSeason]
def wsX5_fault_r8 : List Cond := [Cond.selects RX4 yX4_presentSeason yX4_presentSeason, Cond.code yX4_presentSeason cX4_presentSeason 1 (some .int), Cond.methodLink RX4 96 yX4_demandOf, Cond.instanceMethod yX4_demandOf, Cond.selects RX4 yX4_demandOf yX4_demandOf, Cond.code yX4_demandOf cX4_demandOf 3 (some .int), Cond.methodLink RX4 149 yX4_walkOfGoing, Cond.instanceMethod yX4_walkOfGoing, Cond.selects RX4 yX4_walkOfGoing yX4_walkOfGoing, Cond.code yX4_walkOfGoing cX4_walkOfGoing 6 (some .int), Cond.methodLink RX4 161 yX2_wayBetween, Cond.static yX2_wayBetween, Cond.code yX2_wayBetween cX2_wayBetween 3 (some .int), Cond.methodLink RX2 16 Lib.Math.abs.name, Cond.static Lib.Math.abs.name, Cond.code Lib.Math.abs.name Lib.Math.abs.code 1 (some .int), Cond.methodLink RX4 107 yX4_standIn, Cond.instanceMethod yX4_standIn, Cond.selects RX4 yX4_standIn yX4_standIn, Cond.code yX4_standIn cX4_standIn 3 none, Cond.methodLink RX5 86 yX4_exchangeGoods, Cond.instanceMethod yX4_exchangeGoods, Cond.selects RX4 yX4_exchangeGoods yX4_exchangeGoods, Cond.code yX4_exchangeGoods cX4_exchangeGoods 3 (some .int)]
def wsX5_fault_r9 : List Cond := [Cond.methodLink RX5 79 yX4_finishWeek, Cond.instanceMethod yX4_finishWeek, Cond.selects RX4 yX4_finishWeek yX4_finishWeek, Cond.code yX4_finishWeek cX4_finishWeek 4 (some .int)]
def wsX5_fault : List Cond := .code yX5_fault cX5_fault 2 (some .int) :: ((wsX5_fault_r1 ++ (wsX5_fault_r2 ++ (wsX5_fault_r3 ++ (wsX5_fault_r4 ++ (wsX5_fault_r5 ++ (wsX5_fault_r6 ++ (wsX5_fault_r7 ++ (wsX5_fault_r8 ++ wsX5_fault_r9)))))))) ++ wsX50 ++ wsX10 ++ wsX40 ++ wsX00)
def wsX5_play_r1 : List Cond := [Cond.fieldLink RX5 131 "PickSlots" "faultReason" "I", Cond.methodLink RX5 128 yX5_tryText, Cond.instanceMethod yX5_tryText, Cond.selects RX5 yX5_tryText yX5_tryText, Cond.initialized RX5, Cond.code yX5_tryText cX5_tryText 2 (some .int), Cond.fieldLink RX5 18 "PickSlots" "text" "LPickSlots$OrderText;", Cond.fieldLink RX5 134 "PickSlots" "faultPosition" "I", Cond.methodLink RX5 40 yX5_startTrial, Cond.instanceMethod yX5_startTrial, Cond.selects RX5 yX5_startTrial yX5_startTrial, Cond.code yX5_startTrial cX5_startTrial 1 none, Cond.fieldLink RX5 37 "PickSlots" "trial" "LPickSlots$Warehouse;", Cond.fieldLink RX5 33 "PickSlots" "now" "LPickSlots$Warehouse;", Cond.methodLink RX5 137 yX4_copyFrom, Cond.instanceMethod yX4_copyFrom, Cond.selects RX4 yX4_copyFrom yX4_copyFrom, Cond.initialized RX4, Cond.code yX4_copyFrom cX4_copyFrom 2 none, Cond.fieldLink RX4 9 "PickSlots$Warehouse" "weights" "[I", Cond.fieldLink RX4 15 "PickSlots$Warehouse" "capacities" "[I", Cond.fieldLink RX4 18 "PickSlots$Warehouse" "seasonDemands" "[I", Cond.fieldLink RX4 21 "PickSlots$Warehouse" "slotOfGood" "[I", Cond.fieldLink RX4 24 "PickSlots$Warehouse" "unitsInSlot" "[I"]
def wsX5_play_r2 : List Cond := [Cond.fieldLink RX4 27 "PickSlots$Warehouse" "unitsInStore" "[I", Cond.fieldLink RX4 30 "PickSlots$Warehouse" "weekPicks" "[I", Cond.fieldLink RX4 33 "PickSlots$Warehouse" "unitsPicked" "[I", Cond.fieldLink RX4 38 "PickSlots$Warehouse" "goodInSlot" "[I", Cond.fieldLink RX4 41 "PickSlots$Warehouse" "settings" "[I", Cond.fieldLink RX4 47 "PickSlots$Warehouse" "accounts" "LPickSlots$Accounts;", Cond.fieldLink RX4 59 "PickSlots$Warehouse" "goods" "I", Cond.fieldLink RX4 63 "PickSlots$Warehouse" "week" "I", Cond.methodLink RX4 51 yX4_copyRow, Cond.static yX4_copyRow, Cond.code yX4_copyRow cX4_copyRow 2 none, Cond.methodLink RX4 66 Lib.Math.min.name, Cond.static Lib.Math.min.name, Cond.initialized "java/lang/Math", Cond.code Lib.Math.min.name Lib.Math.min.code 2 (some .int), Cond.methodLink RX4 72 arraycopyName, Cond.native arraycopyName, Cond.static arraycopyName, Cond.initialized "java/lang/System", Cond.methodLink RX4 55 yX0_copyFrom, Cond.instanceMethod yX0_copyFrom, Cond.selects RX0 yX0_copyFrom yX0_copyFrom, Cond.initialized RX0, Cond.code yX0_copyFrom cX0_copyFrom 2 none]
def wsX5_play_r3 : List Cond := [Cond.fieldLink RX0 7 "PickSlots$Accounts" "pickWalk" "I", Cond.fieldLink RX0 13 "PickSlots$Accounts" "refillWalk" "I", Cond.fieldLink RX0 16 "PickSlots$Accounts" "moveWalk" "I", Cond.fieldLink RX0 19 "PickSlots$Accounts" "trips" "I", Cond.fieldLink RX0 22 "PickSlots$Accounts" "saved" "I", Cond.fieldLink RX0 25 "PickSlots$Accounts" "moves" "I", Cond.fieldLink RX0 28 "PickSlots$Accounts" "picks" "I", Cond.methodLink RX5 147 yX1_startReading, Cond.instanceMethod yX1_startReading, Cond.selects RX1 yX1_startReading yX1_startReading, Cond.initialized RX1, Cond.code yX1_startReading cX1_startReading 1 none, Cond.fieldLink RX1 23 "PickSlots$OrderText" "at" "I", Cond.methodLink RX5 150 yX1_isAtEnd, Cond.instanceMethod yX1_isAtEnd, Cond.selects RX1 yX1_isAtEnd yX1_isAtEnd, Cond.code yX1_isAtEnd cX1_isAtEnd 1 (some .boolean), Cond.fieldLink RX1 19 "PickSlots$OrderText" "length" "I", Cond.methodLink RX5 157 yX1_readOrder, Cond.instanceMethod yX1_readOrder, Cond.selects RX1 yX1_readOrder yX1_readOrder, Cond.code yX1_readOrder cX1_readOrder 1 (some .boolean), Cond.fieldLink RX1 30 "PickSlots$OrderText" "kind" "I", Cond.fieldLink RX1 41 "PickSlots$OrderText" "first" "I"]
def wsX5_play_r4 : List Cond := [Cond.methodLink RX1 26 yX1_nextSign, Cond.instanceMethod yX1_nextSign, Cond.selects RX1 yX1_nextSign yX1_nextSign, Cond.code yX1_nextSign cX1_nextSign 1 (some .char), Cond.fieldLink RX1 9 "PickSlots$OrderText" "signs" "[C", Cond.methodLink RX1 33 yX1_readSign, Cond.instanceMethod yX1_readSign, Cond.selects RX1 yX1_readSign yX1_readSign, Cond.code yX1_readSign cX1_readSign 2 (some .boolean), Cond.methodLink RX1 37 yX1_readNumber, Cond.instanceMethod yX1_readNumber, Cond.selects RX1 yX1_readNumber yX1_readNumber, Cond.code yX1_readNumber cX1_readNumber 3 (some .int), Cond.methodLink RX1 51 yX1_isDigit, Cond.static yX1_isDigit, Cond.code yX1_isDigit cX1_isDigit 1 (some .boolean), Cond.methodLink RX1 44 yX1_readTwoNumbers, Cond.instanceMethod yX1_readTwoNumbers, Cond.selects RX1 yX1_readTwoNumbers yX1_readTwoNumbers, Cond.code yX1_readTwoNumbers cX1_readTwoNumbers 1 (some .boolean), Cond.fieldLink RX1 48 "PickSlots$OrderText" "second" "I", Cond.methodLink RX5 169 yX5_hasGoodsAndSlots, Cond.instanceMethod yX5_hasGoodsAndSlots, Cond.selects RX5 yX5_hasGoodsAndSlots yX5_hasGoodsAndSlots]
def wsX5_play_r5 : List Cond := [Cond.code yX5_hasGoodsAndSlots cX5_hasGoodsAndSlots 4 (some .boolean), Cond.methodLink RX5 176 yX4_isGood, Cond.instanceMethod yX4_isGood, Cond.selects RX4 yX4_isGood yX4_isGood, Cond.code yX4_isGood cX4_isGood 2 (some .boolean), Cond.methodLink RX5 179 yX2_isSlot, Cond.static yX2_isSlot, Cond.initialized RX2, Cond.code yX2_isSlot cX2_isSlot 1 (some .boolean), Cond.methodLink RX5 173 yX5_doOrder, Cond.instanceMethod yX5_doOrder, Cond.selects RX5 yX5_doOrder yX5_doOrder, Cond.code yX5_doOrder cX5_doOrder 4 (some .int), Cond.methodLink RX5 73 yX4_pickUnits, Cond.instanceMethod yX4_pickUnits, Cond.selects RX4 yX4_pickUnits yX4_pickUnits, Cond.code yX4_pickUnits cX4_pickUnits 6 (some .int), Cond.methodLink RX4 90 yX4_isGood, Cond.static yX5_isIn, Cond.code yX5_isIn cX5_isIn 3 (some .boolean), Cond.methodLink RX4 100 yX4_isPlaced, Cond.instanceMethod yX4_isPlaced, Cond.selects RX4 yX4_isPlaced yX4_isPlaced, Cond.code yX4_isPlaced cX4_isPlaced 2 (some .boolean)]
def wsX5_play_r6 : List Cond := [Cond.methodLink RX4 78 yX2_isSlot, Cond.methodLink RX4 117 yX4_unitsToBring, Cond.instanceMethod yX4_unitsToBring, Cond.selects RX4 yX4_unitsToBring yX4_unitsToBring, Cond.code yX4_unitsToBring cX4_unitsToBring 2 (some .int), Cond.methodLink RX4 120 yX4_bring, Cond.instanceMethod yX4_bring, Cond.selects RX4 yX4_bring yX4_bring, Cond.code yX4_bring cX4_bring 5 (some .int), Cond.methodLink RX4 129 yX4_tripsFor, Cond.instanceMethod yX4_tripsFor, Cond.selects RX4 yX4_tripsFor yX4_tripsFor, Cond.code yX4_tripsFor cX4_tripsFor 3 (some .int), Cond.methodLink RX4 111 yX2_walkTo, Cond.static yX2_walkTo, Cond.code yX2_walkTo cX2_walkTo 1 (some .int), Cond.fieldLink RX2 9 "PickSlots$Slots" "REACHES" "[I", Cond.methodLink RX5 76 yX4_refillSlot, Cond.instanceMethod yX4_refillSlot, Cond.selects RX4 yX4_refillSlot yX4_refillSlot, Cond.code yX4_refillSlot cX4_refillSlot 3 (some .int), Cond.methodLink RX5 83 yX4_moveGood, Cond.instanceMethod yX4_moveGood, Cond.selects RX4 yX4_moveGood yX4_moveGood]
def wsX5_play_r7 : List Cond := [Cond.code yX4_moveGood cX4_moveGood 3 (some .int), Cond.constant RX4 145 (100000000), Cond.methodLink RX4 142 yX4_canGo, Cond.instanceMethod yX4_canGo, Cond.selects RX4 yX4_canGo yX4_canGo, Cond.code yX4_canGo cX4_canGo 5 (some .boolean), Cond.methodLink RX4 103 yX4_bears, Cond.instanceMethod yX4_bears, Cond.selects RX4 yX4_bears yX4_bears, Cond.code yX4_bears cX4_bears 3 (some .boolean), Cond.methodLink RX4 82 yX2_heaviestAt, Cond.static yX2_heaviestAt, Cond.code yX2_heaviestAt cX2_heaviestAt 1 (some .int), Cond.fieldLink RX2 13 "PickSlots$Slots" "HEAVIEST" "[I", Cond.methodLink RX4 146 yX4_goTo, Cond.instanceMethod yX4_goTo, Cond.selects RX4 yX4_goTo yX4_goTo, Cond.code yX4_goTo cX4_goTo 6 (some .int), Cond.methodLink RX4 155 yX4_savedByGoing, Cond.instanceMethod yX4_savedByGoing, Cond.selects RX4 yX4_savedByGoing yX4_savedByGoing, Cond.code yX4_savedByGoing cX4_savedByGoing 5 (some .int), Cond.methodLink RX4 138 yX4_presentSeason, Cond.instanceMethod yX4_presentSeason]
def wsX5_play_r8 : List Cond := [Cond.selects RX4 yX4_presentSeason yX4_presentSeason, Cond.code yX4_presentSeason cX4_presentSeason 1 (some .int), Cond.methodLink RX4 96 yX4_demandOf, Cond.instanceMethod yX4_demandOf, Cond.selects RX4 yX4_demandOf yX4_demandOf, Cond.code yX4_demandOf cX4_demandOf 3 (some .int), Cond.methodLink RX4 149 yX4_walkOfGoing, Cond.instanceMethod yX4_walkOfGoing, Cond.selects RX4 yX4_walkOfGoing yX4_walkOfGoing, Cond.code yX4_walkOfGoing cX4_walkOfGoing 6 (some .int), Cond.methodLink RX4 161 yX2_wayBetween, Cond.static yX2_wayBetween, Cond.code yX2_wayBetween cX2_wayBetween 3 (some .int), Cond.methodLink RX2 16 Lib.Math.abs.name, Cond.static Lib.Math.abs.name, Cond.code Lib.Math.abs.name Lib.Math.abs.code 1 (some .int), Cond.methodLink RX4 107 yX4_standIn, Cond.instanceMethod yX4_standIn, Cond.selects RX4 yX4_standIn yX4_standIn, Cond.code yX4_standIn cX4_standIn 3 none, Cond.methodLink RX5 86 yX4_exchangeGoods, Cond.instanceMethod yX4_exchangeGoods, Cond.selects RX4 yX4_exchangeGoods yX4_exchangeGoods, Cond.code yX4_exchangeGoods cX4_exchangeGoods 3 (some .int)]
def wsX5_play_r9 : List Cond := [Cond.methodLink RX5 79 yX4_finishWeek, Cond.instanceMethod yX4_finishWeek, Cond.selects RX4 yX4_finishWeek yX4_finishWeek, Cond.code yX4_finishWeek cX4_finishWeek 4 (some .int), Cond.methodLink RX5 47 yX5_endTrial, Cond.instanceMethod yX5_endTrial, Cond.selects RX5 yX5_endTrial yX5_endTrial, Cond.code yX5_endTrial cX5_endTrial 2 (some .int), Cond.methodLink RX5 141 yX5_keepTrial, Cond.instanceMethod yX5_keepTrial, Cond.selects RX5 yX5_keepTrial yX5_keepTrial, Cond.code yX5_keepTrial cX5_keepTrial 2 none, Cond.fieldLink RX5 112 "PickSlots" "states" "I", Cond.fieldLink RX5 11 "PickSlots" "history" "[LPickSlots$Warehouse;", Cond.methodLink RX5 144 yX5_dropOldestState, Cond.instanceMethod yX5_dropOldestState, Cond.selects RX5 yX5_dropOldestState yX5_dropOldestState, Cond.code yX5_dropOldestState cX5_dropOldestState 3 none]
def wsX5_play : List Cond := .code yX5_play cX5_play 2 (some .int) :: ((wsX5_play_r1 ++ (wsX5_play_r2 ++ (wsX5_play_r3 ++ (wsX5_play_r4 ++ (wsX5_play_r5 ++ (wsX5_play_r6 ++ (wsX5_play_r7 ++ (wsX5_play_r8 ++ wsX5_play_r9)))))))) ++ wsX50 ++ wsX10 ++ wsX40 ++ wsX00)
def wsJ9_abs_0f7a4 : List Cond := .code yJ9_abs_0f7a4 cJ9_abs_0f7a4 1 (some .int) :: ([])
def wsJ9_min_7cf53 : List Cond := .code yJ9_min_7cf53 cJ9_min_7cf53 2 (some .int) :: ([])
def wsL_cell : List Cond := .code yL_cell cL_cell 2 (some .int) :: ([.constant RL 7 (763049417)])
def wsL_up : List Cond := .code yL_up cL_up 2 (some .int) :: ([.constant RL 8 (2147483647)])
def wsL_mark_r1 : List Cond := [Cond.constantLong RL 9 (17), Cond.constantLong RL 11 (31), Cond.methodLink RL 13 yX5_account, Cond.instanceMethod yX5_account, Cond.selects RX5 yX5_account yX5_account, Cond.initialized RX5, Cond.code yX5_account cX5_account 2 (some .int), Cond.fieldLink RX5 33 "PickSlots" "now" "LPickSlots$Warehouse;", Cond.methodLink RX5 109 yX4_numberOfAccount, Cond.instanceMethod yX4_numberOfAccount, Cond.selects RX4 yX4_numberOfAccount yX4_numberOfAccount, Cond.initialized RX4, Cond.code yX4_numberOfAccount cX4_numberOfAccount 2 (some .int), Cond.fieldLink RX4 47 "PickSlots$Warehouse" "accounts" "LPickSlots$Accounts;", Cond.constant RX4 145 (100000000), Cond.methodLink RX4 138 yX4_presentSeason, Cond.instanceMethod yX4_presentSeason, Cond.selects RX4 yX4_presentSeason yX4_presentSeason, Cond.code yX4_presentSeason cX4_presentSeason 1 (some .int), Cond.fieldLink RX4 63 "PickSlots$Warehouse" "week" "I", Cond.methodLink RX4 188 yX4_weeklyWalk, Cond.instanceMethod yX4_weeklyWalk, Cond.selects RX4 yX4_weeklyWalk yX4_weeklyWalk, Cond.code yX4_weeklyWalk cX4_weeklyWalk 4 (some .int)]
def wsL_mark_r2 : List Cond := [Cond.fieldLink RX4 59 "PickSlots$Warehouse" "goods" "I", Cond.fieldLink RX4 21 "PickSlots$Warehouse" "slotOfGood" "[I", Cond.methodLink RX4 100 yX4_isPlaced, Cond.instanceMethod yX4_isPlaced, Cond.selects RX4 yX4_isPlaced yX4_isPlaced, Cond.code yX4_isPlaced cX4_isPlaced 2 (some .boolean), Cond.methodLink RX4 78 yX2_isSlot, Cond.static yX2_isSlot, Cond.initialized RX2, Cond.code yX2_isSlot cX2_isSlot 1 (some .boolean), Cond.methodLink RX4 96 yX4_demandOf, Cond.instanceMethod yX4_demandOf, Cond.selects RX4 yX4_demandOf yX4_demandOf, Cond.code yX4_demandOf cX4_demandOf 3 (some .int), Cond.fieldLink RX4 18 "PickSlots$Warehouse" "seasonDemands" "[I", Cond.methodLink RX4 111 yX2_walkTo, Cond.static yX2_walkTo, Cond.code yX2_walkTo cX2_walkTo 1 (some .int), Cond.fieldLink RX2 9 "PickSlots$Slots" "REACHES" "[I", Cond.methodLink RL 19 yX5_count, Cond.instanceMethod yX5_count, Cond.selects RX5 yX5_count yX5_count, Cond.code yX5_count cX5_count 2 (some .int), Cond.fieldLink RX5 112 "PickSlots" "states" "I"]
def wsL_mark_r3 : List Cond := [Cond.fieldLink RX5 18 "PickSlots" "text" "LPickSlots$OrderText;", Cond.methodLink RX5 119 yX4_numberOfWarehouse, Cond.instanceMethod yX4_numberOfWarehouse, Cond.selects RX4 yX4_numberOfWarehouse yX4_numberOfWarehouse, Cond.code yX4_numberOfWarehouse cX4_numberOfWarehouse 2 (some .int), Cond.fieldLink RX4 24 "PickSlots$Warehouse" "unitsInSlot" "[I", Cond.fieldLink RX4 27 "PickSlots$Warehouse" "unitsInStore" "[I", Cond.fieldLink RX4 41 "PickSlots$Warehouse" "settings" "[I", Cond.methodLink RX4 191 yX4_placedGoods, Cond.instanceMethod yX4_placedGoods, Cond.selects RX4 yX4_placedGoods yX4_placedGoods, Cond.code yX4_placedGoods cX4_placedGoods 4 (some .int), Cond.methodLink RX4 164 yX4_weeksLeft, Cond.instanceMethod yX4_weeksLeft, Cond.selects RX4 yX4_weeksLeft yX4_weeksLeft, Cond.code yX4_weeksLeft cX4_weeksLeft 1 (some .int), Cond.methodLink RX4 195 yX4_sumOf, Cond.instanceMethod yX4_sumOf, Cond.selects RX4 yX4_sumOf yX4_sumOf, Cond.code yX4_sumOf cX4_sumOf 4 (some .int), Cond.methodLink RL 22 yX5_goodOf, Cond.instanceMethod yX5_goodOf, Cond.selects RX5 yX5_goodOf yX5_goodOf, Cond.code yX5_goodOf cX5_goodOf 3 (some .int)]
def wsL_mark_r4 : List Cond := [Cond.methodLink RX5 64 yX4_numberOfGood, Cond.instanceMethod yX4_numberOfGood, Cond.selects RX4 yX4_numberOfGood yX4_numberOfGood, Cond.code yX4_numberOfGood cX4_numberOfGood 3 (some .int), Cond.fieldLink RX4 9 "PickSlots$Warehouse" "weights" "[I", Cond.fieldLink RX4 15 "PickSlots$Warehouse" "capacities" "[I", Cond.fieldLink RX4 30 "PickSlots$Warehouse" "weekPicks" "[I", Cond.fieldLink RX4 33 "PickSlots$Warehouse" "unitsPicked" "[I", Cond.methodLink RX4 90 yX4_isGood, Cond.instanceMethod yX4_isGood, Cond.selects RX4 yX4_isGood yX4_isGood, Cond.code yX4_isGood cX4_isGood 2 (some .boolean), Cond.static yX5_isIn, Cond.code yX5_isIn cX5_isIn 3 (some .boolean), Cond.methodLink RX4 114 yX2_greatestHeightFor, Cond.static yX2_greatestHeightFor, Cond.code yX2_greatestHeightFor cX2_greatestHeightFor 3 (some .int), Cond.fieldLink RX2 13 "PickSlots$Slots" "HEAVIEST" "[I"]
def wsL_mark : List Cond := .code yL_mark cL_mark 5 (some .long) :: ((wsL_mark_r1 ++ (wsL_mark_r2 ++ (wsL_mark_r3 ++ wsL_mark_r4))) ++ wsX50 ++ wsX40 ++ wsX00 ++ wsX10)
def wsL_fails_r1 : List Cond := [Cond.methodLink RL 26 yL_mark, Cond.static yL_mark, Cond.initialized RL, Cond.code yL_mark cL_mark 5 (some .long), Cond.constantLong RL 9 (17), Cond.constantLong RL 11 (31), Cond.methodLink RL 13 yX5_account, Cond.instanceMethod yX5_account, Cond.selects RX5 yX5_account yX5_account, Cond.initialized RX5, Cond.code yX5_account cX5_account 2 (some .int), Cond.fieldLink RX5 33 "PickSlots" "now" "LPickSlots$Warehouse;", Cond.methodLink RX5 109 yX4_numberOfAccount, Cond.instanceMethod yX4_numberOfAccount, Cond.selects RX4 yX4_numberOfAccount yX4_numberOfAccount, Cond.initialized RX4, Cond.code yX4_numberOfAccount cX4_numberOfAccount 2 (some .int), Cond.fieldLink RX4 47 "PickSlots$Warehouse" "accounts" "LPickSlots$Accounts;", Cond.constant RX4 145 (100000000), Cond.methodLink RX4 138 yX4_presentSeason, Cond.instanceMethod yX4_presentSeason, Cond.selects RX4 yX4_presentSeason yX4_presentSeason, Cond.code yX4_presentSeason cX4_presentSeason 1 (some .int), Cond.fieldLink RX4 63 "PickSlots$Warehouse" "week" "I"]
def wsL_fails_r2 : List Cond := [Cond.methodLink RX4 188 yX4_weeklyWalk, Cond.instanceMethod yX4_weeklyWalk, Cond.selects RX4 yX4_weeklyWalk yX4_weeklyWalk, Cond.code yX4_weeklyWalk cX4_weeklyWalk 4 (some .int), Cond.fieldLink RX4 59 "PickSlots$Warehouse" "goods" "I", Cond.fieldLink RX4 21 "PickSlots$Warehouse" "slotOfGood" "[I", Cond.methodLink RX4 100 yX4_isPlaced, Cond.instanceMethod yX4_isPlaced, Cond.selects RX4 yX4_isPlaced yX4_isPlaced, Cond.code yX4_isPlaced cX4_isPlaced 2 (some .boolean), Cond.methodLink RX4 78 yX2_isSlot, Cond.static yX2_isSlot, Cond.initialized RX2, Cond.code yX2_isSlot cX2_isSlot 1 (some .boolean), Cond.methodLink RX4 96 yX4_demandOf, Cond.instanceMethod yX4_demandOf, Cond.selects RX4 yX4_demandOf yX4_demandOf, Cond.code yX4_demandOf cX4_demandOf 3 (some .int), Cond.fieldLink RX4 18 "PickSlots$Warehouse" "seasonDemands" "[I", Cond.methodLink RX4 111 yX2_walkTo, Cond.static yX2_walkTo, Cond.code yX2_walkTo cX2_walkTo 1 (some .int), Cond.fieldLink RX2 9 "PickSlots$Slots" "REACHES" "[I", Cond.methodLink RL 19 yX5_count]
def wsL_fails_r3 : List Cond := [Cond.instanceMethod yX5_count, Cond.selects RX5 yX5_count yX5_count, Cond.code yX5_count cX5_count 2 (some .int), Cond.fieldLink RX5 112 "PickSlots" "states" "I", Cond.fieldLink RX5 18 "PickSlots" "text" "LPickSlots$OrderText;", Cond.methodLink RX5 119 yX4_numberOfWarehouse, Cond.instanceMethod yX4_numberOfWarehouse, Cond.selects RX4 yX4_numberOfWarehouse yX4_numberOfWarehouse, Cond.code yX4_numberOfWarehouse cX4_numberOfWarehouse 2 (some .int), Cond.fieldLink RX4 24 "PickSlots$Warehouse" "unitsInSlot" "[I", Cond.fieldLink RX4 27 "PickSlots$Warehouse" "unitsInStore" "[I", Cond.fieldLink RX4 41 "PickSlots$Warehouse" "settings" "[I", Cond.methodLink RX4 191 yX4_placedGoods, Cond.instanceMethod yX4_placedGoods, Cond.selects RX4 yX4_placedGoods yX4_placedGoods, Cond.code yX4_placedGoods cX4_placedGoods 4 (some .int), Cond.methodLink RX4 164 yX4_weeksLeft, Cond.instanceMethod yX4_weeksLeft, Cond.selects RX4 yX4_weeksLeft yX4_weeksLeft, Cond.code yX4_weeksLeft cX4_weeksLeft 1 (some .int), Cond.methodLink RX4 195 yX4_sumOf, Cond.instanceMethod yX4_sumOf, Cond.selects RX4 yX4_sumOf yX4_sumOf, Cond.code yX4_sumOf cX4_sumOf 4 (some .int)]
def wsL_fails_r4 : List Cond := [Cond.methodLink RL 22 yX5_goodOf, Cond.instanceMethod yX5_goodOf, Cond.selects RX5 yX5_goodOf yX5_goodOf, Cond.code yX5_goodOf cX5_goodOf 3 (some .int), Cond.methodLink RX5 64 yX4_numberOfGood, Cond.instanceMethod yX4_numberOfGood, Cond.selects RX4 yX4_numberOfGood yX4_numberOfGood, Cond.code yX4_numberOfGood cX4_numberOfGood 3 (some .int), Cond.fieldLink RX4 9 "PickSlots$Warehouse" "weights" "[I", Cond.fieldLink RX4 15 "PickSlots$Warehouse" "capacities" "[I", Cond.fieldLink RX4 30 "PickSlots$Warehouse" "weekPicks" "[I", Cond.fieldLink RX4 33 "PickSlots$Warehouse" "unitsPicked" "[I", Cond.methodLink RX4 90 yX4_isGood, Cond.instanceMethod yX4_isGood, Cond.selects RX4 yX4_isGood yX4_isGood, Cond.code yX4_isGood cX4_isGood 2 (some .boolean), Cond.static yX5_isIn, Cond.code yX5_isIn cX5_isIn 3 (some .boolean), Cond.methodLink RX4 114 yX2_greatestHeightFor, Cond.static yX2_greatestHeightFor, Cond.code yX2_greatestHeightFor cX2_greatestHeightFor 3 (some .int), Cond.fieldLink RX2 13 "PickSlots$Slots" "HEAVIEST" "[I", Cond.methodLink RL 32 yX5_good, Cond.instanceMethod yX5_good]
def wsL_fails_r5 : List Cond := [Cond.selects RX5 yX5_good yX5_good, Cond.code yX5_good cX5_good 3 (some .int), Cond.fieldLink RX5 37 "PickSlots" "trial" "LPickSlots$Warehouse;", Cond.methodLink RX5 40 yX5_startTrial, Cond.instanceMethod yX5_startTrial, Cond.selects RX5 yX5_startTrial yX5_startTrial, Cond.code yX5_startTrial cX5_startTrial 1 none, Cond.methodLink RX5 137 yX4_copyFrom, Cond.instanceMethod yX4_copyFrom, Cond.selects RX4 yX4_copyFrom yX4_copyFrom, Cond.code yX4_copyFrom cX4_copyFrom 2 none, Cond.fieldLink RX4 38 "PickSlots$Warehouse" "goodInSlot" "[I", Cond.methodLink RX4 51 yX4_copyRow, Cond.static yX4_copyRow, Cond.code yX4_copyRow cX4_copyRow 2 none, Cond.methodLink RX4 66 Lib.Math.min.name, Cond.static Lib.Math.min.name, Cond.initialized "java/lang/Math", Cond.code Lib.Math.min.name Lib.Math.min.code 2 (some .int), Cond.methodLink RX4 72 arraycopyName, Cond.native arraycopyName, Cond.static arraycopyName, Cond.initialized "java/lang/System", Cond.methodLink RX4 55 yX0_copyFrom]
def wsL_fails_r6 : List Cond := [Cond.instanceMethod yX0_copyFrom, Cond.selects RX0 yX0_copyFrom yX0_copyFrom, Cond.initialized RX0, Cond.code yX0_copyFrom cX0_copyFrom 2 none, Cond.fieldLink RX0 7 "PickSlots$Accounts" "pickWalk" "I", Cond.fieldLink RX0 13 "PickSlots$Accounts" "refillWalk" "I", Cond.fieldLink RX0 16 "PickSlots$Accounts" "moveWalk" "I", Cond.fieldLink RX0 19 "PickSlots$Accounts" "trips" "I", Cond.fieldLink RX0 22 "PickSlots$Accounts" "saved" "I", Cond.fieldLink RX0 25 "PickSlots$Accounts" "moves" "I", Cond.fieldLink RX0 28 "PickSlots$Accounts" "picks" "I", Cond.methodLink RX5 43 yX4_addGood, Cond.instanceMethod yX4_addGood, Cond.selects RX4 yX4_addGood yX4_addGood, Cond.code yX4_addGood cX4_addGood 3 (some .int), Cond.methodLink RX5 47 yX5_endTrial, Cond.instanceMethod yX5_endTrial, Cond.selects RX5 yX5_endTrial yX5_endTrial, Cond.code yX5_endTrial cX5_endTrial 2 (some .int), Cond.methodLink RX5 141 yX5_keepTrial, Cond.instanceMethod yX5_keepTrial, Cond.selects RX5 yX5_keepTrial yX5_keepTrial, Cond.code yX5_keepTrial cX5_keepTrial 2 none, Cond.fieldLink RX5 11 "PickSlots" "history" "[LPickSlots$Warehouse;"]
def wsL_fails_r7 : List Cond := [Cond.methodLink RX5 144 yX5_dropOldestState, Cond.instanceMethod yX5_dropOldestState, Cond.selects RX5 yX5_dropOldestState yX5_dropOldestState, Cond.code yX5_dropOldestState cX5_dropOldestState 3 none, Cond.methodLink RL 35 yX5_demand, Cond.instanceMethod yX5_demand, Cond.selects RX5 yX5_demand yX5_demand, Cond.code yX5_demand cX5_demand 4 (some .int), Cond.methodLink RX5 51 yX4_changeDemand, Cond.instanceMethod yX4_changeDemand, Cond.selects RX4 yX4_changeDemand yX4_changeDemand, Cond.code yX4_changeDemand cX4_changeDemand 5 (some .int), Cond.static yX5_isSeason, Cond.code yX5_isSeason cX5_isSeason 1 (some .boolean), Cond.methodLink RL 39 yX5_deliver, Cond.instanceMethod yX5_deliver, Cond.selects RX5 yX5_deliver yX5_deliver, Cond.code yX5_deliver cX5_deliver 3 (some .int), Cond.methodLink RX5 55 yX4_addToStore, Cond.instanceMethod yX4_addToStore, Cond.selects RX4 yX4_addToStore yX4_addToStore, Cond.code yX4_addToStore cX4_addToStore 3 (some .int), Cond.constant RX4 99 (100000), Cond.methodLink RL 42 yX5_place]
def wsL_fails_r8 : List Cond := [Cond.instanceMethod yX5_place, Cond.selects RX5 yX5_place yX5_place, Cond.code yX5_place cX5_place 3 (some .int), Cond.methodLink RX5 58 yX4_putIntoSlot, Cond.instanceMethod yX4_putIntoSlot, Cond.selects RX4 yX4_putIntoSlot yX4_putIntoSlot, Cond.code yX4_putIntoSlot cX4_putIntoSlot 3 (some .int), Cond.methodLink RX4 103 yX4_bears, Cond.instanceMethod yX4_bears, Cond.selects RX4 yX4_bears yX4_bears, Cond.code yX4_bears cX4_bears 3 (some .boolean), Cond.methodLink RX4 82 yX2_heaviestAt, Cond.static yX2_heaviestAt, Cond.code yX2_heaviestAt cX2_heaviestAt 1 (some .int), Cond.methodLink RX4 107 yX4_standIn, Cond.instanceMethod yX4_standIn, Cond.selects RX4 yX4_standIn yX4_standIn, Cond.code yX4_standIn cX4_standIn 3 none, Cond.methodLink RL 45 yX5_take, Cond.instanceMethod yX5_take, Cond.selects RX5 yX5_take yX5_take, Cond.code yX5_take cX5_take 2 (some .int), Cond.methodLink RX5 61 yX4_takeOutOfSlot, Cond.instanceMethod yX4_takeOutOfSlot]
def wsL_fails_r9 : List Cond := [Cond.selects RX4 yX4_takeOutOfSlot yX4_takeOutOfSlot, Cond.code yX4_takeOutOfSlot cX4_takeOutOfSlot 3 (some .int), Cond.methodLink RL 48 yX5_slotOf, Cond.instanceMethod yX5_slotOf, Cond.selects RX5 yX5_slotOf yX5_slotOf, Cond.code yX5_slotOf cX5_slotOf 3 (some .int), Cond.methodLink RX5 67 yX4_numberOfSlot, Cond.instanceMethod yX4_numberOfSlot, Cond.selects RX4 yX4_numberOfSlot yX4_numberOfSlot, Cond.code yX4_numberOfSlot cX4_numberOfSlot 3 (some .int), Cond.methodLink RL 51 yX5_nearest, Cond.instanceMethod yX5_nearest, Cond.selects RX5 yX5_nearest yX5_nearest, Cond.code yX5_nearest cX5_nearest 2 (some .int), Cond.methodLink RX5 70 yX4_nearestFreeSlot, Cond.instanceMethod yX4_nearestFreeSlot, Cond.selects RX4 yX4_nearestFreeSlot yX4_nearestFreeSlot, Cond.code yX4_nearestFreeSlot cX4_nearestFreeSlot 5 (some .int), Cond.methodLink RL 54 yX5_pick, Cond.instanceMethod yX5_pick, Cond.selects RX5 yX5_pick yX5_pick, Cond.code yX5_pick cX5_pick 3 (some .int), Cond.methodLink RX5 73 yX4_pickUnits, Cond.instanceMethod yX4_pickUnits]
def wsL_fails_r10 : List Cond := [Cond.selects RX4 yX4_pickUnits yX4_pickUnits, Cond.code yX4_pickUnits cX4_pickUnits 6 (some .int), Cond.methodLink RX4 117 yX4_unitsToBring, Cond.instanceMethod yX4_unitsToBring, Cond.selects RX4 yX4_unitsToBring yX4_unitsToBring, Cond.code yX4_unitsToBring cX4_unitsToBring 2 (some .int), Cond.methodLink RX4 120 yX4_bring, Cond.instanceMethod yX4_bring, Cond.selects RX4 yX4_bring yX4_bring, Cond.code yX4_bring cX4_bring 5 (some .int), Cond.methodLink RX4 129 yX4_tripsFor, Cond.instanceMethod yX4_tripsFor, Cond.selects RX4 yX4_tripsFor yX4_tripsFor, Cond.code yX4_tripsFor cX4_tripsFor 3 (some .int), Cond.methodLink RL 57 yX5_refill, Cond.instanceMethod yX5_refill, Cond.selects RX5 yX5_refill yX5_refill, Cond.code yX5_refill cX5_refill 2 (some .int), Cond.methodLink RX5 76 yX4_refillSlot, Cond.instanceMethod yX4_refillSlot, Cond.selects RX4 yX4_refillSlot yX4_refillSlot, Cond.code yX4_refillSlot cX4_refillSlot 3 (some .int), Cond.methodLink RL 60 yX5_move, Cond.instanceMethod yX5_move]
def wsL_fails_r11 : List Cond := [Cond.selects RX5 yX5_move yX5_move, Cond.code yX5_move cX5_move 3 (some .int), Cond.methodLink RX5 83 yX4_moveGood, Cond.instanceMethod yX4_moveGood, Cond.selects RX4 yX4_moveGood yX4_moveGood, Cond.code yX4_moveGood cX4_moveGood 3 (some .int), Cond.methodLink RX4 142 yX4_canGo, Cond.instanceMethod yX4_canGo, Cond.selects RX4 yX4_canGo yX4_canGo, Cond.code yX4_canGo cX4_canGo 5 (some .boolean), Cond.methodLink RX4 146 yX4_goTo, Cond.instanceMethod yX4_goTo, Cond.selects RX4 yX4_goTo yX4_goTo, Cond.code yX4_goTo cX4_goTo 6 (some .int), Cond.methodLink RX4 155 yX4_savedByGoing, Cond.instanceMethod yX4_savedByGoing, Cond.selects RX4 yX4_savedByGoing yX4_savedByGoing, Cond.code yX4_savedByGoing cX4_savedByGoing 5 (some .int), Cond.methodLink RX4 149 yX4_walkOfGoing, Cond.instanceMethod yX4_walkOfGoing, Cond.selects RX4 yX4_walkOfGoing yX4_walkOfGoing, Cond.code yX4_walkOfGoing cX4_walkOfGoing 6 (some .int), Cond.methodLink RX4 161 yX2_wayBetween, Cond.static yX2_wayBetween]
def wsL_fails_r12 : List Cond := [Cond.code yX2_wayBetween cX2_wayBetween 3 (some .int), Cond.methodLink RX2 16 Lib.Math.abs.name, Cond.static Lib.Math.abs.name, Cond.code Lib.Math.abs.name Lib.Math.abs.code 1 (some .int), Cond.methodLink RL 63 yX5_exchange, Cond.instanceMethod yX5_exchange, Cond.selects RX5 yX5_exchange yX5_exchange, Cond.code yX5_exchange cX5_exchange 3 (some .int), Cond.methodLink RX5 86 yX4_exchangeGoods, Cond.instanceMethod yX4_exchangeGoods, Cond.selects RX4 yX4_exchangeGoods yX4_exchangeGoods, Cond.code yX4_exchangeGoods cX4_exchangeGoods 3 (some .int), Cond.methodLink RL 66 yX5_worth, Cond.instanceMethod yX5_worth, Cond.selects RX5 yX5_worth yX5_worth, Cond.code yX5_worth cX5_worth 4 (some .int), Cond.methodLink RX5 89 yX4_numberOfChange, Cond.instanceMethod yX4_numberOfChange, Cond.selects RX4 yX4_numberOfChange yX4_numberOfChange, Cond.code yX4_numberOfChange cX4_numberOfChange 4 (some .int), Cond.methodLink RX4 152 yX4_worthOfGoing, Cond.instanceMethod yX4_worthOfGoing, Cond.selects RX4 yX4_worthOfGoing yX4_worthOfGoing, Cond.code yX4_worthOfGoing cX4_worthOfGoing 3 (some .int)]
def wsL_fails_r13 : List Cond := [Cond.methodLink RL 69 yX5_best, Cond.instanceMethod yX5_best, Cond.selects RX5 yX5_best yX5_best, Cond.code yX5_best cX5_best 2 (some .int), Cond.methodLink RX5 92 yX4_numberOfBest, Cond.instanceMethod yX4_numberOfBest, Cond.selects RX4 yX4_numberOfBest yX4_numberOfBest, Cond.code yX4_numberOfBest cX4_numberOfBest 5 (some .int), Cond.methodLink RX4 158 yX4_bestGoing, Cond.instanceMethod yX4_bestGoing, Cond.selects RX4 yX4_bestGoing yX4_bestGoing, Cond.code yX4_bestGoing cX4_bestGoing 5 (some .int), Cond.methodLink RL 72 yX5_improve, Cond.instanceMethod yX5_improve, Cond.selects RX5 yX5_improve yX5_improve, Cond.code yX5_improve cX5_improve 2 (some .int), Cond.methodLink RX5 95 yX4_doBest, Cond.instanceMethod yX4_doBest, Cond.selects RX4 yX4_doBest yX4_doBest, Cond.code yX4_doBest cX4_doBest 4 (some .int), Cond.methodLink RL 75 yX5_weekly, Cond.instanceMethod yX5_weekly, Cond.selects RX5 yX5_weekly yX5_weekly, Cond.code yX5_weekly cX5_weekly 2 (some .int)]
def wsL_fails_r14 : List Cond := [Cond.methodLink RX5 98 yX5_isSeason, Cond.methodLink RX5 102 yX4_weeklyWalk, Cond.methodLink RL 78 yX5_atBest, Cond.instanceMethod yX5_atBest, Cond.selects RX5 yX5_atBest yX5_atBest, Cond.code yX5_atBest cX5_atBest 2 (some .int), Cond.fieldLink RX5 25 "PickSlots" "demands" "LPickSlots$SortedRow;", Cond.fieldLink RX5 29 "PickSlots" "walks" "LPickSlots$SortedRow;", Cond.methodLink RX5 105 yX4_shortestWalk, Cond.instanceMethod yX4_shortestWalk, Cond.selects RX4 yX4_shortestWalk yX4_shortestWalk, Cond.code yX4_shortestWalk cX4_shortestWalk 6 (some .int), Cond.methodLink RX4 181 yX3_insert, Cond.instanceMethod yX3_insert, Cond.selects RX3 yX3_insert yX3_insert, Cond.initialized RX3, Cond.code yX3_insert cX3_insert 3 none, Cond.fieldLink RX3 15 "PickSlots$SortedRow" "size" "I", Cond.fieldLink RX3 9 "PickSlots$SortedRow" "values" "[I", Cond.methodLink RX4 185 yX3_valueAt, Cond.instanceMethod yX3_valueAt, Cond.selects RX3 yX3_valueAt yX3_valueAt, Cond.code yX3_valueAt cX3_valueAt 2 (some .int), Cond.methodLink RL 81 yX5_set]
def wsL_fails_r15 : List Cond := [Cond.instanceMethod yX5_set, Cond.selects RX5 yX5_set yX5_set, Cond.code yX5_set cX5_set 3 (some .int), Cond.methodLink RX5 122 yX4_changeSetting, Cond.instanceMethod yX4_changeSetting, Cond.selects RX4 yX4_changeSetting yX4_changeSetting, Cond.code yX4_changeSetting cX4_changeSetting 4 (some .int), Cond.fieldLink RX4 199 "PickSlots$Warehouse" "LEAST_SETTINGS" "[I", Cond.fieldLink RX4 202 "PickSlots$Warehouse" "GREATEST_SETTINGS" "[I", Cond.methodLink RL 84 yX5_type, Cond.instanceMethod yX5_type, Cond.selects RX5 yX5_type yX5_type, Cond.code yX5_type cX5_type 2 (some .int), Cond.methodLink RX5 125 yX1_append, Cond.instanceMethod yX1_append, Cond.selects RX1 yX1_append yX1_append, Cond.initialized RX1, Cond.code yX1_append cX1_append 2 (some .int), Cond.fieldLink RX1 19 "PickSlots$OrderText" "length" "I", Cond.fieldLink RX1 9 "PickSlots$OrderText" "signs" "[C", Cond.methodLink RL 87 yX5_fault, Cond.instanceMethod yX5_fault, Cond.selects RX5 yX5_fault yX5_fault, Cond.code yX5_fault cX5_fault 2 (some .int)]
def wsL_fails_r16 : List Cond := [Cond.fieldLink RX5 131 "PickSlots" "faultReason" "I", Cond.fieldLink RX5 134 "PickSlots" "faultPosition" "I", Cond.methodLink RX5 128 yX5_tryText, Cond.instanceMethod yX5_tryText, Cond.selects RX5 yX5_tryText yX5_tryText, Cond.code yX5_tryText cX5_tryText 2 (some .int), Cond.methodLink RX5 147 yX1_startReading, Cond.instanceMethod yX1_startReading, Cond.selects RX1 yX1_startReading yX1_startReading, Cond.code yX1_startReading cX1_startReading 1 none, Cond.fieldLink RX1 23 "PickSlots$OrderText" "at" "I", Cond.methodLink RX5 150 yX1_isAtEnd, Cond.instanceMethod yX1_isAtEnd, Cond.selects RX1 yX1_isAtEnd yX1_isAtEnd, Cond.code yX1_isAtEnd cX1_isAtEnd 1 (some .boolean), Cond.methodLink RX5 157 yX1_readOrder, Cond.instanceMethod yX1_readOrder, Cond.selects RX1 yX1_readOrder yX1_readOrder, Cond.code yX1_readOrder cX1_readOrder 1 (some .boolean), Cond.fieldLink RX1 30 "PickSlots$OrderText" "kind" "I", Cond.fieldLink RX1 41 "PickSlots$OrderText" "first" "I", Cond.methodLink RX1 26 yX1_nextSign, Cond.instanceMethod yX1_nextSign, Cond.selects RX1 yX1_nextSign yX1_nextSign]
def wsL_fails_r17 : List Cond := [Cond.code yX1_nextSign cX1_nextSign 1 (some .char), Cond.methodLink RX1 33 yX1_readSign, Cond.instanceMethod yX1_readSign, Cond.selects RX1 yX1_readSign yX1_readSign, Cond.code yX1_readSign cX1_readSign 2 (some .boolean), Cond.methodLink RX1 37 yX1_readNumber, Cond.instanceMethod yX1_readNumber, Cond.selects RX1 yX1_readNumber yX1_readNumber, Cond.code yX1_readNumber cX1_readNumber 3 (some .int), Cond.methodLink RX1 51 yX1_isDigit, Cond.static yX1_isDigit, Cond.code yX1_isDigit cX1_isDigit 1 (some .boolean), Cond.methodLink RX1 44 yX1_readTwoNumbers, Cond.instanceMethod yX1_readTwoNumbers, Cond.selects RX1 yX1_readTwoNumbers yX1_readTwoNumbers, Cond.code yX1_readTwoNumbers cX1_readTwoNumbers 1 (some .boolean), Cond.fieldLink RX1 48 "PickSlots$OrderText" "second" "I", Cond.methodLink RX5 169 yX5_hasGoodsAndSlots, Cond.instanceMethod yX5_hasGoodsAndSlots, Cond.selects RX5 yX5_hasGoodsAndSlots yX5_hasGoodsAndSlots, Cond.code yX5_hasGoodsAndSlots cX5_hasGoodsAndSlots 4 (some .boolean), Cond.methodLink RX5 176 yX4_isGood, Cond.methodLink RX5 179 yX2_isSlot, Cond.methodLink RX5 173 yX5_doOrder]
def wsL_fails_r18 : List Cond := [Cond.instanceMethod yX5_doOrder, Cond.selects RX5 yX5_doOrder yX5_doOrder, Cond.code yX5_doOrder cX5_doOrder 4 (some .int), Cond.methodLink RX5 79 yX4_finishWeek, Cond.instanceMethod yX4_finishWeek, Cond.selects RX4 yX4_finishWeek yX4_finishWeek, Cond.code yX4_finishWeek cX4_finishWeek 4 (some .int)]
def wsL_fails : List Cond := .code yL_fails cL_fails 6 (some .boolean) :: ((wsL_fails_r1 ++ (wsL_fails_r2 ++ (wsL_fails_r3 ++ (wsL_fails_r4 ++ (wsL_fails_r5 ++ (wsL_fails_r6 ++ (wsL_fails_r7 ++ (wsL_fails_r8 ++ (wsL_fails_r9 ++ (wsL_fails_r10 ++ (wsL_fails_r11 ++ (wsL_fails_r12 ++ (wsL_fails_r13 ++ (wsL_fails_r14 ++ (wsL_fails_r15 ++ (wsL_fails_r16 ++ (wsL_fails_r17 ++ wsL_fails_r18))))))))))))))))) ++ wsX50 ++ wsX40 ++ wsX00 ++ wsX10 ++ wsX30)
def wsL_sound_r1 : List Cond := [Cond.methodLink RL 19 yX5_count, Cond.instanceMethod yX5_count, Cond.selects RX5 yX5_count yX5_count, Cond.initialized RX5, Cond.code yX5_count cX5_count 2 (some .int), Cond.fieldLink RX5 112 "PickSlots" "states" "I", Cond.fieldLink RX5 18 "PickSlots" "text" "LPickSlots$OrderText;", Cond.fieldLink RX5 33 "PickSlots" "now" "LPickSlots$Warehouse;", Cond.methodLink RX5 119 yX4_numberOfWarehouse, Cond.instanceMethod yX4_numberOfWarehouse, Cond.selects RX4 yX4_numberOfWarehouse yX4_numberOfWarehouse, Cond.initialized RX4, Cond.code yX4_numberOfWarehouse cX4_numberOfWarehouse 2 (some .int), Cond.fieldLink RX4 59 "PickSlots$Warehouse" "goods" "I", Cond.fieldLink RX4 63 "PickSlots$Warehouse" "week" "I", Cond.fieldLink RX4 24 "PickSlots$Warehouse" "unitsInSlot" "[I", Cond.fieldLink RX4 27 "PickSlots$Warehouse" "unitsInStore" "[I", Cond.fieldLink RX4 41 "PickSlots$Warehouse" "settings" "[I", Cond.methodLink RX4 191 yX4_placedGoods, Cond.instanceMethod yX4_placedGoods, Cond.selects RX4 yX4_placedGoods yX4_placedGoods, Cond.code yX4_placedGoods cX4_placedGoods 4 (some .int), Cond.methodLink RX4 100 yX4_isPlaced, Cond.instanceMethod yX4_isPlaced]
def wsL_sound_r2 : List Cond := [Cond.selects RX4 yX4_isPlaced yX4_isPlaced, Cond.code yX4_isPlaced cX4_isPlaced 2 (some .boolean), Cond.fieldLink RX4 21 "PickSlots$Warehouse" "slotOfGood" "[I", Cond.methodLink RX4 78 yX2_isSlot, Cond.static yX2_isSlot, Cond.initialized RX2, Cond.code yX2_isSlot cX2_isSlot 1 (some .boolean), Cond.methodLink RX4 138 yX4_presentSeason, Cond.instanceMethod yX4_presentSeason, Cond.selects RX4 yX4_presentSeason yX4_presentSeason, Cond.code yX4_presentSeason cX4_presentSeason 1 (some .int), Cond.methodLink RX4 164 yX4_weeksLeft, Cond.instanceMethod yX4_weeksLeft, Cond.selects RX4 yX4_weeksLeft yX4_weeksLeft, Cond.code yX4_weeksLeft cX4_weeksLeft 1 (some .int), Cond.methodLink RX4 195 yX4_sumOf, Cond.instanceMethod yX4_sumOf, Cond.selects RX4 yX4_sumOf yX4_sumOf, Cond.code yX4_sumOf cX4_sumOf 4 (some .int), Cond.methodLink RL 22 yX5_goodOf, Cond.instanceMethod yX5_goodOf, Cond.selects RX5 yX5_goodOf yX5_goodOf, Cond.code yX5_goodOf cX5_goodOf 3 (some .int), Cond.methodLink RX5 64 yX4_numberOfGood]
def wsL_sound_r3 : List Cond := [Cond.instanceMethod yX4_numberOfGood, Cond.selects RX4 yX4_numberOfGood yX4_numberOfGood, Cond.code yX4_numberOfGood cX4_numberOfGood 3 (some .int), Cond.fieldLink RX4 9 "PickSlots$Warehouse" "weights" "[I", Cond.fieldLink RX4 15 "PickSlots$Warehouse" "capacities" "[I", Cond.fieldLink RX4 30 "PickSlots$Warehouse" "weekPicks" "[I", Cond.fieldLink RX4 33 "PickSlots$Warehouse" "unitsPicked" "[I", Cond.methodLink RX4 90 yX4_isGood, Cond.instanceMethod yX4_isGood, Cond.selects RX4 yX4_isGood yX4_isGood, Cond.code yX4_isGood cX4_isGood 2 (some .boolean), Cond.static yX5_isIn, Cond.code yX5_isIn cX5_isIn 3 (some .boolean), Cond.methodLink RX4 114 yX2_greatestHeightFor, Cond.static yX2_greatestHeightFor, Cond.code yX2_greatestHeightFor cX2_greatestHeightFor 3 (some .int), Cond.fieldLink RX2 13 "PickSlots$Slots" "HEAVIEST" "[I", Cond.methodLink RX4 96 yX4_demandOf, Cond.instanceMethod yX4_demandOf, Cond.selects RX4 yX4_demandOf yX4_demandOf, Cond.code yX4_demandOf cX4_demandOf 3 (some .int), Cond.fieldLink RX4 18 "PickSlots$Warehouse" "seasonDemands" "[I", Cond.methodLink RL 48 yX5_slotOf, Cond.instanceMethod yX5_slotOf]
def wsL_sound_r4 : List Cond := [Cond.selects RX5 yX5_slotOf yX5_slotOf, Cond.code yX5_slotOf cX5_slotOf 3 (some .int), Cond.methodLink RX5 67 yX4_numberOfSlot, Cond.instanceMethod yX4_numberOfSlot, Cond.selects RX4 yX4_numberOfSlot yX4_numberOfSlot, Cond.code yX4_numberOfSlot cX4_numberOfSlot 3 (some .int), Cond.fieldLink RX4 38 "PickSlots$Warehouse" "goodInSlot" "[I", Cond.methodLink RX4 111 yX2_walkTo, Cond.static yX2_walkTo, Cond.code yX2_walkTo cX2_walkTo 1 (some .int), Cond.fieldLink RX2 9 "PickSlots$Slots" "REACHES" "[I", Cond.methodLink RX4 82 yX2_heaviestAt, Cond.static yX2_heaviestAt, Cond.code yX2_heaviestAt cX2_heaviestAt 1 (some .int), Cond.methodLink RL 51 yX5_nearest, Cond.instanceMethod yX5_nearest, Cond.selects RX5 yX5_nearest yX5_nearest, Cond.code yX5_nearest cX5_nearest 2 (some .int), Cond.methodLink RX5 70 yX4_nearestFreeSlot, Cond.instanceMethod yX4_nearestFreeSlot, Cond.selects RX4 yX4_nearestFreeSlot yX4_nearestFreeSlot, Cond.code yX4_nearestFreeSlot cX4_nearestFreeSlot 5 (some .int), Cond.methodLink RX4 103 yX4_bears, Cond.instanceMethod yX4_bears]
def wsL_sound_r5 : List Cond := [Cond.selects RX4 yX4_bears yX4_bears, Cond.code yX4_bears cX4_bears 3 (some .boolean), Cond.methodLink RL 78 yX5_atBest, Cond.instanceMethod yX5_atBest, Cond.selects RX5 yX5_atBest yX5_atBest, Cond.code yX5_atBest cX5_atBest 2 (some .int), Cond.fieldLink RX5 25 "PickSlots" "demands" "LPickSlots$SortedRow;", Cond.fieldLink RX5 29 "PickSlots" "walks" "LPickSlots$SortedRow;", Cond.methodLink RX5 98 yX5_isSeason, Cond.static yX5_isSeason, Cond.code yX5_isSeason cX5_isSeason 1 (some .boolean), Cond.methodLink RX5 105 yX4_shortestWalk, Cond.instanceMethod yX4_shortestWalk, Cond.selects RX4 yX4_shortestWalk yX4_shortestWalk, Cond.code yX4_shortestWalk cX4_shortestWalk 6 (some .int), Cond.methodLink RX4 181 yX3_insert, Cond.instanceMethod yX3_insert, Cond.selects RX3 yX3_insert yX3_insert, Cond.initialized RX3, Cond.code yX3_insert cX3_insert 3 none, Cond.fieldLink RX3 15 "PickSlots$SortedRow" "size" "I", Cond.fieldLink RX3 9 "PickSlots$SortedRow" "values" "[I", Cond.methodLink RX4 185 yX3_valueAt, Cond.instanceMethod yX3_valueAt]
def wsL_sound_r6 : List Cond := [Cond.selects RX3 yX3_valueAt yX3_valueAt, Cond.code yX3_valueAt cX3_valueAt 2 (some .int), Cond.methodLink RL 75 yX5_weekly, Cond.instanceMethod yX5_weekly, Cond.selects RX5 yX5_weekly yX5_weekly, Cond.code yX5_weekly cX5_weekly 2 (some .int), Cond.methodLink RX5 102 yX4_weeklyWalk, Cond.instanceMethod yX4_weeklyWalk, Cond.selects RX4 yX4_weeklyWalk yX4_weeklyWalk, Cond.code yX4_weeklyWalk cX4_weeklyWalk 4 (some .int), Cond.methodLink RL 13 yX5_account, Cond.instanceMethod yX5_account, Cond.selects RX5 yX5_account yX5_account, Cond.code yX5_account cX5_account 2 (some .int), Cond.methodLink RX5 109 yX4_numberOfAccount, Cond.instanceMethod yX4_numberOfAccount, Cond.selects RX4 yX4_numberOfAccount yX4_numberOfAccount, Cond.code yX4_numberOfAccount cX4_numberOfAccount 2 (some .int), Cond.fieldLink RX4 47 "PickSlots$Warehouse" "accounts" "LPickSlots$Accounts;", Cond.constant RX4 145 (100000000), Cond.methodLink RX4 188 yX4_weeklyWalk]
def wsL_sound : List Cond := .code yL_sound cL_sound 13 (some .boolean) :: ((wsL_sound_r1 ++ (wsL_sound_r2 ++ (wsL_sound_r3 ++ (wsL_sound_r4 ++ (wsL_sound_r5 ++ wsL_sound_r6))))) ++ wsX50 ++ wsX10 ++ wsX40 ++ wsX30 ++ wsX00)
def wsL_worths_r1 : List Cond := [Cond.constant RL 90 (100000000), Cond.methodLink RL 19 yX5_count, Cond.instanceMethod yX5_count, Cond.selects RX5 yX5_count yX5_count, Cond.initialized RX5, Cond.code yX5_count cX5_count 2 (some .int), Cond.fieldLink RX5 112 "PickSlots" "states" "I", Cond.fieldLink RX5 18 "PickSlots" "text" "LPickSlots$OrderText;", Cond.fieldLink RX5 33 "PickSlots" "now" "LPickSlots$Warehouse;", Cond.methodLink RX5 119 yX4_numberOfWarehouse, Cond.instanceMethod yX4_numberOfWarehouse, Cond.selects RX4 yX4_numberOfWarehouse yX4_numberOfWarehouse, Cond.initialized RX4, Cond.code yX4_numberOfWarehouse cX4_numberOfWarehouse 2 (some .int), Cond.fieldLink RX4 59 "PickSlots$Warehouse" "goods" "I", Cond.fieldLink RX4 63 "PickSlots$Warehouse" "week" "I", Cond.fieldLink RX4 24 "PickSlots$Warehouse" "unitsInSlot" "[I", Cond.fieldLink RX4 27 "PickSlots$Warehouse" "unitsInStore" "[I", Cond.fieldLink RX4 41 "PickSlots$Warehouse" "settings" "[I", Cond.methodLink RX4 191 yX4_placedGoods, Cond.instanceMethod yX4_placedGoods, Cond.selects RX4 yX4_placedGoods yX4_placedGoods, Cond.code yX4_placedGoods cX4_placedGoods 4 (some .int), Cond.methodLink RX4 100 yX4_isPlaced]
def wsL_worths_r2 : List Cond := [Cond.instanceMethod yX4_isPlaced, Cond.selects RX4 yX4_isPlaced yX4_isPlaced, Cond.code yX4_isPlaced cX4_isPlaced 2 (some .boolean), Cond.fieldLink RX4 21 "PickSlots$Warehouse" "slotOfGood" "[I", Cond.methodLink RX4 78 yX2_isSlot, Cond.static yX2_isSlot, Cond.initialized RX2, Cond.code yX2_isSlot cX2_isSlot 1 (some .boolean), Cond.methodLink RX4 138 yX4_presentSeason, Cond.instanceMethod yX4_presentSeason, Cond.selects RX4 yX4_presentSeason yX4_presentSeason, Cond.code yX4_presentSeason cX4_presentSeason 1 (some .int), Cond.methodLink RX4 164 yX4_weeksLeft, Cond.instanceMethod yX4_weeksLeft, Cond.selects RX4 yX4_weeksLeft yX4_weeksLeft, Cond.code yX4_weeksLeft cX4_weeksLeft 1 (some .int), Cond.methodLink RX4 195 yX4_sumOf, Cond.instanceMethod yX4_sumOf, Cond.selects RX4 yX4_sumOf yX4_sumOf, Cond.code yX4_sumOf cX4_sumOf 4 (some .int), Cond.methodLink RL 66 yX5_worth, Cond.instanceMethod yX5_worth, Cond.selects RX5 yX5_worth yX5_worth, Cond.code yX5_worth cX5_worth 4 (some .int)]
def wsL_worths_r3 : List Cond := [Cond.methodLink RX5 89 yX4_numberOfChange, Cond.instanceMethod yX4_numberOfChange, Cond.selects RX4 yX4_numberOfChange yX4_numberOfChange, Cond.code yX4_numberOfChange cX4_numberOfChange 4 (some .int), Cond.constant RX4 145 (100000000), Cond.methodLink RX4 90 yX4_isGood, Cond.instanceMethod yX4_isGood, Cond.selects RX4 yX4_isGood yX4_isGood, Cond.code yX4_isGood cX4_isGood 2 (some .boolean), Cond.static yX5_isIn, Cond.code yX5_isIn cX5_isIn 3 (some .boolean), Cond.methodLink RX4 142 yX4_canGo, Cond.instanceMethod yX4_canGo, Cond.selects RX4 yX4_canGo yX4_canGo, Cond.code yX4_canGo cX4_canGo 5 (some .boolean), Cond.fieldLink RX4 38 "PickSlots$Warehouse" "goodInSlot" "[I", Cond.methodLink RX4 103 yX4_bears, Cond.instanceMethod yX4_bears, Cond.selects RX4 yX4_bears yX4_bears, Cond.code yX4_bears cX4_bears 3 (some .boolean), Cond.fieldLink RX4 9 "PickSlots$Warehouse" "weights" "[I", Cond.methodLink RX4 82 yX2_heaviestAt, Cond.static yX2_heaviestAt, Cond.code yX2_heaviestAt cX2_heaviestAt 1 (some .int)]
def wsL_worths_r4 : List Cond := [Cond.fieldLink RX2 13 "PickSlots$Slots" "HEAVIEST" "[I", Cond.methodLink RX4 149 yX4_walkOfGoing, Cond.instanceMethod yX4_walkOfGoing, Cond.selects RX4 yX4_walkOfGoing yX4_walkOfGoing, Cond.code yX4_walkOfGoing cX4_walkOfGoing 6 (some .int), Cond.methodLink RX4 161 yX2_wayBetween, Cond.static yX2_wayBetween, Cond.code yX2_wayBetween cX2_wayBetween 3 (some .int), Cond.methodLink RX2 16 Lib.Math.abs.name, Cond.static Lib.Math.abs.name, Cond.initialized "java/lang/Math", Cond.code Lib.Math.abs.name Lib.Math.abs.code 1 (some .int), Cond.fieldLink RX2 9 "PickSlots$Slots" "REACHES" "[I", Cond.methodLink RX4 152 yX4_worthOfGoing, Cond.instanceMethod yX4_worthOfGoing, Cond.selects RX4 yX4_worthOfGoing yX4_worthOfGoing, Cond.code yX4_worthOfGoing cX4_worthOfGoing 3 (some .int), Cond.methodLink RX4 155 yX4_savedByGoing, Cond.instanceMethod yX4_savedByGoing, Cond.selects RX4 yX4_savedByGoing yX4_savedByGoing, Cond.code yX4_savedByGoing cX4_savedByGoing 5 (some .int), Cond.methodLink RX4 96 yX4_demandOf, Cond.instanceMethod yX4_demandOf, Cond.selects RX4 yX4_demandOf yX4_demandOf]
def wsL_worths_r5 : List Cond := [Cond.code yX4_demandOf cX4_demandOf 3 (some .int), Cond.fieldLink RX4 18 "PickSlots$Warehouse" "seasonDemands" "[I", Cond.methodLink RX4 111 yX2_walkTo, Cond.static yX2_walkTo, Cond.code yX2_walkTo cX2_walkTo 1 (some .int), Cond.methodLink RL 48 yX5_slotOf, Cond.instanceMethod yX5_slotOf, Cond.selects RX5 yX5_slotOf yX5_slotOf, Cond.code yX5_slotOf cX5_slotOf 3 (some .int), Cond.methodLink RX5 67 yX4_numberOfSlot, Cond.instanceMethod yX4_numberOfSlot, Cond.selects RX4 yX4_numberOfSlot yX4_numberOfSlot, Cond.code yX4_numberOfSlot cX4_numberOfSlot 3 (some .int), Cond.methodLink RL 22 yX5_goodOf, Cond.instanceMethod yX5_goodOf, Cond.selects RX5 yX5_goodOf yX5_goodOf, Cond.code yX5_goodOf cX5_goodOf 3 (some .int), Cond.methodLink RX5 64 yX4_numberOfGood, Cond.instanceMethod yX4_numberOfGood, Cond.selects RX4 yX4_numberOfGood yX4_numberOfGood, Cond.code yX4_numberOfGood cX4_numberOfGood 3 (some .int), Cond.fieldLink RX4 15 "PickSlots$Warehouse" "capacities" "[I", Cond.fieldLink RX4 30 "PickSlots$Warehouse" "weekPicks" "[I", Cond.fieldLink RX4 33 "PickSlots$Warehouse" "unitsPicked" "[I"]
def wsL_worths_r6 : List Cond := [Cond.methodLink RX4 114 yX2_greatestHeightFor, Cond.static yX2_greatestHeightFor, Cond.code yX2_greatestHeightFor cX2_greatestHeightFor 3 (some .int), Cond.methodLink RL 69 yX5_best, Cond.instanceMethod yX5_best, Cond.selects RX5 yX5_best yX5_best, Cond.code yX5_best cX5_best 2 (some .int), Cond.methodLink RX5 92 yX4_numberOfBest, Cond.instanceMethod yX4_numberOfBest, Cond.selects RX4 yX4_numberOfBest yX4_numberOfBest, Cond.code yX4_numberOfBest cX4_numberOfBest 5 (some .int), Cond.methodLink RX4 158 yX4_bestGoing, Cond.instanceMethod yX4_bestGoing, Cond.selects RX4 yX4_bestGoing yX4_bestGoing, Cond.code yX4_bestGoing cX4_bestGoing 5 (some .int)]
def wsL_worths : List Cond := .code yL_worths cL_worths 12 (some .boolean) :: ((wsL_worths_r1 ++ (wsL_worths_r2 ++ (wsL_worths_r3 ++ (wsL_worths_r4 ++ (wsL_worths_r5 ++ wsL_worths_r6))))) ++ wsX50 ++ wsX10 ++ wsX40)
def wsL_act_r1 : List Cond := [Cond.methodLink RL 19 yX5_count, Cond.instanceMethod yX5_count, Cond.selects RX5 yX5_count yX5_count, Cond.initialized RX5, Cond.code yX5_count cX5_count 2 (some .int), Cond.fieldLink RX5 112 "PickSlots" "states" "I", Cond.fieldLink RX5 18 "PickSlots" "text" "LPickSlots$OrderText;", Cond.fieldLink RX5 33 "PickSlots" "now" "LPickSlots$Warehouse;", Cond.methodLink RX5 119 yX4_numberOfWarehouse, Cond.instanceMethod yX4_numberOfWarehouse, Cond.selects RX4 yX4_numberOfWarehouse yX4_numberOfWarehouse, Cond.initialized RX4, Cond.code yX4_numberOfWarehouse cX4_numberOfWarehouse 2 (some .int), Cond.fieldLink RX4 59 "PickSlots$Warehouse" "goods" "I", Cond.fieldLink RX4 63 "PickSlots$Warehouse" "week" "I", Cond.fieldLink RX4 24 "PickSlots$Warehouse" "unitsInSlot" "[I", Cond.fieldLink RX4 27 "PickSlots$Warehouse" "unitsInStore" "[I", Cond.fieldLink RX4 41 "PickSlots$Warehouse" "settings" "[I", Cond.methodLink RX4 191 yX4_placedGoods, Cond.instanceMethod yX4_placedGoods, Cond.selects RX4 yX4_placedGoods yX4_placedGoods, Cond.code yX4_placedGoods cX4_placedGoods 4 (some .int), Cond.methodLink RX4 100 yX4_isPlaced, Cond.instanceMethod yX4_isPlaced]
def wsL_act_r2 : List Cond := [Cond.selects RX4 yX4_isPlaced yX4_isPlaced, Cond.code yX4_isPlaced cX4_isPlaced 2 (some .boolean), Cond.fieldLink RX4 21 "PickSlots$Warehouse" "slotOfGood" "[I", Cond.methodLink RX4 78 yX2_isSlot, Cond.static yX2_isSlot, Cond.initialized RX2, Cond.code yX2_isSlot cX2_isSlot 1 (some .boolean), Cond.methodLink RX4 138 yX4_presentSeason, Cond.instanceMethod yX4_presentSeason, Cond.selects RX4 yX4_presentSeason yX4_presentSeason, Cond.code yX4_presentSeason cX4_presentSeason 1 (some .int), Cond.methodLink RX4 164 yX4_weeksLeft, Cond.instanceMethod yX4_weeksLeft, Cond.selects RX4 yX4_weeksLeft yX4_weeksLeft, Cond.code yX4_weeksLeft cX4_weeksLeft 1 (some .int), Cond.methodLink RX4 195 yX4_sumOf, Cond.instanceMethod yX4_sumOf, Cond.selects RX4 yX4_sumOf yX4_sumOf, Cond.code yX4_sumOf cX4_sumOf 4 (some .int), Cond.methodLink RL 91 yL_up, Cond.static yL_up, Cond.initialized RL, Cond.code yL_up cL_up 2 (some .int), Cond.constant RL 8 (2147483647)]
def wsL_act_r3 : List Cond := [Cond.methodLink RL 54 yX5_pick, Cond.instanceMethod yX5_pick, Cond.selects RX5 yX5_pick yX5_pick, Cond.code yX5_pick cX5_pick 3 (some .int), Cond.fieldLink RX5 37 "PickSlots" "trial" "LPickSlots$Warehouse;", Cond.methodLink RX5 40 yX5_startTrial, Cond.instanceMethod yX5_startTrial, Cond.selects RX5 yX5_startTrial yX5_startTrial, Cond.code yX5_startTrial cX5_startTrial 1 none, Cond.methodLink RX5 137 yX4_copyFrom, Cond.instanceMethod yX4_copyFrom, Cond.selects RX4 yX4_copyFrom yX4_copyFrom, Cond.code yX4_copyFrom cX4_copyFrom 2 none, Cond.fieldLink RX4 9 "PickSlots$Warehouse" "weights" "[I", Cond.fieldLink RX4 15 "PickSlots$Warehouse" "capacities" "[I", Cond.fieldLink RX4 18 "PickSlots$Warehouse" "seasonDemands" "[I", Cond.fieldLink RX4 30 "PickSlots$Warehouse" "weekPicks" "[I", Cond.fieldLink RX4 33 "PickSlots$Warehouse" "unitsPicked" "[I", Cond.fieldLink RX4 38 "PickSlots$Warehouse" "goodInSlot" "[I", Cond.fieldLink RX4 47 "PickSlots$Warehouse" "accounts" "LPickSlots$Accounts;", Cond.methodLink RX4 51 yX4_copyRow, Cond.static yX4_copyRow, Cond.code yX4_copyRow cX4_copyRow 2 none, Cond.methodLink RX4 66 Lib.Math.min.name]
def wsL_act_r4 : List Cond := [Cond.static Lib.Math.min.name, Cond.initialized "java/lang/Math", Cond.code Lib.Math.min.name Lib.Math.min.code 2 (some .int), Cond.methodLink RX4 72 arraycopyName, Cond.native arraycopyName, Cond.static arraycopyName, Cond.initialized "java/lang/System", Cond.methodLink RX4 55 yX0_copyFrom, Cond.instanceMethod yX0_copyFrom, Cond.selects RX0 yX0_copyFrom yX0_copyFrom, Cond.initialized RX0, Cond.code yX0_copyFrom cX0_copyFrom 2 none, Cond.fieldLink RX0 7 "PickSlots$Accounts" "pickWalk" "I", Cond.fieldLink RX0 13 "PickSlots$Accounts" "refillWalk" "I", Cond.fieldLink RX0 16 "PickSlots$Accounts" "moveWalk" "I", Cond.fieldLink RX0 19 "PickSlots$Accounts" "trips" "I", Cond.fieldLink RX0 22 "PickSlots$Accounts" "saved" "I", Cond.fieldLink RX0 25 "PickSlots$Accounts" "moves" "I", Cond.fieldLink RX0 28 "PickSlots$Accounts" "picks" "I", Cond.methodLink RX5 73 yX4_pickUnits, Cond.instanceMethod yX4_pickUnits, Cond.selects RX4 yX4_pickUnits yX4_pickUnits, Cond.code yX4_pickUnits cX4_pickUnits 6 (some .int), Cond.methodLink RX4 90 yX4_isGood]
def wsL_act_r5 : List Cond := [Cond.instanceMethod yX4_isGood, Cond.selects RX4 yX4_isGood yX4_isGood, Cond.code yX4_isGood cX4_isGood 2 (some .boolean), Cond.static yX5_isIn, Cond.code yX5_isIn cX5_isIn 3 (some .boolean), Cond.methodLink RX4 117 yX4_unitsToBring, Cond.instanceMethod yX4_unitsToBring, Cond.selects RX4 yX4_unitsToBring yX4_unitsToBring, Cond.code yX4_unitsToBring cX4_unitsToBring 2 (some .int), Cond.methodLink RX4 120 yX4_bring, Cond.instanceMethod yX4_bring, Cond.selects RX4 yX4_bring yX4_bring, Cond.code yX4_bring cX4_bring 5 (some .int), Cond.methodLink RX4 129 yX4_tripsFor, Cond.instanceMethod yX4_tripsFor, Cond.selects RX4 yX4_tripsFor yX4_tripsFor, Cond.code yX4_tripsFor cX4_tripsFor 3 (some .int), Cond.methodLink RX4 111 yX2_walkTo, Cond.static yX2_walkTo, Cond.code yX2_walkTo cX2_walkTo 1 (some .int), Cond.fieldLink RX2 9 "PickSlots$Slots" "REACHES" "[I", Cond.methodLink RX5 47 yX5_endTrial, Cond.instanceMethod yX5_endTrial, Cond.selects RX5 yX5_endTrial yX5_endTrial]
def wsL_act_r6 : List Cond := [Cond.code yX5_endTrial cX5_endTrial 2 (some .int), Cond.methodLink RX5 141 yX5_keepTrial, Cond.instanceMethod yX5_keepTrial, Cond.selects RX5 yX5_keepTrial yX5_keepTrial, Cond.code yX5_keepTrial cX5_keepTrial 2 none, Cond.fieldLink RX5 11 "PickSlots" "history" "[LPickSlots$Warehouse;", Cond.methodLink RX5 144 yX5_dropOldestState, Cond.instanceMethod yX5_dropOldestState, Cond.selects RX5 yX5_dropOldestState yX5_dropOldestState, Cond.code yX5_dropOldestState cX5_dropOldestState 3 none, Cond.methodLink RL 57 yX5_refill, Cond.instanceMethod yX5_refill, Cond.selects RX5 yX5_refill yX5_refill, Cond.code yX5_refill cX5_refill 2 (some .int), Cond.methodLink RX5 76 yX4_refillSlot, Cond.instanceMethod yX4_refillSlot, Cond.selects RX4 yX4_refillSlot yX4_refillSlot, Cond.code yX4_refillSlot cX4_refillSlot 3 (some .int), Cond.methodLink RL 94 yX5_endWeek, Cond.instanceMethod yX5_endWeek, Cond.selects RX5 yX5_endWeek yX5_endWeek, Cond.code yX5_endWeek cX5_endWeek 1 (some .int), Cond.methodLink RX5 79 yX4_finishWeek, Cond.instanceMethod yX4_finishWeek]
def wsL_act_r7 : List Cond := [Cond.selects RX4 yX4_finishWeek yX4_finishWeek, Cond.code yX4_finishWeek cX4_finishWeek 4 (some .int), Cond.methodLink RX4 96 yX4_demandOf, Cond.instanceMethod yX4_demandOf, Cond.selects RX4 yX4_demandOf yX4_demandOf, Cond.code yX4_demandOf cX4_demandOf 3 (some .int), Cond.methodLink RL 60 yX5_move, Cond.instanceMethod yX5_move, Cond.selects RX5 yX5_move yX5_move, Cond.code yX5_move cX5_move 3 (some .int), Cond.methodLink RX5 83 yX4_moveGood, Cond.instanceMethod yX4_moveGood, Cond.selects RX4 yX4_moveGood yX4_moveGood, Cond.code yX4_moveGood cX4_moveGood 3 (some .int), Cond.constant RX4 145 (100000000), Cond.methodLink RX4 142 yX4_canGo, Cond.instanceMethod yX4_canGo, Cond.selects RX4 yX4_canGo yX4_canGo, Cond.code yX4_canGo cX4_canGo 5 (some .boolean), Cond.methodLink RX4 103 yX4_bears, Cond.instanceMethod yX4_bears, Cond.selects RX4 yX4_bears yX4_bears, Cond.code yX4_bears cX4_bears 3 (some .boolean), Cond.methodLink RX4 82 yX2_heaviestAt]
def wsL_act_r8 : List Cond := [Cond.static yX2_heaviestAt, Cond.code yX2_heaviestAt cX2_heaviestAt 1 (some .int), Cond.fieldLink RX2 13 "PickSlots$Slots" "HEAVIEST" "[I", Cond.methodLink RX4 146 yX4_goTo, Cond.instanceMethod yX4_goTo, Cond.selects RX4 yX4_goTo yX4_goTo, Cond.code yX4_goTo cX4_goTo 6 (some .int), Cond.methodLink RX4 155 yX4_savedByGoing, Cond.instanceMethod yX4_savedByGoing, Cond.selects RX4 yX4_savedByGoing yX4_savedByGoing, Cond.code yX4_savedByGoing cX4_savedByGoing 5 (some .int), Cond.methodLink RX4 149 yX4_walkOfGoing, Cond.instanceMethod yX4_walkOfGoing, Cond.selects RX4 yX4_walkOfGoing yX4_walkOfGoing, Cond.code yX4_walkOfGoing cX4_walkOfGoing 6 (some .int), Cond.methodLink RX4 161 yX2_wayBetween, Cond.static yX2_wayBetween, Cond.code yX2_wayBetween cX2_wayBetween 3 (some .int), Cond.methodLink RX2 16 Lib.Math.abs.name, Cond.static Lib.Math.abs.name, Cond.code Lib.Math.abs.name Lib.Math.abs.code 1 (some .int), Cond.methodLink RX4 107 yX4_standIn, Cond.instanceMethod yX4_standIn, Cond.selects RX4 yX4_standIn yX4_standIn]
def wsL_act_r9 : List Cond := [Cond.code yX4_standIn cX4_standIn 3 none, Cond.methodLink RL 63 yX5_exchange, Cond.instanceMethod yX5_exchange, Cond.selects RX5 yX5_exchange yX5_exchange, Cond.code yX5_exchange cX5_exchange 3 (some .int), Cond.methodLink RX5 86 yX4_exchangeGoods, Cond.instanceMethod yX4_exchangeGoods, Cond.selects RX4 yX4_exchangeGoods yX4_exchangeGoods, Cond.code yX4_exchangeGoods cX4_exchangeGoods 3 (some .int), Cond.methodLink RL 72 yX5_improve, Cond.instanceMethod yX5_improve, Cond.selects RX5 yX5_improve yX5_improve, Cond.code yX5_improve cX5_improve 2 (some .int), Cond.methodLink RX5 95 yX4_doBest, Cond.instanceMethod yX4_doBest, Cond.selects RX4 yX4_doBest yX4_doBest, Cond.code yX4_doBest cX4_doBest 4 (some .int), Cond.methodLink RX4 158 yX4_bestGoing, Cond.instanceMethod yX4_bestGoing, Cond.selects RX4 yX4_bestGoing yX4_bestGoing, Cond.code yX4_bestGoing cX4_bestGoing 5 (some .int), Cond.methodLink RX4 152 yX4_worthOfGoing, Cond.instanceMethod yX4_worthOfGoing, Cond.selects RX4 yX4_worthOfGoing yX4_worthOfGoing]
def wsL_act_r10 : List Cond := [Cond.code yX4_worthOfGoing cX4_worthOfGoing 3 (some .int), Cond.methodLink RL 45 yX5_take, Cond.instanceMethod yX5_take, Cond.selects RX5 yX5_take yX5_take, Cond.code yX5_take cX5_take 2 (some .int), Cond.methodLink RX5 61 yX4_takeOutOfSlot, Cond.instanceMethod yX4_takeOutOfSlot, Cond.selects RX4 yX4_takeOutOfSlot yX4_takeOutOfSlot, Cond.code yX4_takeOutOfSlot cX4_takeOutOfSlot 3 (some .int), Cond.methodLink RL 35 yX5_demand, Cond.instanceMethod yX5_demand, Cond.selects RX5 yX5_demand yX5_demand, Cond.code yX5_demand cX5_demand 4 (some .int), Cond.methodLink RX5 51 yX4_changeDemand, Cond.instanceMethod yX4_changeDemand, Cond.selects RX4 yX4_changeDemand yX4_changeDemand, Cond.code yX4_changeDemand cX4_changeDemand 5 (some .int), Cond.static yX5_isSeason, Cond.code yX5_isSeason cX5_isSeason 1 (some .boolean), Cond.methodLink RL 81 yX5_set, Cond.instanceMethod yX5_set, Cond.selects RX5 yX5_set yX5_set, Cond.code yX5_set cX5_set 3 (some .int), Cond.methodLink RX5 122 yX4_changeSetting]
def wsL_act_r11 : List Cond := [Cond.instanceMethod yX4_changeSetting, Cond.selects RX4 yX4_changeSetting yX4_changeSetting, Cond.code yX4_changeSetting cX4_changeSetting 4 (some .int), Cond.fieldLink RX4 199 "PickSlots$Warehouse" "LEAST_SETTINGS" "[I", Cond.fieldLink RX4 202 "PickSlots$Warehouse" "GREATEST_SETTINGS" "[I", Cond.methodLink RL 42 yX5_place, Cond.instanceMethod yX5_place, Cond.selects RX5 yX5_place yX5_place, Cond.code yX5_place cX5_place 3 (some .int), Cond.methodLink RX5 58 yX4_putIntoSlot, Cond.instanceMethod yX4_putIntoSlot, Cond.selects RX4 yX4_putIntoSlot yX4_putIntoSlot, Cond.code yX4_putIntoSlot cX4_putIntoSlot 3 (some .int), Cond.methodLink RL 39 yX5_deliver, Cond.instanceMethod yX5_deliver, Cond.selects RX5 yX5_deliver yX5_deliver, Cond.code yX5_deliver cX5_deliver 3 (some .int), Cond.methodLink RX5 55 yX4_addToStore, Cond.instanceMethod yX4_addToStore, Cond.selects RX4 yX4_addToStore yX4_addToStore, Cond.code yX4_addToStore cX4_addToStore 3 (some .int), Cond.constant RX4 99 (100000)]
def wsL_act : List Cond := .code yL_act cL_act 8 (some .int) :: ((wsL_act_r1 ++ (wsL_act_r2 ++ (wsL_act_r3 ++ (wsL_act_r4 ++ (wsL_act_r5 ++ (wsL_act_r6 ++ (wsL_act_r7 ++ (wsL_act_r8 ++ (wsL_act_r9 ++ (wsL_act_r10 ++ wsL_act_r11)))))))))) ++ wsX50 ++ wsX10 ++ wsX40 ++ wsX00)
def wsL_acts_r1 : List Cond := [Cond.constant RL 90 (100000000), Cond.methodLink RL 19 yX5_count, Cond.instanceMethod yX5_count, Cond.selects RX5 yX5_count yX5_count, Cond.initialized RX5, Cond.code yX5_count cX5_count 2 (some .int), Cond.fieldLink RX5 112 "PickSlots" "states" "I", Cond.fieldLink RX5 18 "PickSlots" "text" "LPickSlots$OrderText;", Cond.fieldLink RX5 33 "PickSlots" "now" "LPickSlots$Warehouse;", Cond.methodLink RX5 119 yX4_numberOfWarehouse, Cond.instanceMethod yX4_numberOfWarehouse, Cond.selects RX4 yX4_numberOfWarehouse yX4_numberOfWarehouse, Cond.initialized RX4, Cond.code yX4_numberOfWarehouse cX4_numberOfWarehouse 2 (some .int), Cond.fieldLink RX4 59 "PickSlots$Warehouse" "goods" "I", Cond.fieldLink RX4 63 "PickSlots$Warehouse" "week" "I", Cond.fieldLink RX4 24 "PickSlots$Warehouse" "unitsInSlot" "[I", Cond.fieldLink RX4 27 "PickSlots$Warehouse" "unitsInStore" "[I", Cond.fieldLink RX4 41 "PickSlots$Warehouse" "settings" "[I", Cond.methodLink RX4 191 yX4_placedGoods, Cond.instanceMethod yX4_placedGoods, Cond.selects RX4 yX4_placedGoods yX4_placedGoods, Cond.code yX4_placedGoods cX4_placedGoods 4 (some .int), Cond.methodLink RX4 100 yX4_isPlaced]
def wsL_acts_r2 : List Cond := [Cond.instanceMethod yX4_isPlaced, Cond.selects RX4 yX4_isPlaced yX4_isPlaced, Cond.code yX4_isPlaced cX4_isPlaced 2 (some .boolean), Cond.fieldLink RX4 21 "PickSlots$Warehouse" "slotOfGood" "[I", Cond.methodLink RX4 78 yX2_isSlot, Cond.static yX2_isSlot, Cond.initialized RX2, Cond.code yX2_isSlot cX2_isSlot 1 (some .boolean), Cond.methodLink RX4 138 yX4_presentSeason, Cond.instanceMethod yX4_presentSeason, Cond.selects RX4 yX4_presentSeason yX4_presentSeason, Cond.code yX4_presentSeason cX4_presentSeason 1 (some .int), Cond.methodLink RX4 164 yX4_weeksLeft, Cond.instanceMethod yX4_weeksLeft, Cond.selects RX4 yX4_weeksLeft yX4_weeksLeft, Cond.code yX4_weeksLeft cX4_weeksLeft 1 (some .int), Cond.methodLink RX4 195 yX4_sumOf, Cond.instanceMethod yX4_sumOf, Cond.selects RX4 yX4_sumOf yX4_sumOf, Cond.code yX4_sumOf cX4_sumOf 4 (some .int), Cond.methodLink RL 26 yL_mark, Cond.static yL_mark, Cond.initialized RL, Cond.code yL_mark cL_mark 5 (some .long)]
def wsL_acts_r3 : List Cond := [Cond.constantLong RL 9 (17), Cond.constantLong RL 11 (31), Cond.methodLink RL 13 yX5_account, Cond.instanceMethod yX5_account, Cond.selects RX5 yX5_account yX5_account, Cond.code yX5_account cX5_account 2 (some .int), Cond.methodLink RX5 109 yX4_numberOfAccount, Cond.instanceMethod yX4_numberOfAccount, Cond.selects RX4 yX4_numberOfAccount yX4_numberOfAccount, Cond.code yX4_numberOfAccount cX4_numberOfAccount 2 (some .int), Cond.fieldLink RX4 47 "PickSlots$Warehouse" "accounts" "LPickSlots$Accounts;", Cond.constant RX4 145 (100000000), Cond.methodLink RX4 188 yX4_weeklyWalk, Cond.instanceMethod yX4_weeklyWalk, Cond.selects RX4 yX4_weeklyWalk yX4_weeklyWalk, Cond.code yX4_weeklyWalk cX4_weeklyWalk 4 (some .int), Cond.methodLink RX4 96 yX4_demandOf, Cond.instanceMethod yX4_demandOf, Cond.selects RX4 yX4_demandOf yX4_demandOf, Cond.code yX4_demandOf cX4_demandOf 3 (some .int), Cond.fieldLink RX4 18 "PickSlots$Warehouse" "seasonDemands" "[I", Cond.methodLink RX4 111 yX2_walkTo, Cond.static yX2_walkTo, Cond.code yX2_walkTo cX2_walkTo 1 (some .int)]
def wsL_acts_r4 : List Cond := [Cond.fieldLink RX2 9 "PickSlots$Slots" "REACHES" "[I", Cond.methodLink RL 22 yX5_goodOf, Cond.instanceMethod yX5_goodOf, Cond.selects RX5 yX5_goodOf yX5_goodOf, Cond.code yX5_goodOf cX5_goodOf 3 (some .int), Cond.methodLink RX5 64 yX4_numberOfGood, Cond.instanceMethod yX4_numberOfGood, Cond.selects RX4 yX4_numberOfGood yX4_numberOfGood, Cond.code yX4_numberOfGood cX4_numberOfGood 3 (some .int), Cond.fieldLink RX4 9 "PickSlots$Warehouse" "weights" "[I", Cond.fieldLink RX4 15 "PickSlots$Warehouse" "capacities" "[I", Cond.fieldLink RX4 30 "PickSlots$Warehouse" "weekPicks" "[I", Cond.fieldLink RX4 33 "PickSlots$Warehouse" "unitsPicked" "[I", Cond.methodLink RX4 90 yX4_isGood, Cond.instanceMethod yX4_isGood, Cond.selects RX4 yX4_isGood yX4_isGood, Cond.code yX4_isGood cX4_isGood 2 (some .boolean), Cond.static yX5_isIn, Cond.code yX5_isIn cX5_isIn 3 (some .boolean), Cond.methodLink RX4 114 yX2_greatestHeightFor, Cond.static yX2_greatestHeightFor, Cond.code yX2_greatestHeightFor cX2_greatestHeightFor 3 (some .int), Cond.fieldLink RX2 13 "PickSlots$Slots" "HEAVIEST" "[I", Cond.methodLink RL 75 yX5_weekly]
def wsL_acts_r5 : List Cond := [Cond.instanceMethod yX5_weekly, Cond.selects RX5 yX5_weekly yX5_weekly, Cond.code yX5_weekly cX5_weekly 2 (some .int), Cond.methodLink RX5 98 yX5_isSeason, Cond.static yX5_isSeason, Cond.code yX5_isSeason cX5_isSeason 1 (some .boolean), Cond.methodLink RX5 102 yX4_weeklyWalk, Cond.methodLink RL 91 yL_up, Cond.static yL_up, Cond.code yL_up cL_up 2 (some .int), Cond.constant RL 8 (2147483647), Cond.methodLink RL 98 yL_act, Cond.static yL_act, Cond.code yL_act cL_act 8 (some .int), Cond.methodLink RL 54 yX5_pick, Cond.instanceMethod yX5_pick, Cond.selects RX5 yX5_pick yX5_pick, Cond.code yX5_pick cX5_pick 3 (some .int), Cond.fieldLink RX5 37 "PickSlots" "trial" "LPickSlots$Warehouse;", Cond.methodLink RX5 40 yX5_startTrial, Cond.instanceMethod yX5_startTrial, Cond.selects RX5 yX5_startTrial yX5_startTrial, Cond.code yX5_startTrial cX5_startTrial 1 none, Cond.methodLink RX5 137 yX4_copyFrom]
def wsL_acts_r6 : List Cond := [Cond.instanceMethod yX4_copyFrom, Cond.selects RX4 yX4_copyFrom yX4_copyFrom, Cond.code yX4_copyFrom cX4_copyFrom 2 none, Cond.fieldLink RX4 38 "PickSlots$Warehouse" "goodInSlot" "[I", Cond.methodLink RX4 51 yX4_copyRow, Cond.static yX4_copyRow, Cond.code yX4_copyRow cX4_copyRow 2 none, Cond.methodLink RX4 66 Lib.Math.min.name, Cond.static Lib.Math.min.name, Cond.initialized "java/lang/Math", Cond.code Lib.Math.min.name Lib.Math.min.code 2 (some .int), Cond.methodLink RX4 72 arraycopyName, Cond.native arraycopyName, Cond.static arraycopyName, Cond.initialized "java/lang/System", Cond.methodLink RX4 55 yX0_copyFrom, Cond.instanceMethod yX0_copyFrom, Cond.selects RX0 yX0_copyFrom yX0_copyFrom, Cond.initialized RX0, Cond.code yX0_copyFrom cX0_copyFrom 2 none, Cond.fieldLink RX0 7 "PickSlots$Accounts" "pickWalk" "I", Cond.fieldLink RX0 13 "PickSlots$Accounts" "refillWalk" "I", Cond.fieldLink RX0 16 "PickSlots$Accounts" "moveWalk" "I", Cond.fieldLink RX0 19 "PickSlots$Accounts" "trips" "I"]
def wsL_acts_r7 : List Cond := [Cond.fieldLink RX0 22 "PickSlots$Accounts" "saved" "I", Cond.fieldLink RX0 25 "PickSlots$Accounts" "moves" "I", Cond.fieldLink RX0 28 "PickSlots$Accounts" "picks" "I", Cond.methodLink RX5 73 yX4_pickUnits, Cond.instanceMethod yX4_pickUnits, Cond.selects RX4 yX4_pickUnits yX4_pickUnits, Cond.code yX4_pickUnits cX4_pickUnits 6 (some .int), Cond.methodLink RX4 117 yX4_unitsToBring, Cond.instanceMethod yX4_unitsToBring, Cond.selects RX4 yX4_unitsToBring yX4_unitsToBring, Cond.code yX4_unitsToBring cX4_unitsToBring 2 (some .int), Cond.methodLink RX4 120 yX4_bring, Cond.instanceMethod yX4_bring, Cond.selects RX4 yX4_bring yX4_bring, Cond.code yX4_bring cX4_bring 5 (some .int), Cond.methodLink RX4 129 yX4_tripsFor, Cond.instanceMethod yX4_tripsFor, Cond.selects RX4 yX4_tripsFor yX4_tripsFor, Cond.code yX4_tripsFor cX4_tripsFor 3 (some .int), Cond.methodLink RX5 47 yX5_endTrial, Cond.instanceMethod yX5_endTrial, Cond.selects RX5 yX5_endTrial yX5_endTrial, Cond.code yX5_endTrial cX5_endTrial 2 (some .int), Cond.methodLink RX5 141 yX5_keepTrial]
def wsL_acts_r8 : List Cond := [Cond.instanceMethod yX5_keepTrial, Cond.selects RX5 yX5_keepTrial yX5_keepTrial, Cond.code yX5_keepTrial cX5_keepTrial 2 none, Cond.fieldLink RX5 11 "PickSlots" "history" "[LPickSlots$Warehouse;", Cond.methodLink RX5 144 yX5_dropOldestState, Cond.instanceMethod yX5_dropOldestState, Cond.selects RX5 yX5_dropOldestState yX5_dropOldestState, Cond.code yX5_dropOldestState cX5_dropOldestState 3 none, Cond.methodLink RL 57 yX5_refill, Cond.instanceMethod yX5_refill, Cond.selects RX5 yX5_refill yX5_refill, Cond.code yX5_refill cX5_refill 2 (some .int), Cond.methodLink RX5 76 yX4_refillSlot, Cond.instanceMethod yX4_refillSlot, Cond.selects RX4 yX4_refillSlot yX4_refillSlot, Cond.code yX4_refillSlot cX4_refillSlot 3 (some .int), Cond.methodLink RL 94 yX5_endWeek, Cond.instanceMethod yX5_endWeek, Cond.selects RX5 yX5_endWeek yX5_endWeek, Cond.code yX5_endWeek cX5_endWeek 1 (some .int), Cond.methodLink RX5 79 yX4_finishWeek, Cond.instanceMethod yX4_finishWeek, Cond.selects RX4 yX4_finishWeek yX4_finishWeek, Cond.code yX4_finishWeek cX4_finishWeek 4 (some .int)]
def wsL_acts_r9 : List Cond := [Cond.methodLink RL 60 yX5_move, Cond.instanceMethod yX5_move, Cond.selects RX5 yX5_move yX5_move, Cond.code yX5_move cX5_move 3 (some .int), Cond.methodLink RX5 83 yX4_moveGood, Cond.instanceMethod yX4_moveGood, Cond.selects RX4 yX4_moveGood yX4_moveGood, Cond.code yX4_moveGood cX4_moveGood 3 (some .int), Cond.methodLink RX4 142 yX4_canGo, Cond.instanceMethod yX4_canGo, Cond.selects RX4 yX4_canGo yX4_canGo, Cond.code yX4_canGo cX4_canGo 5 (some .boolean), Cond.methodLink RX4 103 yX4_bears, Cond.instanceMethod yX4_bears, Cond.selects RX4 yX4_bears yX4_bears, Cond.code yX4_bears cX4_bears 3 (some .boolean), Cond.methodLink RX4 82 yX2_heaviestAt, Cond.static yX2_heaviestAt, Cond.code yX2_heaviestAt cX2_heaviestAt 1 (some .int), Cond.methodLink RX4 146 yX4_goTo, Cond.instanceMethod yX4_goTo, Cond.selects RX4 yX4_goTo yX4_goTo, Cond.code yX4_goTo cX4_goTo 6 (some .int), Cond.methodLink RX4 155 yX4_savedByGoing]
def wsL_acts_r10 : List Cond := [Cond.instanceMethod yX4_savedByGoing, Cond.selects RX4 yX4_savedByGoing yX4_savedByGoing, Cond.code yX4_savedByGoing cX4_savedByGoing 5 (some .int), Cond.methodLink RX4 149 yX4_walkOfGoing, Cond.instanceMethod yX4_walkOfGoing, Cond.selects RX4 yX4_walkOfGoing yX4_walkOfGoing, Cond.code yX4_walkOfGoing cX4_walkOfGoing 6 (some .int), Cond.methodLink RX4 161 yX2_wayBetween, Cond.static yX2_wayBetween, Cond.code yX2_wayBetween cX2_wayBetween 3 (some .int), Cond.methodLink RX2 16 Lib.Math.abs.name, Cond.static Lib.Math.abs.name, Cond.code Lib.Math.abs.name Lib.Math.abs.code 1 (some .int), Cond.methodLink RX4 107 yX4_standIn, Cond.instanceMethod yX4_standIn, Cond.selects RX4 yX4_standIn yX4_standIn, Cond.code yX4_standIn cX4_standIn 3 none, Cond.methodLink RL 63 yX5_exchange, Cond.instanceMethod yX5_exchange, Cond.selects RX5 yX5_exchange yX5_exchange, Cond.code yX5_exchange cX5_exchange 3 (some .int), Cond.methodLink RX5 86 yX4_exchangeGoods, Cond.instanceMethod yX4_exchangeGoods, Cond.selects RX4 yX4_exchangeGoods yX4_exchangeGoods]
def wsL_acts_r11 : List Cond := [Cond.code yX4_exchangeGoods cX4_exchangeGoods 3 (some .int), Cond.methodLink RL 72 yX5_improve, Cond.instanceMethod yX5_improve, Cond.selects RX5 yX5_improve yX5_improve, Cond.code yX5_improve cX5_improve 2 (some .int), Cond.methodLink RX5 95 yX4_doBest, Cond.instanceMethod yX4_doBest, Cond.selects RX4 yX4_doBest yX4_doBest, Cond.code yX4_doBest cX4_doBest 4 (some .int), Cond.methodLink RX4 158 yX4_bestGoing, Cond.instanceMethod yX4_bestGoing, Cond.selects RX4 yX4_bestGoing yX4_bestGoing, Cond.code yX4_bestGoing cX4_bestGoing 5 (some .int), Cond.methodLink RX4 152 yX4_worthOfGoing, Cond.instanceMethod yX4_worthOfGoing, Cond.selects RX4 yX4_worthOfGoing yX4_worthOfGoing, Cond.code yX4_worthOfGoing cX4_worthOfGoing 3 (some .int), Cond.methodLink RL 45 yX5_take, Cond.instanceMethod yX5_take, Cond.selects RX5 yX5_take yX5_take, Cond.code yX5_take cX5_take 2 (some .int), Cond.methodLink RX5 61 yX4_takeOutOfSlot, Cond.instanceMethod yX4_takeOutOfSlot, Cond.selects RX4 yX4_takeOutOfSlot yX4_takeOutOfSlot]
def wsL_acts_r12 : List Cond := [Cond.code yX4_takeOutOfSlot cX4_takeOutOfSlot 3 (some .int), Cond.methodLink RL 35 yX5_demand, Cond.instanceMethod yX5_demand, Cond.selects RX5 yX5_demand yX5_demand, Cond.code yX5_demand cX5_demand 4 (some .int), Cond.methodLink RX5 51 yX4_changeDemand, Cond.instanceMethod yX4_changeDemand, Cond.selects RX4 yX4_changeDemand yX4_changeDemand, Cond.code yX4_changeDemand cX4_changeDemand 5 (some .int), Cond.methodLink RL 81 yX5_set, Cond.instanceMethod yX5_set, Cond.selects RX5 yX5_set yX5_set, Cond.code yX5_set cX5_set 3 (some .int), Cond.methodLink RX5 122 yX4_changeSetting, Cond.instanceMethod yX4_changeSetting, Cond.selects RX4 yX4_changeSetting yX4_changeSetting, Cond.code yX4_changeSetting cX4_changeSetting 4 (some .int), Cond.fieldLink RX4 199 "PickSlots$Warehouse" "LEAST_SETTINGS" "[I", Cond.fieldLink RX4 202 "PickSlots$Warehouse" "GREATEST_SETTINGS" "[I", Cond.methodLink RL 42 yX5_place, Cond.instanceMethod yX5_place, Cond.selects RX5 yX5_place yX5_place, Cond.code yX5_place cX5_place 3 (some .int), Cond.methodLink RX5 58 yX4_putIntoSlot]
def wsL_acts_r13 : List Cond := [Cond.instanceMethod yX4_putIntoSlot, Cond.selects RX4 yX4_putIntoSlot yX4_putIntoSlot, Cond.code yX4_putIntoSlot cX4_putIntoSlot 3 (some .int), Cond.methodLink RL 39 yX5_deliver, Cond.instanceMethod yX5_deliver, Cond.selects RX5 yX5_deliver yX5_deliver, Cond.code yX5_deliver cX5_deliver 3 (some .int), Cond.methodLink RX5 55 yX4_addToStore, Cond.instanceMethod yX4_addToStore, Cond.selects RX4 yX4_addToStore yX4_addToStore, Cond.code yX4_addToStore cX4_addToStore 3 (some .int), Cond.constant RX4 99 (100000), Cond.methodLink RL 102 yL_sound, Cond.static yL_sound, Cond.code yL_sound cL_sound 13 (some .boolean), Cond.methodLink RL 48 yX5_slotOf, Cond.instanceMethod yX5_slotOf, Cond.selects RX5 yX5_slotOf yX5_slotOf, Cond.code yX5_slotOf cX5_slotOf 3 (some .int), Cond.methodLink RX5 67 yX4_numberOfSlot, Cond.instanceMethod yX4_numberOfSlot, Cond.selects RX4 yX4_numberOfSlot yX4_numberOfSlot, Cond.code yX4_numberOfSlot cX4_numberOfSlot 3 (some .int), Cond.methodLink RL 51 yX5_nearest]
def wsL_acts_r14 : List Cond := [Cond.instanceMethod yX5_nearest, Cond.selects RX5 yX5_nearest yX5_nearest, Cond.code yX5_nearest cX5_nearest 2 (some .int), Cond.methodLink RX5 70 yX4_nearestFreeSlot, Cond.instanceMethod yX4_nearestFreeSlot, Cond.selects RX4 yX4_nearestFreeSlot yX4_nearestFreeSlot, Cond.code yX4_nearestFreeSlot cX4_nearestFreeSlot 5 (some .int), Cond.methodLink RL 78 yX5_atBest, Cond.instanceMethod yX5_atBest, Cond.selects RX5 yX5_atBest yX5_atBest, Cond.code yX5_atBest cX5_atBest 2 (some .int), Cond.fieldLink RX5 25 "PickSlots" "demands" "LPickSlots$SortedRow;", Cond.fieldLink RX5 29 "PickSlots" "walks" "LPickSlots$SortedRow;", Cond.methodLink RX5 105 yX4_shortestWalk, Cond.instanceMethod yX4_shortestWalk, Cond.selects RX4 yX4_shortestWalk yX4_shortestWalk, Cond.code yX4_shortestWalk cX4_shortestWalk 6 (some .int), Cond.methodLink RX4 181 yX3_insert, Cond.instanceMethod yX3_insert, Cond.selects RX3 yX3_insert yX3_insert, Cond.initialized RX3, Cond.code yX3_insert cX3_insert 3 none, Cond.fieldLink RX3 15 "PickSlots$SortedRow" "size" "I", Cond.fieldLink RX3 9 "PickSlots$SortedRow" "values" "[I"]
def wsL_acts_r15 : List Cond := [Cond.methodLink RX4 185 yX3_valueAt, Cond.instanceMethod yX3_valueAt, Cond.selects RX3 yX3_valueAt yX3_valueAt, Cond.code yX3_valueAt cX3_valueAt 2 (some .int), Cond.methodLink RL 69 yX5_best, Cond.instanceMethod yX5_best, Cond.selects RX5 yX5_best yX5_best, Cond.code yX5_best cX5_best 2 (some .int), Cond.methodLink RX5 92 yX4_numberOfBest, Cond.instanceMethod yX4_numberOfBest, Cond.selects RX4 yX4_numberOfBest yX4_numberOfBest, Cond.code yX4_numberOfBest cX4_numberOfBest 5 (some .int), Cond.methodLink RL 106 yX5_undo, Cond.instanceMethod yX5_undo, Cond.selects RX5 yX5_undo yX5_undo, Cond.code yX5_undo cX5_undo 2 (some .int)]
def wsL_acts : List Cond := .code yL_acts cL_acts 13 (some .boolean) :: ((wsL_acts_r1 ++ (wsL_acts_r2 ++ (wsL_acts_r3 ++ (wsL_acts_r4 ++ (wsL_acts_r5 ++ (wsL_acts_r6 ++ (wsL_acts_r7 ++ (wsL_acts_r8 ++ (wsL_acts_r9 ++ (wsL_acts_r10 ++ (wsL_acts_r11 ++ (wsL_acts_r12 ++ (wsL_acts_r13 ++ (wsL_acts_r14 ++ wsL_acts_r15)))))))))))))) ++ wsX50 ++ wsX10 ++ wsX40 ++ wsX00 ++ wsX30)
def wsL_law_r1 : List Cond := [Cond.classLink RL 14 RX5, Cond.instantiable RX5 9, Cond.initialized RX5, Cond.arrayClass .int, Cond.methodLink RL 109 yX5_init, Cond.instanceMethod yX5_init, Cond.code yX5_init cX5_init 2 none, Cond.methodLink RX5 1 objectInit, Cond.instanceMethod objectInit, Cond.code objectInit ⟨#[0xb1]⟩ 1 none, Cond.classLink RX5 9 RX4, Cond.fieldLink RX5 11 "PickSlots" "history" "[LPickSlots$Warehouse;", Cond.classLink RX5 15 RX1, Cond.instantiable RX1 6, Cond.initialized RX1, Cond.fieldLink RX5 18 "PickSlots" "text" "LPickSlots$OrderText;", Cond.classLink RX5 22 RX3, Cond.instantiable RX3 2, Cond.initialized RX3, Cond.fieldLink RX5 25 "PickSlots" "demands" "LPickSlots$SortedRow;", Cond.fieldLink RX5 29 "PickSlots" "walks" "LPickSlots$SortedRow;", Cond.instantiable RX4 13, Cond.initialized RX4, Cond.fieldLink RX5 33 "PickSlots" "now" "LPickSlots$Warehouse;"]
def wsL_law_r2 : List Cond := [Cond.fieldLink RX5 37 "PickSlots" "trial" "LPickSlots$Warehouse;", Cond.instanceMethod yX1_init, Cond.code yX1_init cX1_init 1 none, Cond.methodLink RX1 3 objectInit, Cond.arrayClass .char, Cond.fieldLink RX1 9 "PickSlots$OrderText" "signs" "[C", Cond.instanceMethod yX3_init, Cond.code yX3_init cX3_init 1 none, Cond.methodLink RX3 3 objectInit, Cond.fieldLink RX3 9 "PickSlots$SortedRow" "values" "[I", Cond.methodLink RX5 32 yX4_init, Cond.instanceMethod yX4_init, Cond.code yX4_init cX4_init 2 none, Cond.methodLink RX4 3 objectInit, Cond.fieldLink RX4 9 "PickSlots$Warehouse" "weights" "[I", Cond.fieldLink RX4 15 "PickSlots$Warehouse" "capacities" "[I", Cond.fieldLink RX4 18 "PickSlots$Warehouse" "seasonDemands" "[I", Cond.fieldLink RX4 21 "PickSlots$Warehouse" "slotOfGood" "[I", Cond.fieldLink RX4 24 "PickSlots$Warehouse" "unitsInSlot" "[I", Cond.fieldLink RX4 27 "PickSlots$Warehouse" "unitsInStore" "[I", Cond.fieldLink RX4 30 "PickSlots$Warehouse" "weekPicks" "[I", Cond.fieldLink RX4 33 "PickSlots$Warehouse" "unitsPicked" "[I", Cond.fieldLink RX4 38 "PickSlots$Warehouse" "goodInSlot" "[I", Cond.fieldLink RX4 41 "PickSlots$Warehouse" "settings" "[I"]
def wsL_law_r3 : List Cond := [Cond.classLink RX4 44 RX0, Cond.instantiable RX0 7, Cond.initialized RX0, Cond.fieldLink RX4 47 "PickSlots$Warehouse" "accounts" "LPickSlots$Accounts;", Cond.instanceMethod yX0_init, Cond.code yX0_init cX0_init 1 none, Cond.methodLink RX0 1 objectInit, Cond.methodLink RL 106 yX5_undo, Cond.instanceMethod yX5_undo, Cond.selects RX5 yX5_undo yX5_undo, Cond.code yX5_undo cX5_undo 2 (some .int), Cond.fieldLink RX5 112 "PickSlots" "states" "I", Cond.methodLink RL 19 yX5_count, Cond.instanceMethod yX5_count, Cond.selects RX5 yX5_count yX5_count, Cond.code yX5_count cX5_count 2 (some .int), Cond.methodLink RX5 119 yX4_numberOfWarehouse, Cond.instanceMethod yX4_numberOfWarehouse, Cond.selects RX4 yX4_numberOfWarehouse yX4_numberOfWarehouse, Cond.code yX4_numberOfWarehouse cX4_numberOfWarehouse 2 (some .int), Cond.fieldLink RX4 59 "PickSlots$Warehouse" "goods" "I", Cond.fieldLink RX4 63 "PickSlots$Warehouse" "week" "I", Cond.methodLink RX4 191 yX4_placedGoods, Cond.instanceMethod yX4_placedGoods]
def wsL_law_r4 : List Cond := [Cond.selects RX4 yX4_placedGoods yX4_placedGoods, Cond.code yX4_placedGoods cX4_placedGoods 4 (some .int), Cond.methodLink RX4 100 yX4_isPlaced, Cond.instanceMethod yX4_isPlaced, Cond.selects RX4 yX4_isPlaced yX4_isPlaced, Cond.code yX4_isPlaced cX4_isPlaced 2 (some .boolean), Cond.methodLink RX4 78 yX2_isSlot, Cond.static yX2_isSlot, Cond.initialized RX2, Cond.code yX2_isSlot cX2_isSlot 1 (some .boolean), Cond.methodLink RX4 138 yX4_presentSeason, Cond.instanceMethod yX4_presentSeason, Cond.selects RX4 yX4_presentSeason yX4_presentSeason, Cond.code yX4_presentSeason cX4_presentSeason 1 (some .int), Cond.methodLink RX4 164 yX4_weeksLeft, Cond.instanceMethod yX4_weeksLeft, Cond.selects RX4 yX4_weeksLeft yX4_weeksLeft, Cond.code yX4_weeksLeft cX4_weeksLeft 1 (some .int), Cond.methodLink RX4 195 yX4_sumOf, Cond.instanceMethod yX4_sumOf, Cond.selects RX4 yX4_sumOf yX4_sumOf, Cond.code yX4_sumOf cX4_sumOf 4 (some .int), Cond.methodLink RL 72 yX5_improve, Cond.instanceMethod yX5_improve]
def wsL_law_r5 : List Cond := [Cond.selects RX5 yX5_improve yX5_improve, Cond.code yX5_improve cX5_improve 2 (some .int), Cond.methodLink RX5 40 yX5_startTrial, Cond.instanceMethod yX5_startTrial, Cond.selects RX5 yX5_startTrial yX5_startTrial, Cond.code yX5_startTrial cX5_startTrial 1 none, Cond.methodLink RX5 137 yX4_copyFrom, Cond.instanceMethod yX4_copyFrom, Cond.selects RX4 yX4_copyFrom yX4_copyFrom, Cond.code yX4_copyFrom cX4_copyFrom 2 none, Cond.methodLink RX4 51 yX4_copyRow, Cond.static yX4_copyRow, Cond.code yX4_copyRow cX4_copyRow 2 none, Cond.methodLink RX4 66 Lib.Math.min.name, Cond.static Lib.Math.min.name, Cond.initialized "java/lang/Math", Cond.code Lib.Math.min.name Lib.Math.min.code 2 (some .int), Cond.methodLink RX4 72 arraycopyName, Cond.native arraycopyName, Cond.static arraycopyName, Cond.initialized "java/lang/System", Cond.methodLink RX4 55 yX0_copyFrom, Cond.instanceMethod yX0_copyFrom, Cond.selects RX0 yX0_copyFrom yX0_copyFrom]
def wsL_law_r6 : List Cond := [Cond.code yX0_copyFrom cX0_copyFrom 2 none, Cond.fieldLink RX0 7 "PickSlots$Accounts" "pickWalk" "I", Cond.fieldLink RX0 13 "PickSlots$Accounts" "refillWalk" "I", Cond.fieldLink RX0 16 "PickSlots$Accounts" "moveWalk" "I", Cond.fieldLink RX0 19 "PickSlots$Accounts" "trips" "I", Cond.fieldLink RX0 22 "PickSlots$Accounts" "saved" "I", Cond.fieldLink RX0 25 "PickSlots$Accounts" "moves" "I", Cond.fieldLink RX0 28 "PickSlots$Accounts" "picks" "I", Cond.methodLink RX5 95 yX4_doBest, Cond.instanceMethod yX4_doBest, Cond.selects RX4 yX4_doBest yX4_doBest, Cond.code yX4_doBest cX4_doBest 4 (some .int), Cond.static yX5_isIn, Cond.code yX5_isIn cX5_isIn 3 (some .boolean), Cond.methodLink RX4 158 yX4_bestGoing, Cond.instanceMethod yX4_bestGoing, Cond.selects RX4 yX4_bestGoing yX4_bestGoing, Cond.code yX4_bestGoing cX4_bestGoing 5 (some .int), Cond.methodLink RX4 142 yX4_canGo, Cond.instanceMethod yX4_canGo, Cond.selects RX4 yX4_canGo yX4_canGo, Cond.code yX4_canGo cX4_canGo 5 (some .boolean), Cond.methodLink RX4 103 yX4_bears, Cond.instanceMethod yX4_bears]
def wsL_law_r7 : List Cond := [Cond.selects RX4 yX4_bears yX4_bears, Cond.code yX4_bears cX4_bears 3 (some .boolean), Cond.methodLink RX4 82 yX2_heaviestAt, Cond.static yX2_heaviestAt, Cond.code yX2_heaviestAt cX2_heaviestAt 1 (some .int), Cond.fieldLink RX2 13 "PickSlots$Slots" "HEAVIEST" "[I", Cond.methodLink RX4 90 yX4_isGood, Cond.instanceMethod yX4_isGood, Cond.selects RX4 yX4_isGood yX4_isGood, Cond.code yX4_isGood cX4_isGood 2 (some .boolean), Cond.methodLink RX4 152 yX4_worthOfGoing, Cond.instanceMethod yX4_worthOfGoing, Cond.selects RX4 yX4_worthOfGoing yX4_worthOfGoing, Cond.code yX4_worthOfGoing cX4_worthOfGoing 3 (some .int), Cond.methodLink RX4 155 yX4_savedByGoing, Cond.instanceMethod yX4_savedByGoing, Cond.selects RX4 yX4_savedByGoing yX4_savedByGoing, Cond.code yX4_savedByGoing cX4_savedByGoing 5 (some .int), Cond.methodLink RX4 96 yX4_demandOf, Cond.instanceMethod yX4_demandOf, Cond.selects RX4 yX4_demandOf yX4_demandOf, Cond.code yX4_demandOf cX4_demandOf 3 (some .int), Cond.methodLink RX4 111 yX2_walkTo, Cond.static yX2_walkTo]
def wsL_law_r8 : List Cond := [Cond.code yX2_walkTo cX2_walkTo 1 (some .int), Cond.fieldLink RX2 9 "PickSlots$Slots" "REACHES" "[I", Cond.methodLink RX4 149 yX4_walkOfGoing, Cond.instanceMethod yX4_walkOfGoing, Cond.selects RX4 yX4_walkOfGoing yX4_walkOfGoing, Cond.code yX4_walkOfGoing cX4_walkOfGoing 6 (some .int), Cond.methodLink RX4 161 yX2_wayBetween, Cond.static yX2_wayBetween, Cond.code yX2_wayBetween cX2_wayBetween 3 (some .int), Cond.methodLink RX2 16 Lib.Math.abs.name, Cond.static Lib.Math.abs.name, Cond.code Lib.Math.abs.name Lib.Math.abs.code 1 (some .int), Cond.methodLink RX4 146 yX4_goTo, Cond.instanceMethod yX4_goTo, Cond.selects RX4 yX4_goTo yX4_goTo, Cond.code yX4_goTo cX4_goTo 6 (some .int), Cond.methodLink RX4 107 yX4_standIn, Cond.instanceMethod yX4_standIn, Cond.selects RX4 yX4_standIn yX4_standIn, Cond.code yX4_standIn cX4_standIn 3 none, Cond.methodLink RX5 47 yX5_endTrial, Cond.instanceMethod yX5_endTrial, Cond.selects RX5 yX5_endTrial yX5_endTrial, Cond.code yX5_endTrial cX5_endTrial 2 (some .int)]
def wsL_law_r9 : List Cond := [Cond.methodLink RX5 141 yX5_keepTrial, Cond.instanceMethod yX5_keepTrial, Cond.selects RX5 yX5_keepTrial yX5_keepTrial, Cond.code yX5_keepTrial cX5_keepTrial 2 none, Cond.methodLink RX5 144 yX5_dropOldestState, Cond.instanceMethod yX5_dropOldestState, Cond.selects RX5 yX5_dropOldestState yX5_dropOldestState, Cond.code yX5_dropOldestState cX5_dropOldestState 3 none, Cond.methodLink RL 69 yX5_best, Cond.instanceMethod yX5_best, Cond.selects RX5 yX5_best yX5_best, Cond.code yX5_best cX5_best 2 (some .int), Cond.methodLink RX5 92 yX4_numberOfBest, Cond.instanceMethod yX4_numberOfBest, Cond.selects RX4 yX4_numberOfBest yX4_numberOfBest, Cond.code yX4_numberOfBest cX4_numberOfBest 5 (some .int), Cond.methodLink RL 110 yX5_play, Cond.instanceMethod yX5_play, Cond.selects RX5 yX5_play yX5_play, Cond.code yX5_play cX5_play 2 (some .int), Cond.fieldLink RX5 131 "PickSlots" "faultReason" "I", Cond.methodLink RX5 128 yX5_tryText, Cond.instanceMethod yX5_tryText, Cond.selects RX5 yX5_tryText yX5_tryText]
def wsL_law_r10 : List Cond := [Cond.code yX5_tryText cX5_tryText 2 (some .int), Cond.fieldLink RX5 134 "PickSlots" "faultPosition" "I", Cond.methodLink RX5 147 yX1_startReading, Cond.instanceMethod yX1_startReading, Cond.selects RX1 yX1_startReading yX1_startReading, Cond.code yX1_startReading cX1_startReading 1 none, Cond.fieldLink RX1 23 "PickSlots$OrderText" "at" "I", Cond.methodLink RX5 150 yX1_isAtEnd, Cond.instanceMethod yX1_isAtEnd, Cond.selects RX1 yX1_isAtEnd yX1_isAtEnd, Cond.code yX1_isAtEnd cX1_isAtEnd 1 (some .boolean), Cond.fieldLink RX1 19 "PickSlots$OrderText" "length" "I", Cond.methodLink RX5 157 yX1_readOrder, Cond.instanceMethod yX1_readOrder, Cond.selects RX1 yX1_readOrder yX1_readOrder, Cond.code yX1_readOrder cX1_readOrder 1 (some .boolean), Cond.fieldLink RX1 30 "PickSlots$OrderText" "kind" "I", Cond.fieldLink RX1 41 "PickSlots$OrderText" "first" "I", Cond.methodLink RX1 26 yX1_nextSign, Cond.instanceMethod yX1_nextSign, Cond.selects RX1 yX1_nextSign yX1_nextSign, Cond.code yX1_nextSign cX1_nextSign 1 (some .char), Cond.methodLink RX1 33 yX1_readSign, Cond.instanceMethod yX1_readSign]
def wsL_law_r11 : List Cond := [Cond.selects RX1 yX1_readSign yX1_readSign, Cond.code yX1_readSign cX1_readSign 2 (some .boolean), Cond.methodLink RX1 37 yX1_readNumber, Cond.instanceMethod yX1_readNumber, Cond.selects RX1 yX1_readNumber yX1_readNumber, Cond.code yX1_readNumber cX1_readNumber 3 (some .int), Cond.methodLink RX1 51 yX1_isDigit, Cond.static yX1_isDigit, Cond.code yX1_isDigit cX1_isDigit 1 (some .boolean), Cond.methodLink RX1 44 yX1_readTwoNumbers, Cond.instanceMethod yX1_readTwoNumbers, Cond.selects RX1 yX1_readTwoNumbers yX1_readTwoNumbers, Cond.code yX1_readTwoNumbers cX1_readTwoNumbers 1 (some .boolean), Cond.fieldLink RX1 48 "PickSlots$OrderText" "second" "I", Cond.methodLink RX5 169 yX5_hasGoodsAndSlots, Cond.instanceMethod yX5_hasGoodsAndSlots, Cond.selects RX5 yX5_hasGoodsAndSlots yX5_hasGoodsAndSlots, Cond.code yX5_hasGoodsAndSlots cX5_hasGoodsAndSlots 4 (some .boolean), Cond.methodLink RX5 176 yX4_isGood, Cond.methodLink RX5 179 yX2_isSlot, Cond.methodLink RX5 173 yX5_doOrder, Cond.instanceMethod yX5_doOrder, Cond.selects RX5 yX5_doOrder yX5_doOrder, Cond.code yX5_doOrder cX5_doOrder 4 (some .int)]
def wsL_law_r12 : List Cond := [Cond.methodLink RX5 73 yX4_pickUnits, Cond.instanceMethod yX4_pickUnits, Cond.selects RX4 yX4_pickUnits yX4_pickUnits, Cond.code yX4_pickUnits cX4_pickUnits 6 (some .int), Cond.methodLink RX4 117 yX4_unitsToBring, Cond.instanceMethod yX4_unitsToBring, Cond.selects RX4 yX4_unitsToBring yX4_unitsToBring, Cond.code yX4_unitsToBring cX4_unitsToBring 2 (some .int), Cond.methodLink RX4 120 yX4_bring, Cond.instanceMethod yX4_bring, Cond.selects RX4 yX4_bring yX4_bring, Cond.code yX4_bring cX4_bring 5 (some .int), Cond.methodLink RX4 129 yX4_tripsFor, Cond.instanceMethod yX4_tripsFor, Cond.selects RX4 yX4_tripsFor yX4_tripsFor, Cond.code yX4_tripsFor cX4_tripsFor 3 (some .int), Cond.methodLink RX5 76 yX4_refillSlot, Cond.instanceMethod yX4_refillSlot, Cond.selects RX4 yX4_refillSlot yX4_refillSlot, Cond.code yX4_refillSlot cX4_refillSlot 3 (some .int), Cond.methodLink RX5 83 yX4_moveGood, Cond.instanceMethod yX4_moveGood, Cond.selects RX4 yX4_moveGood yX4_moveGood, Cond.code yX4_moveGood cX4_moveGood 3 (some .int)]
def wsL_law_r13 : List Cond := [Cond.constant RX4 145 (100000000), Cond.methodLink RX5 86 yX4_exchangeGoods, Cond.instanceMethod yX4_exchangeGoods, Cond.selects RX4 yX4_exchangeGoods yX4_exchangeGoods, Cond.code yX4_exchangeGoods cX4_exchangeGoods 3 (some .int), Cond.methodLink RX5 79 yX4_finishWeek, Cond.instanceMethod yX4_finishWeek, Cond.selects RX4 yX4_finishWeek yX4_finishWeek, Cond.code yX4_finishWeek cX4_finishWeek 4 (some .int), Cond.methodLink RL 87 yX5_fault, Cond.instanceMethod yX5_fault, Cond.selects RX5 yX5_fault yX5_fault, Cond.code yX5_fault cX5_fault 2 (some .int), Cond.methodLink RL 113 yL_fails, Cond.static yL_fails, Cond.initialized RL, Cond.code yL_fails cL_fails 6 (some .boolean), Cond.methodLink RL 26 yL_mark, Cond.static yL_mark, Cond.code yL_mark cL_mark 5 (some .long), Cond.constantLong RL 9 (17), Cond.constantLong RL 11 (31), Cond.methodLink RL 13 yX5_account, Cond.instanceMethod yX5_account]
def wsL_law_r14 : List Cond := [Cond.selects RX5 yX5_account yX5_account, Cond.code yX5_account cX5_account 2 (some .int), Cond.methodLink RX5 109 yX4_numberOfAccount, Cond.instanceMethod yX4_numberOfAccount, Cond.selects RX4 yX4_numberOfAccount yX4_numberOfAccount, Cond.code yX4_numberOfAccount cX4_numberOfAccount 2 (some .int), Cond.methodLink RX4 188 yX4_weeklyWalk, Cond.instanceMethod yX4_weeklyWalk, Cond.selects RX4 yX4_weeklyWalk yX4_weeklyWalk, Cond.code yX4_weeklyWalk cX4_weeklyWalk 4 (some .int), Cond.methodLink RL 22 yX5_goodOf, Cond.instanceMethod yX5_goodOf, Cond.selects RX5 yX5_goodOf yX5_goodOf, Cond.code yX5_goodOf cX5_goodOf 3 (some .int), Cond.methodLink RX5 64 yX4_numberOfGood, Cond.instanceMethod yX4_numberOfGood, Cond.selects RX4 yX4_numberOfGood yX4_numberOfGood, Cond.code yX4_numberOfGood cX4_numberOfGood 3 (some .int), Cond.methodLink RX4 114 yX2_greatestHeightFor, Cond.static yX2_greatestHeightFor, Cond.code yX2_greatestHeightFor cX2_greatestHeightFor 3 (some .int), Cond.methodLink RL 32 yX5_good, Cond.instanceMethod yX5_good, Cond.selects RX5 yX5_good yX5_good]
def wsL_law_r15 : List Cond := [Cond.code yX5_good cX5_good 3 (some .int), Cond.methodLink RX5 43 yX4_addGood, Cond.instanceMethod yX4_addGood, Cond.selects RX4 yX4_addGood yX4_addGood, Cond.code yX4_addGood cX4_addGood 3 (some .int), Cond.methodLink RL 35 yX5_demand, Cond.instanceMethod yX5_demand, Cond.selects RX5 yX5_demand yX5_demand, Cond.code yX5_demand cX5_demand 4 (some .int), Cond.methodLink RX5 51 yX4_changeDemand, Cond.instanceMethod yX4_changeDemand, Cond.selects RX4 yX4_changeDemand yX4_changeDemand, Cond.code yX4_changeDemand cX4_changeDemand 5 (some .int), Cond.static yX5_isSeason, Cond.code yX5_isSeason cX5_isSeason 1 (some .boolean), Cond.methodLink RL 39 yX5_deliver, Cond.instanceMethod yX5_deliver, Cond.selects RX5 yX5_deliver yX5_deliver, Cond.code yX5_deliver cX5_deliver 3 (some .int), Cond.methodLink RX5 55 yX4_addToStore, Cond.instanceMethod yX4_addToStore, Cond.selects RX4 yX4_addToStore yX4_addToStore, Cond.code yX4_addToStore cX4_addToStore 3 (some .int), Cond.constant RX4 99 (100000)]
def wsL_law_r16 : List Cond := [Cond.methodLink RL 42 yX5_place, Cond.instanceMethod yX5_place, Cond.selects RX5 yX5_place yX5_place, Cond.code yX5_place cX5_place 3 (some .int), Cond.methodLink RX5 58 yX4_putIntoSlot, Cond.instanceMethod yX4_putIntoSlot, Cond.selects RX4 yX4_putIntoSlot yX4_putIntoSlot, Cond.code yX4_putIntoSlot cX4_putIntoSlot 3 (some .int), Cond.methodLink RL 45 yX5_take, Cond.instanceMethod yX5_take, Cond.selects RX5 yX5_take yX5_take, Cond.code yX5_take cX5_take 2 (some .int), Cond.methodLink RX5 61 yX4_takeOutOfSlot, Cond.instanceMethod yX4_takeOutOfSlot, Cond.selects RX4 yX4_takeOutOfSlot yX4_takeOutOfSlot, Cond.code yX4_takeOutOfSlot cX4_takeOutOfSlot 3 (some .int), Cond.methodLink RL 48 yX5_slotOf, Cond.instanceMethod yX5_slotOf, Cond.selects RX5 yX5_slotOf yX5_slotOf, Cond.code yX5_slotOf cX5_slotOf 3 (some .int), Cond.methodLink RX5 67 yX4_numberOfSlot, Cond.instanceMethod yX4_numberOfSlot, Cond.selects RX4 yX4_numberOfSlot yX4_numberOfSlot, Cond.code yX4_numberOfSlot cX4_numberOfSlot 3 (some .int)]
def wsL_law_r17 : List Cond := [Cond.methodLink RL 51 yX5_nearest, Cond.instanceMethod yX5_nearest, Cond.selects RX5 yX5_nearest yX5_nearest, Cond.code yX5_nearest cX5_nearest 2 (some .int), Cond.methodLink RX5 70 yX4_nearestFreeSlot, Cond.instanceMethod yX4_nearestFreeSlot, Cond.selects RX4 yX4_nearestFreeSlot yX4_nearestFreeSlot, Cond.code yX4_nearestFreeSlot cX4_nearestFreeSlot 5 (some .int), Cond.methodLink RL 54 yX5_pick, Cond.instanceMethod yX5_pick, Cond.selects RX5 yX5_pick yX5_pick, Cond.code yX5_pick cX5_pick 3 (some .int), Cond.methodLink RL 57 yX5_refill, Cond.instanceMethod yX5_refill, Cond.selects RX5 yX5_refill yX5_refill, Cond.code yX5_refill cX5_refill 2 (some .int), Cond.methodLink RL 60 yX5_move, Cond.instanceMethod yX5_move, Cond.selects RX5 yX5_move yX5_move, Cond.code yX5_move cX5_move 3 (some .int), Cond.methodLink RL 63 yX5_exchange, Cond.instanceMethod yX5_exchange, Cond.selects RX5 yX5_exchange yX5_exchange, Cond.code yX5_exchange cX5_exchange 3 (some .int)]
def wsL_law_r18 : List Cond := [Cond.methodLink RL 66 yX5_worth, Cond.instanceMethod yX5_worth, Cond.selects RX5 yX5_worth yX5_worth, Cond.code yX5_worth cX5_worth 4 (some .int), Cond.methodLink RX5 89 yX4_numberOfChange, Cond.instanceMethod yX4_numberOfChange, Cond.selects RX4 yX4_numberOfChange yX4_numberOfChange, Cond.code yX4_numberOfChange cX4_numberOfChange 4 (some .int), Cond.methodLink RL 75 yX5_weekly, Cond.instanceMethod yX5_weekly, Cond.selects RX5 yX5_weekly yX5_weekly, Cond.code yX5_weekly cX5_weekly 2 (some .int), Cond.methodLink RX5 98 yX5_isSeason, Cond.methodLink RX5 102 yX4_weeklyWalk, Cond.methodLink RL 78 yX5_atBest, Cond.instanceMethod yX5_atBest, Cond.selects RX5 yX5_atBest yX5_atBest, Cond.code yX5_atBest cX5_atBest 2 (some .int), Cond.methodLink RX5 105 yX4_shortestWalk, Cond.instanceMethod yX4_shortestWalk, Cond.selects RX4 yX4_shortestWalk yX4_shortestWalk, Cond.code yX4_shortestWalk cX4_shortestWalk 6 (some .int), Cond.methodLink RX4 181 yX3_insert, Cond.instanceMethod yX3_insert]
def wsL_law_r19 : List Cond := [Cond.selects RX3 yX3_insert yX3_insert, Cond.code yX3_insert cX3_insert 3 none, Cond.fieldLink RX3 15 "PickSlots$SortedRow" "size" "I", Cond.methodLink RX4 185 yX3_valueAt, Cond.instanceMethod yX3_valueAt, Cond.selects RX3 yX3_valueAt yX3_valueAt, Cond.code yX3_valueAt cX3_valueAt 2 (some .int), Cond.methodLink RL 81 yX5_set, Cond.instanceMethod yX5_set, Cond.selects RX5 yX5_set yX5_set, Cond.code yX5_set cX5_set 3 (some .int), Cond.methodLink RX5 122 yX4_changeSetting, Cond.instanceMethod yX4_changeSetting, Cond.selects RX4 yX4_changeSetting yX4_changeSetting, Cond.code yX4_changeSetting cX4_changeSetting 4 (some .int), Cond.fieldLink RX4 199 "PickSlots$Warehouse" "LEAST_SETTINGS" "[I", Cond.fieldLink RX4 202 "PickSlots$Warehouse" "GREATEST_SETTINGS" "[I", Cond.methodLink RL 84 yX5_type, Cond.instanceMethod yX5_type, Cond.selects RX5 yX5_type yX5_type, Cond.code yX5_type cX5_type 2 (some .int), Cond.methodLink RX5 125 yX1_append, Cond.instanceMethod yX1_append, Cond.selects RX1 yX1_append yX1_append]
def wsL_law_r20 : List Cond := [Cond.code yX1_append cX1_append 2 (some .int), Cond.methodLink RL 102 yL_sound, Cond.static yL_sound, Cond.code yL_sound cL_sound 13 (some .boolean), Cond.methodLink RL 117 yL_cell, Cond.static yL_cell, Cond.code yL_cell cL_cell 2 (some .int), Cond.constant RL 7 (763049417), Cond.methodLink RL 91 yL_up, Cond.static yL_up, Cond.code yL_up cL_up 2 (some .int), Cond.constant RL 8 (2147483647), Cond.methodLink RL 121 yL_worths, Cond.static yL_worths, Cond.code yL_worths cL_worths 12 (some .boolean), Cond.constant RL 90 (100000000), Cond.methodLink RL 124 yL_acts, Cond.static yL_acts, Cond.code yL_acts cL_acts 13 (some .boolean), Cond.methodLink RL 98 yL_act, Cond.static yL_act, Cond.code yL_act cL_act 8 (some .int), Cond.methodLink RL 94 yX5_endWeek, Cond.instanceMethod yX5_endWeek]
def wsL_law_r21 : List Cond := [Cond.selects RX5 yX5_endWeek yX5_endWeek, Cond.code yX5_endWeek cX5_endWeek 1 (some .int)]
def wsL_law : List Cond := (wsL_law_r1 ++ (wsL_law_r2 ++ (wsL_law_r3 ++ (wsL_law_r4 ++ (wsL_law_r5 ++ (wsL_law_r6 ++ (wsL_law_r7 ++ (wsL_law_r8 ++ (wsL_law_r9 ++ (wsL_law_r10 ++ (wsL_law_r11 ++ (wsL_law_r12 ++ (wsL_law_r13 ++ (wsL_law_r14 ++ (wsL_law_r15 ++ (wsL_law_r16 ++ (wsL_law_r17 ++ (wsL_law_r18 ++ (wsL_law_r19 ++ (wsL_law_r20 ++ wsL_law_r21)))))))))))))))))))) ++ wsX50 ++ wsX10 ++ wsX30 ++ wsX40 ++ wsX00 ++ ([] : List Cond)
theorem wsL_in_app {a b : List Cond} (ha : ∀ w ∈ a, w ∈ lw_tbl) (hb : ∀ w ∈ b, w ∈ lw_tbl) : ∀ w ∈ a ++ b, w ∈ lw_tbl := fun w h => (List.mem_append.mp h).elim (ha w) (hb w)
set_option maxRecDepth 20000 in
theorem wsL_in_1 : ∀ w ∈ wsL_law_r1, w ∈ lw_tbl := fun w h => (goodIn_r (big := lw_tbl) wsL_law_r1 [37, 38, 29, 92, 39, 40, 41, 42, 43, 44, 45, 173, 47, 48, 30, 174, 78, 79, 31, 175, 176, 93, 32, 177] (by decide +kernel) (by decide +kernel) w h).1
set_option maxRecDepth 20000 in
theorem wsL_in_2 : ∀ w ∈ wsL_law_r2, w ∈ lw_tbl := fun w h => (goodIn_r (big := lw_tbl) wsL_law_r2 [178, 50, 51, 52, 77, 53, 81, 82, 83, 84, 94, 95, 96, 97, 133, 134, 135, 136, 137, 138, 139, 140, 141, 142] (by decide +kernel) (by decide +kernel) w h).1
set_option maxRecDepth 20000 in
theorem wsL_in_3 : ∀ w ∈ wsL_law_r3, w ∈ lw_tbl := fun w h => (goodIn_r (big := lw_tbl) wsL_law_r3 [98, 99, 33, 143, 101, 102, 103, 403, 404, 405, 406, 179, 387, 388, 389, 390, 391, 392, 393, 394, 144, 145, 395, 397] (by decide +kernel) (by decide +kernel) w h).1
set_option maxRecDepth 20000 in
theorem wsL_in_4 : ∀ w ∈ wsL_law_r4, w ∈ lw_tbl := fun w h => (goodIn_r (big := lw_tbl) wsL_law_r4 [16, 398, 284, 286, 5, 287, 281, 282, 34, 283, 357, 359, 12, 360, 361, 363, 13, 364, 399, 401, 17, 402, 375, 376] (by decide +kernel) (by decide +kernel) w h).1
set_option maxRecDepth 20000 in
theorem wsL_in_5 : ∀ w ∈ wsL_law_r5, w ∈ lw_tbl := fun w h => (goodIn_r (big := lw_tbl) wsL_law_r5 [377, 378, 205, 207, 0, 208, 209, 210, 211, 212, 213, 214, 215, 216, 217, 35, 218, 219, 221, 220, 36, 222, 223, 224] (by decide +kernel) (by decide +kernel) w h).1
set_option maxRecDepth 20000 in
theorem wsL_in_6 : ∀ w ∈ wsL_law_r6, w ∈ lw_tbl := fun w h => (goodIn_r (big := lw_tbl) wsL_law_r6 [225, 104, 106, 108, 110, 112, 114, 116, 379, 380, 381, 382, 231, 232, 341, 343, 8, 344, 345, 347, 9, 348, 288, 290] (by decide +kernel) (by decide +kernel) w h).1
set_option maxRecDepth 20000 in
theorem wsL_in_7 : ∀ w ∈ wsL_law_r7, w ∈ lw_tbl := fun w h => (goodIn_r (big := lw_tbl) wsL_law_r7 [6, 291, 292, 293, 294, 295, 253, 254, 255, 256, 349, 351, 10, 352, 353, 355, 11, 356, 260, 262, 4, 263, 301, 302] (by decide +kernel) (by decide +kernel) w h).1
set_option maxRecDepth 20000 in
theorem wsL_in_8 : ∀ w ∈ wsL_law_r8, w ∈ lw_tbl := fun w h => (goodIn_r (big := lw_tbl) wsL_law_r8 [303, 304, 365, 367, 14, 368, 369, 370, 371, 372, 373, 374, 383, 385, 15, 386, 297, 299, 7, 300, 233, 235, 1, 236] (by decide +kernel) (by decide +kernel) w h).1
set_option maxRecDepth 20000 in
theorem wsL_in_9 : ∀ w ∈ wsL_law_r9, w ∈ lw_tbl := fun w h => (goodIn_r (big := lw_tbl) wsL_law_r9 [237, 239, 2, 240, 241, 243, 3, 244, 333, 334, 335, 336, 337, 338, 339, 340, 489, 490, 491, 492, 181, 411, 413, 18] (by decide +kernel) (by decide +kernel) w h).1
set_option maxRecDepth 20000 in
theorem wsL_in_10 : ∀ w ∈ wsL_law_r10, w ∈ lw_tbl := fun w h => (goodIn_r (big := lw_tbl) wsL_law_r10 [414, 180, 415, 416, 417, 418, 56, 419, 420, 421, 422, 54, 423, 424, 425, 426, 58, 60, 427, 429, 19, 430, 431, 433] (by decide +kernel) (by decide +kernel) w h).1
set_option maxRecDepth 20000 in
theorem wsL_in_11 : ∀ w ∈ wsL_law_r11, w ∈ lw_tbl := fun w h => (goodIn_r (big := lw_tbl) wsL_law_r11 [20, 434, 435, 437, 21, 438, 439, 440, 441, 442, 444, 22, 445, 62, 446, 448, 23, 449, 450, 451, 452, 454, 24, 455] (by decide +kernel) (by decide +kernel) w h).1
set_option maxRecDepth 20000 in
theorem wsL_in_12 : ∀ w ∈ wsL_law_r12, w ∈ lw_tbl := fun w h => (goodIn_r (big := lw_tbl) wsL_law_r12 [456, 457, 458, 459, 460, 462, 25, 463, 464, 466, 26, 467, 468, 470, 27, 471, 472, 473, 474, 475, 476, 477, 478, 479] (by decide +kernel) (by decide +kernel) w h).1

set_option maxRecDepth 20000 in
theorem wsL_in_13_0 : ∀ w ∈ ([Cond.constant RX4 145 (100000000), Cond.methodLink RX5 86 yX4_exchangeGoods, Cond.instanceMethod yX4_exchangeGoods, Cond.selects RX4 yX4_exchangeGoods yX4_exchangeGoods, Cond.code yX4_exchangeGoods cX4_exchangeGoods 3 (some .int), Cond.methodLink RX5 79 yX4_finishWeek, Cond.instanceMethod yX4_finishWeek, Cond.selects RX4 yX4_finishWeek yX4_finishWeek, Cond.code yX4_finishWeek cX4_finishWeek 4 (some .int), Cond.methodLink RL 87 yX5_fault, Cond.instanceMethod yX5_fault, Cond.selects RX5 yX5_fault yX5_fault, Cond.code yX5_fault cX5_fault 2 (some .int), Cond.methodLink RL 113 yL_fails, Cond.static yL_fails, Cond.initialized RL] : List Cond), w ∈ lw_tbl := fun w h => (goodIn_r (big := lw_tbl) [Cond.constant RX4 145 (100000000), Cond.methodLink RX5 86 yX4_exchangeGoods, Cond.instanceMethod yX4_exchangeGoods, Cond.selects RX4 yX4_exchangeGoods yX4_exchangeGoods, Cond.code yX4_exchangeGoods cX4_exchangeGoods 3 (some .int), Cond.methodLink RX5 79 yX4_finishWeek, Cond.instanceMethod yX4_finishWeek, Cond.selects RX4 yX4_finishWeek yX4_finishWeek, Cond.code yX4_finishWeek cX4_finishWeek 4 (some .int), Cond.methodLink RL 87 yX5_fault, Cond.instanceMethod yX5_fault, Cond.selects RX5 yX5_fault yX5_fault, Cond.code yX5_fault cX5_fault 2 (some .int), Cond.methodLink RL 113 yL_fails, Cond.static yL_fails, Cond.initialized RL] [480, 481, 482, 483, 484, 485, 486, 487, 488, 407, 408, 409, 410, 501, 502, 28] (by decide +kernel) (by decide +kernel) w h).1
set_option maxRecDepth 20000 in
theorem wsL_in_13_1 : ∀ w ∈ ([Cond.code yL_fails cL_fails 6 (some .boolean)] : List Cond), w ∈ lw_tbl := List.forall_mem_singleton.mpr (List.mem_of_getElem? (i := 503) rfl)
set_option maxRecDepth 20000 in
theorem wsL_in_13_2 : ∀ w ∈ ([Cond.methodLink RL 26 yL_mark, Cond.static yL_mark, Cond.code yL_mark cL_mark 5 (some .long), Cond.constantLong RL 9 (17), Cond.constantLong RL 11 (31), Cond.methodLink RL 13 yX5_account, Cond.instanceMethod yX5_account] : List Cond), w ∈ lw_tbl := fun w h => (goodIn_r (big := lw_tbl) [Cond.methodLink RL 26 yL_mark, Cond.static yL_mark, Cond.code yL_mark cL_mark 5 (some .long), Cond.constantLong RL 9 (17), Cond.constantLong RL 11 (31), Cond.methodLink RL 13 yX5_account, Cond.instanceMethod yX5_account] [504, 505, 506, 507, 508, 509, 510] (by decide +kernel) (by decide +kernel) w h).1
theorem wsL_in_13 : ∀ w ∈ wsL_law_r13, w ∈ lw_tbl := by
  show ∀ w ∈ (([Cond.constant RX4 145 (100000000), Cond.methodLink RX5 86 yX4_exchangeGoods, Cond.instanceMethod yX4_exchangeGoods, Cond.selects RX4 yX4_exchangeGoods yX4_exchangeGoods, Cond.code yX4_exchangeGoods cX4_exchangeGoods 3 (some .int), Cond.methodLink RX5 79 yX4_finishWeek, Cond.instanceMethod yX4_finishWeek, Cond.selects RX4 yX4_finishWeek yX4_finishWeek, Cond.code yX4_finishWeek cX4_finishWeek 4 (some .int), Cond.methodLink RL 87 yX5_fault, Cond.instanceMethod yX5_fault, Cond.selects RX5 yX5_fault yX5_fault, Cond.code yX5_fault cX5_fault 2 (some .int), Cond.methodLink RL 113 yL_fails, Cond.static yL_fails, Cond.initialized RL] : List Cond) ++ (([Cond.code yL_fails cL_fails 6 (some .boolean)] : List Cond) ++ (([Cond.methodLink RL 26 yL_mark, Cond.static yL_mark, Cond.code yL_mark cL_mark 5 (some .long), Cond.constantLong RL 9 (17), Cond.constantLong RL 11 (31), Cond.methodLink RL 13 yX5_account, Cond.instanceMethod yX5_account] : List Cond)))), w ∈ lw_tbl
  exact wsL_in_app wsL_in_13_0 (wsL_in_app wsL_in_13_1 (wsL_in_13_2))
set_option maxRecDepth 20000 in
theorem wsL_in_14 : ∀ w ∈ wsL_law_r14, w ∈ lw_tbl := fun w h => (goodIn_r (big := lw_tbl) wsL_law_r14 [511, 512, 513, 514, 515, 516, 517, 518, 519, 520, 306, 307, 308, 309, 310, 311, 312, 313, 314, 315, 316, 201, 202, 203] (by decide +kernel) (by decide +kernel) w h).1
set_option maxRecDepth 20000 in
theorem wsL_in_15 : ∀ w ∈ wsL_law_r15, w ∈ lw_tbl := fun w h => (goodIn_r (big := lw_tbl) wsL_law_r15 [204, 226, 227, 228, 229, 245, 246, 247, 248, 249, 250, 251, 252, 258, 259, 264, 265, 266, 267, 268, 269, 270, 271, 272] (by decide +kernel) (by decide +kernel) w h).1
set_option maxRecDepth 20000 in
theorem wsL_in_16 : ∀ w ∈ wsL_law_r16, w ∈ lw_tbl := fun w h => (goodIn_r (big := lw_tbl) wsL_law_r16 [273, 274, 275, 276, 277, 278, 279, 280, 521, 522, 523, 524, 525, 526, 527, 528, 317, 318, 319, 320, 321, 322, 323, 324] (by decide +kernel) (by decide +kernel) w h).1
set_option maxRecDepth 20000 in
theorem wsL_in_17 : ∀ w ∈ wsL_law_r17, w ∈ lw_tbl := fun w h => (goodIn_r (big := lw_tbl) wsL_law_r17 [325, 326, 327, 328, 329, 330, 331, 332, 529, 530, 531, 532, 533, 534, 535, 536, 537, 538, 539, 540, 541, 542, 543, 544] (by decide +kernel) (by decide +kernel) w h).1
set_option maxRecDepth 20000 in
theorem wsL_in_18 : ∀ w ∈ wsL_law_r18, w ∈ lw_tbl := fun w h => (goodIn_r (big := lw_tbl) wsL_law_r18 [545, 546, 547, 548, 549, 550, 551, 552, 553, 554, 555, 556, 557, 558, 559, 560, 561, 562, 563, 564, 565, 566, 567, 568] (by decide +kernel) (by decide +kernel) w h).1
set_option maxRecDepth 20000 in
theorem wsL_in_19 : ∀ w ∈ wsL_law_r19, w ∈ lw_tbl := fun w h => (goodIn_r (big := lw_tbl) wsL_law_r19 [569, 570, 85, 571, 572, 573, 574, 575, 576, 577, 578, 579, 580, 581, 582, 583, 585, 587, 588, 589, 590, 591, 592, 593] (by decide +kernel) (by decide +kernel) w h).1

set_option maxRecDepth 20000 in
theorem wsL_in_20_0 : ∀ w ∈ ([Cond.code yX1_append cX1_append 2 (some .int), Cond.methodLink RL 102 yL_sound, Cond.static yL_sound] : List Cond), w ∈ lw_tbl := fun w h => (goodIn_r (big := lw_tbl) [Cond.code yX1_append cX1_append 2 (some .int), Cond.methodLink RL 102 yL_sound, Cond.static yL_sound] [594, 596, 597] (by decide +kernel) (by decide +kernel) w h).1
set_option maxRecDepth 20000 in
theorem wsL_in_20_1 : ∀ w ∈ ([Cond.code yL_sound cL_sound 13 (some .boolean)] : List Cond), w ∈ lw_tbl := List.forall_mem_singleton.mpr (List.mem_of_getElem? (i := 598) rfl)
set_option maxRecDepth 20000 in
theorem wsL_in_20_2 : ∀ w ∈ ([Cond.methodLink RL 117 yL_cell, Cond.static yL_cell, Cond.code yL_cell cL_cell 2 (some .int), Cond.constant RL 7 (763049417), Cond.methodLink RL 91 yL_up, Cond.static yL_up, Cond.code yL_up cL_up 2 (some .int), Cond.constant RL 8 (2147483647), Cond.methodLink RL 121 yL_worths, Cond.static yL_worths] : List Cond), w ∈ lw_tbl := fun w h => (goodIn_r (big := lw_tbl) [Cond.methodLink RL 117 yL_cell, Cond.static yL_cell, Cond.code yL_cell cL_cell 2 (some .int), Cond.constant RL 7 (763049417), Cond.methodLink RL 91 yL_up, Cond.static yL_up, Cond.code yL_up cL_up 2 (some .int), Cond.constant RL 8 (2147483647), Cond.methodLink RL 121 yL_worths, Cond.static yL_worths] [493, 494, 495, 496, 497, 498, 499, 500, 599, 600] (by decide +kernel) (by decide +kernel) w h).1
set_option maxRecDepth 20000 in
theorem wsL_in_20_3 : ∀ w ∈ ([Cond.code yL_worths cL_worths 12 (some .boolean)] : List Cond), w ∈ lw_tbl := List.forall_mem_singleton.mpr (List.mem_of_getElem? (i := 601) rfl)
set_option maxRecDepth 20000 in
theorem wsL_in_20_4 : ∀ w ∈ ([Cond.constant RL 90 (100000000), Cond.methodLink RL 124 yL_acts, Cond.static yL_acts] : List Cond), w ∈ lw_tbl := fun w h => (goodIn_r (big := lw_tbl) [Cond.constant RL 90 (100000000), Cond.methodLink RL 124 yL_acts, Cond.static yL_acts] [602, 603, 604] (by decide +kernel) (by decide +kernel) w h).1
set_option maxRecDepth 20000 in
theorem wsL_in_20_5 : ∀ w ∈ ([Cond.code yL_acts cL_acts 13 (some .boolean)] : List Cond), w ∈ lw_tbl := List.forall_mem_singleton.mpr (List.mem_of_getElem? (i := 605) rfl)
set_option maxRecDepth 20000 in
theorem wsL_in_20_6 : ∀ w ∈ ([Cond.methodLink RL 98 yL_act, Cond.static yL_act] : List Cond), w ∈ lw_tbl := fun w h => (goodIn_r (big := lw_tbl) [Cond.methodLink RL 98 yL_act, Cond.static yL_act] [606, 607] (by decide +kernel) (by decide +kernel) w h).1
set_option maxRecDepth 20000 in
theorem wsL_in_20_7 : ∀ w ∈ ([Cond.code yL_act cL_act 8 (some .int)] : List Cond), w ∈ lw_tbl := List.forall_mem_singleton.mpr (List.mem_of_getElem? (i := 608) rfl)
set_option maxRecDepth 20000 in
theorem wsL_in_20_8 : ∀ w ∈ ([Cond.methodLink RL 94 yX5_endWeek, Cond.instanceMethod yX5_endWeek] : List Cond), w ∈ lw_tbl := fun w h => (goodIn_r (big := lw_tbl) [Cond.methodLink RL 94 yX5_endWeek, Cond.instanceMethod yX5_endWeek] [609, 610] (by decide +kernel) (by decide +kernel) w h).1
theorem wsL_in_20 : ∀ w ∈ wsL_law_r20, w ∈ lw_tbl := by
  show ∀ w ∈ (([Cond.code yX1_append cX1_append 2 (some .int), Cond.methodLink RL 102 yL_sound, Cond.static yL_sound] : List Cond) ++ (([Cond.code yL_sound cL_sound 13 (some .boolean)] : List Cond) ++ (([Cond.methodLink RL 117 yL_cell, Cond.static yL_cell, Cond.code yL_cell cL_cell 2 (some .int), Cond.constant RL 7 (763049417), Cond.methodLink RL 91 yL_up, Cond.static yL_up, Cond.code yL_up cL_up 2 (some .int), Cond.constant RL 8 (2147483647), Cond.methodLink RL 121 yL_worths, Cond.static yL_worths] : List Cond) ++ (([Cond.code yL_worths cL_worths 12 (some .boolean)] : List Cond) ++ (([Cond.constant RL 90 (100000000), Cond.methodLink RL 124 yL_acts, Cond.static yL_acts] : List Cond) ++ (([Cond.code yL_acts cL_acts 13 (some .boolean)] : List Cond) ++ (([Cond.methodLink RL 98 yL_act, Cond.static yL_act] : List Cond) ++ (([Cond.code yL_act cL_act 8 (some .int)] : List Cond) ++ (([Cond.methodLink RL 94 yX5_endWeek, Cond.instanceMethod yX5_endWeek] : List Cond)))))))))), w ∈ lw_tbl
  exact wsL_in_app wsL_in_20_0 (wsL_in_app wsL_in_20_1 (wsL_in_app wsL_in_20_2 (wsL_in_app wsL_in_20_3 (wsL_in_app wsL_in_20_4 (wsL_in_app wsL_in_20_5 (wsL_in_app wsL_in_20_6 (wsL_in_app wsL_in_20_7 (wsL_in_20_8))))))))
set_option maxRecDepth 20000 in
theorem wsL_in_21 : ∀ w ∈ wsL_law_r21, w ∈ lw_tbl := fun w h => (goodIn_r (big := lw_tbl) wsL_law_r21 [611, 612] (by decide +kernel) (by decide +kernel) w h).1
set_option maxRecDepth 20000 in
theorem wsL_inX5 : ∀ w ∈ wsX50, w ∈ lw_tbl := fun w h => (goodIn_r (big := lw_tbl) wsX50 [182, 184, 186, 188, 190, 192, 194, 196, 198] (by decide +kernel) (by decide +kernel) w h).1
set_option maxRecDepth 20000 in
theorem wsL_inX1 : ∀ w ∈ wsX10, w ∈ lw_tbl := fun w h => (goodIn_r (big := lw_tbl) wsX10 [64, 66, 68, 70, 72, 74] (by decide +kernel) (by decide +kernel) w h).1
set_option maxRecDepth 20000 in
theorem wsL_inX3 : ∀ w ∈ wsX30, w ∈ lw_tbl := fun w h => (goodIn_r (big := lw_tbl) wsX30 [87, 89] (by decide +kernel) (by decide +kernel) w h).1
set_option maxRecDepth 20000 in
theorem wsL_inX4 : ∀ w ∈ wsX40, w ∈ lw_tbl := fun w h => (goodIn_r (big := lw_tbl) wsX40 [146, 148, 150, 152, 154, 156, 158, 160, 162, 164, 166, 168, 170] (by decide +kernel) (by decide +kernel) w h).1
set_option maxRecDepth 20000 in
theorem wsL_inX0 : ∀ w ∈ wsX00, w ∈ lw_tbl := fun w h => (goodIn_r (big := lw_tbl) wsX00 [118, 120, 122, 124, 126, 128, 130] (by decide +kernel) (by decide +kernel) w h).1
theorem wsL_law_in : ∀ w ∈ wsL_law, w ∈ lw_tbl := wsL_in_app (wsL_in_app (wsL_in_app (wsL_in_app (wsL_in_app (wsL_in_app (wsL_in_app wsL_in_1 (wsL_in_app wsL_in_2 (wsL_in_app wsL_in_3 (wsL_in_app wsL_in_4 (wsL_in_app wsL_in_5 (wsL_in_app wsL_in_6 (wsL_in_app wsL_in_7 (wsL_in_app wsL_in_8 (wsL_in_app wsL_in_9 (wsL_in_app wsL_in_10 (wsL_in_app wsL_in_11 (wsL_in_app wsL_in_12 (wsL_in_app wsL_in_13 (wsL_in_app wsL_in_14 (wsL_in_app wsL_in_15 (wsL_in_app wsL_in_16 (wsL_in_app wsL_in_17 (wsL_in_app wsL_in_18 (wsL_in_app wsL_in_19 (wsL_in_app wsL_in_20 (wsL_in_21))))))))))))))))))))) wsL_inX5) wsL_inX1) wsL_inX3) wsL_inX4) wsL_inX0) (fun _ h => absurd h List.not_mem_nil)
theorem inlX0 : ∀ w ∈ wsX00, w ∈ wsL_law := fun _ h => List.mem_append_left _ (List.mem_append_right _ h)
theorem inX0 : ∀ w ∈ wsX00, w ∈ lw_tbl := fun w h => wsL_law_in w (inlX0 w h)
theorem inlX1 : ∀ w ∈ wsX10, w ∈ wsL_law := fun _ h => List.mem_append_left _ (List.mem_append_left _ (List.mem_append_left _ (List.mem_append_left _ (List.mem_append_right _ h))))
theorem inX1 : ∀ w ∈ wsX10, w ∈ lw_tbl := fun w h => wsL_law_in w (inlX1 w h)
theorem inX2 : ∀ w ∈ wsX20, w ∈ lw_tbl := by decide +kernel
theorem inlX3 : ∀ w ∈ wsX30, w ∈ wsL_law := fun _ h => List.mem_append_left _ (List.mem_append_left _ (List.mem_append_left _ (List.mem_append_right _ h)))
theorem inX3 : ∀ w ∈ wsX30, w ∈ lw_tbl := fun w h => wsL_law_in w (inlX3 w h)
theorem inlX4 : ∀ w ∈ wsX40, w ∈ wsL_law := fun _ h => List.mem_append_left _ (List.mem_append_left _ (List.mem_append_right _ h))
theorem inX4 : ∀ w ∈ wsX40, w ∈ lw_tbl := fun w h => wsL_law_in w (inlX4 w h)
theorem inlX5 : ∀ w ∈ wsX50, w ∈ wsL_law := fun _ h => List.mem_append_left _ (List.mem_append_left _ (List.mem_append_left _ (List.mem_append_left _ (List.mem_append_left _ (List.mem_append_right _ h)))))
theorem inX5 : ∀ w ∈ wsX50, w ∈ lw_tbl := fun w h => wsL_law_in w (inlX5 w h)
theorem inX6 : ∀ w ∈ wsX60, w ∈ lw_tbl := by decide +kernel
theorem inJ9 : ∀ w ∈ wsJ90, w ∈ lw_tbl := by decide +kernel
theorem inJ10 : ∀ w ∈ wsJ100, w ∈ lw_tbl := by decide +kernel
abbrev vwCl : List vw_C := [(RX0, TX0, 7), (RX1, TX1, 6), (RX3, TX3, 2), (RX4, TX4, 13), (RX5, TX5, 9)]
end
section
theorem dX0_init_0 : decode cX0_init 0 = .ok (.aload_n 0, 1) := by decide +kernel
theorem dX0_init_1 : decode cX0_init 1 = .ok (.invokespecial 1, 3) := by decide +kernel
theorem dX0_init_4 : decode cX0_init 4 = .ok (.return_, 1) := by decide +kernel
theorem dX0_copyFrom_0 : decode cX0_copyFrom 0 = .ok (.aload_n 0, 1) := by decide +kernel
theorem dX0_copyFrom_1 : decode cX0_copyFrom 1 = .ok (.aload_n 1, 1) := by decide +kernel
theorem dX0_copyFrom_2 : decode cX0_copyFrom 2 = .ok (.getfield 7, 3) := by decide +kernel
theorem dX0_copyFrom_5 : decode cX0_copyFrom 5 = .ok (.putfield 7, 3) := by decide +kernel
theorem dX0_copyFrom_8 : decode cX0_copyFrom 8 = .ok (.aload_n 0, 1) := by decide +kernel
theorem dX0_copyFrom_9 : decode cX0_copyFrom 9 = .ok (.aload_n 1, 1) := by decide +kernel
theorem dX0_copyFrom_10 : decode cX0_copyFrom 10 = .ok (.getfield 13, 3) := by decide +kernel
theorem dX0_copyFrom_13 : decode cX0_copyFrom 13 = .ok (.putfield 13, 3) := by decide +kernel
theorem dX0_copyFrom_16 : decode cX0_copyFrom 16 = .ok (.aload_n 0, 1) := by decide +kernel
theorem dX0_copyFrom_17 : decode cX0_copyFrom 17 = .ok (.aload_n 1, 1) := by decide +kernel
theorem dX0_copyFrom_18 : decode cX0_copyFrom 18 = .ok (.getfield 16, 3) := by decide +kernel
theorem dX0_copyFrom_21 : decode cX0_copyFrom 21 = .ok (.putfield 16, 3) := by decide +kernel
theorem dX0_copyFrom_24 : decode cX0_copyFrom 24 = .ok (.aload_n 0, 1) := by decide +kernel
theorem dX0_copyFrom_25 : decode cX0_copyFrom 25 = .ok (.aload_n 1, 1) := by decide +kernel
theorem dX0_copyFrom_26 : decode cX0_copyFrom 26 = .ok (.getfield 19, 3) := by decide +kernel
theorem dX0_copyFrom_29 : decode cX0_copyFrom 29 = .ok (.putfield 19, 3) := by decide +kernel
theorem dX0_copyFrom_32 : decode cX0_copyFrom 32 = .ok (.aload_n 0, 1) := by decide +kernel
theorem dX0_copyFrom_33 : decode cX0_copyFrom 33 = .ok (.aload_n 1, 1) := by decide +kernel
theorem dX0_copyFrom_34 : decode cX0_copyFrom 34 = .ok (.getfield 22, 3) := by decide +kernel
theorem dX0_copyFrom_37 : decode cX0_copyFrom 37 = .ok (.putfield 22, 3) := by decide +kernel
theorem dX0_copyFrom_40 : decode cX0_copyFrom 40 = .ok (.aload_n 0, 1) := by decide +kernel
theorem dX0_copyFrom_41 : decode cX0_copyFrom 41 = .ok (.aload_n 1, 1) := by decide +kernel
theorem dX0_copyFrom_42 : decode cX0_copyFrom 42 = .ok (.getfield 25, 3) := by decide +kernel
theorem dX0_copyFrom_45 : decode cX0_copyFrom 45 = .ok (.putfield 25, 3) := by decide +kernel
theorem dX0_copyFrom_48 : decode cX0_copyFrom 48 = .ok (.aload_n 0, 1) := by decide +kernel
theorem dX0_copyFrom_49 : decode cX0_copyFrom 49 = .ok (.aload_n 1, 1) := by decide +kernel
theorem dX0_copyFrom_50 : decode cX0_copyFrom 50 = .ok (.getfield 28, 3) := by decide +kernel
theorem dX0_copyFrom_53 : decode cX0_copyFrom 53 = .ok (.putfield 28, 3) := by decide +kernel
theorem dX0_copyFrom_56 : decode cX0_copyFrom 56 = .ok (.return_, 1) := by decide +kernel
theorem dX1_init_0 : decode cX1_init 0 = .ok (.aload_n 0, 1) := by decide +kernel
theorem dX1_init_1 : decode cX1_init 1 = .ok (.invokespecial 3, 3) := by decide +kernel
theorem dX1_init_4 : decode cX1_init 4 = .ok (.aload_n 0, 1) := by decide +kernel
theorem dX1_init_5 : decode cX1_init 5 = .ok (.bipush 60, 2) := by decide +kernel
theorem dX1_init_7 : decode cX1_init 7 = .ok (.newarray .char, 2) := by decide +kernel
theorem dX1_init_9 : decode cX1_init 9 = .ok (.putfield 9, 3) := by decide +kernel
theorem dX1_init_12 : decode cX1_init 12 = .ok (.return_, 1) := by decide +kernel
set_option maxRecDepth 20000 in
theorem ggX1_append_X5_isIn : GoodIn wsX1_append wsX5_isIn := goodIn_r _ [5] (by decide +kernel) (by decide +kernel)
set_option maxRecDepth 20000 in
theorem gX1_append_X5_isIn_n15 : GoodIn wsX1_append (wsX5_isIn) := ggX1_append_X5_isIn
theorem dX1_append_0 : decode cX1_append 0 = .ok (.iload_n 1, 1) := by decide +kernel
theorem dX1_append_1 : decode cX1_append 1 = .ok (.bipush 32, 2) := by decide +kernel
theorem dX1_append_3 : decode cX1_append 3 = .ok (.bipush 126, 2) := by decide +kernel
theorem dX1_append_5 : decode cX1_append 5 = .ok (.invokestatic 15, 3) := by decide +kernel
theorem dX1_append_8 : decode cX1_append 8 = .ok (.ifCond .ne 5, 3) := by decide +kernel
theorem dX1_append_11 : decode cX1_append 11 = .ok (.iconst (-1), 1) := by decide +kernel
theorem dX1_append_12 : decode cX1_append 12 = .ok (.ireturn, 1) := by decide +kernel
theorem dX1_append_13 : decode cX1_append 13 = .ok (.aload_n 0, 1) := by decide +kernel
theorem dX1_append_14 : decode cX1_append 14 = .ok (.getfield 19, 3) := by decide +kernel
theorem dX1_append_17 : decode cX1_append 17 = .ok (.bipush 60, 2) := by decide +kernel
theorem dX1_append_19 : decode cX1_append 19 = .ok (.if_icmp .lt 6, 3) := by decide +kernel
theorem dX1_append_22 : decode cX1_append 22 = .ok (.bipush (-3), 2) := by decide +kernel
theorem dX1_append_24 : decode cX1_append 24 = .ok (.ireturn, 1) := by decide +kernel
theorem dX1_append_25 : decode cX1_append 25 = .ok (.aload_n 0, 1) := by decide +kernel
theorem dX1_append_26 : decode cX1_append 26 = .ok (.getfield 9, 3) := by decide +kernel
theorem dX1_append_29 : decode cX1_append 29 = .ok (.aload_n 0, 1) := by decide +kernel
theorem dX1_append_30 : decode cX1_append 30 = .ok (.getfield 19, 3) := by decide +kernel
theorem dX1_append_33 : decode cX1_append 33 = .ok (.iload_n 1, 1) := by decide +kernel
theorem dX1_append_34 : decode cX1_append 34 = .ok (.i2c, 1) := by decide +kernel
theorem dX1_append_35 : decode cX1_append 35 = .ok (.castore, 1) := by decide +kernel
theorem dX1_append_36 : decode cX1_append 36 = .ok (.aload_n 0, 1) := by decide +kernel
theorem dX1_append_37 : decode cX1_append 37 = .ok (.dup, 1) := by decide +kernel
theorem dX1_append_38 : decode cX1_append 38 = .ok (.getfield 19, 3) := by decide +kernel
theorem dX1_append_41 : decode cX1_append 41 = .ok (.iconst 1, 1) := by decide +kernel
theorem dX1_append_42 : decode cX1_append 42 = .ok (.iadd, 1) := by decide +kernel
theorem dX1_append_43 : decode cX1_append 43 = .ok (.putfield 19, 3) := by decide +kernel
theorem dX1_append_46 : decode cX1_append 46 = .ok (.aload_n 0, 1) := by decide +kernel
theorem dX1_append_47 : decode cX1_append 47 = .ok (.getfield 19, 3) := by decide +kernel
theorem dX1_append_50 : decode cX1_append 50 = .ok (.ireturn, 1) := by decide +kernel
theorem dX1_startReading_0 : decode cX1_startReading 0 = .ok (.aload_n 0, 1) := by decide +kernel
theorem dX1_startReading_1 : decode cX1_startReading 1 = .ok (.iconst 0, 1) := by decide +kernel
theorem dX1_startReading_2 : decode cX1_startReading 2 = .ok (.putfield 23, 3) := by decide +kernel
theorem dX1_startReading_5 : decode cX1_startReading 5 = .ok (.return_, 1) := by decide +kernel
theorem dX1_isAtEnd_0 : decode cX1_isAtEnd 0 = .ok (.aload_n 0, 1) := by decide +kernel
theorem dX1_isAtEnd_1 : decode cX1_isAtEnd 1 = .ok (.getfield 23, 3) := by decide +kernel
theorem dX1_isAtEnd_4 : decode cX1_isAtEnd 4 = .ok (.aload_n 0, 1) := by decide +kernel
theorem dX1_isAtEnd_5 : decode cX1_isAtEnd 5 = .ok (.getfield 19, 3) := by decide +kernel
theorem dX1_isAtEnd_8 : decode cX1_isAtEnd 8 = .ok (.if_icmp .lt 7, 3) := by decide +kernel
theorem dX1_isAtEnd_11 : decode cX1_isAtEnd 11 = .ok (.iconst 1, 1) := by decide +kernel
theorem dX1_isAtEnd_12 : decode cX1_isAtEnd 12 = .ok (.goto 4, 3) := by decide +kernel
theorem dX1_isAtEnd_15 : decode cX1_isAtEnd 15 = .ok (.iconst 0, 1) := by decide +kernel
theorem dX1_isAtEnd_16 : decode cX1_isAtEnd 16 = .ok (.ireturn, 1) := by decide +kernel
set_option maxRecDepth 20000 in
theorem ggX1_readOrder_X1_nextSign : GoodIn wsX1_readOrder wsX1_nextSign := goodIn_r _ [8, 2, 9, 10, 27, 28, 29, 30, 31, 32] (by decide +kernel) (by decide +kernel)
set_option maxRecDepth 20000 in
theorem gX1_readOrder_X1_nextSign : GoodIn wsX1_readOrder (wsV RX1 26 RX1 yX1_nextSign wsX1_nextSign) := goodIn_app (goodIn_of _ (by decide +kernel)) ggX1_readOrder_X1_nextSign
set_option maxRecDepth 20000 in
theorem ggX1_readOrder_X1_readSign : GoodIn wsX1_readOrder wsX1_readSign := goodIn_r _ [14, 2, 4, 5, 6, 7, 8, 9, 10, 27, 28, 29, 30, 31, 32] (by decide +kernel) (by decide +kernel)
set_option maxRecDepth 20000 in
theorem gX1_readOrder_X1_readSign : GoodIn wsX1_readOrder (wsV RX1 33 RX1 yX1_readSign wsX1_readSign) := goodIn_app (goodIn_of _ (by decide +kernel)) ggX1_readOrder_X1_readSign
set_option maxRecDepth 20000 in
theorem ggX1_readOrder_X1_readNumber : GoodIn wsX1_readOrder wsX1_readNumber := goodIn_r _ [18, 2, 4, 5, 6, 7, 8, 9, 10, 19, 20, 21, 27, 28, 29, 30, 31, 32] (by decide +kernel) (by decide +kernel)
set_option maxRecDepth 20000 in
theorem gX1_readOrder_X1_readNumber : GoodIn wsX1_readOrder (wsV RX1 37 RX1 yX1_readNumber wsX1_readNumber) := goodIn_app (goodIn_of _ (by decide +kernel)) ggX1_readOrder_X1_readNumber
set_option maxRecDepth 20000 in
theorem ggX1_readOrder_X1_readTwoNumbers : GoodIn wsX1_readOrder wsX1_readTwoNumbers := goodIn_r _ [25, 3, 26, 15, 16, 17, 7, 18, 2, 4, 5, 6, 8, 9, 10, 19, 20, 21, 11, 12, 13, 14, 27, 28, 29, 30, 31, 32] (by decide +kernel) (by decide +kernel)
set_option maxRecDepth 20000 in
theorem gX1_readOrder_X1_readTwoNumbers : GoodIn wsX1_readOrder (wsV RX1 44 RX1 yX1_readTwoNumbers wsX1_readTwoNumbers) := goodIn_app (goodIn_of _ (by decide +kernel)) ggX1_readOrder_X1_readTwoNumbers
theorem dX1_readOrder_0 : decode cX1_readOrder 0 = .ok (.aload_n 0, 1) := by decide +kernel
theorem dX1_readOrder_1 : decode cX1_readOrder 1 = .ok (.aload_n 0, 1) := by decide +kernel
theorem dX1_readOrder_2 : decode cX1_readOrder 2 = .ok (.invokevirtual 26, 3) := by decide +kernel
theorem dX1_readOrder_5 : decode cX1_readOrder 5 = .ok (.putfield 30, 3) := by decide +kernel
theorem dX1_readOrder_8 : decode cX1_readOrder 8 = .ok (.aload_n 0, 1) := by decide +kernel
theorem dX1_readOrder_9 : decode cX1_readOrder 9 = .ok (.dup, 1) := by decide +kernel
theorem dX1_readOrder_10 : decode cX1_readOrder 10 = .ok (.getfield 23, 3) := by decide +kernel
theorem dX1_readOrder_13 : decode cX1_readOrder 13 = .ok (.iconst 1, 1) := by decide +kernel
theorem dX1_readOrder_14 : decode cX1_readOrder 14 = .ok (.iadd, 1) := by decide +kernel
theorem dX1_readOrder_15 : decode cX1_readOrder 15 = .ok (.putfield 23, 3) := by decide +kernel
theorem dX1_readOrder_18 : decode cX1_readOrder 18 = .ok (.aload_n 0, 1) := by decide +kernel
theorem dX1_readOrder_19 : decode cX1_readOrder 19 = .ok (.getfield 30, 3) := by decide +kernel
theorem dX1_readOrder_22 : decode cX1_readOrder 22 = .ok (.tableswitch 121 109 120 #[99, 121, 121, 99, 121, 69, 121, 121, 121, 121, 62, 99], 62) := by decide +kernel
theorem dX1_readOrder_84 : decode cX1_readOrder 84 = .ok (.aload_n 0, 1) := by decide +kernel
theorem dX1_readOrder_85 : decode cX1_readOrder 85 = .ok (.bipush 59, 2) := by decide +kernel
theorem dX1_readOrder_87 : decode cX1_readOrder 87 = .ok (.invokevirtual 33, 3) := by decide +kernel
theorem dX1_readOrder_90 : decode cX1_readOrder 90 = .ok (.ireturn, 1) := by decide +kernel
theorem dX1_readOrder_91 : decode cX1_readOrder 91 = .ok (.aload_n 0, 1) := by decide +kernel
theorem dX1_readOrder_92 : decode cX1_readOrder 92 = .ok (.aload_n 0, 1) := by decide +kernel
theorem dX1_readOrder_93 : decode cX1_readOrder 93 = .ok (.invokevirtual 37, 3) := by decide +kernel
theorem dX1_readOrder_96 : decode cX1_readOrder 96 = .ok (.putfield 41, 3) := by decide +kernel
theorem dX1_readOrder_99 : decode cX1_readOrder 99 = .ok (.aload_n 0, 1) := by decide +kernel
theorem dX1_readOrder_100 : decode cX1_readOrder 100 = .ok (.getfield 41, 3) := by decide +kernel
theorem dX1_readOrder_103 : decode cX1_readOrder 103 = .ok (.ifCond .lt 16, 3) := by decide +kernel
theorem dX1_readOrder_106 : decode cX1_readOrder 106 = .ok (.aload_n 0, 1) := by decide +kernel
theorem dX1_readOrder_107 : decode cX1_readOrder 107 = .ok (.bipush 59, 2) := by decide +kernel
theorem dX1_readOrder_109 : decode cX1_readOrder 109 = .ok (.invokevirtual 33, 3) := by decide +kernel
theorem dX1_readOrder_112 : decode cX1_readOrder 112 = .ok (.ifCond .eq 7, 3) := by decide +kernel
theorem dX1_readOrder_115 : decode cX1_readOrder 115 = .ok (.iconst 1, 1) := by decide +kernel
theorem dX1_readOrder_116 : decode cX1_readOrder 116 = .ok (.goto 4, 3) := by decide +kernel
theorem dX1_readOrder_119 : decode cX1_readOrder 119 = .ok (.iconst 0, 1) := by decide +kernel
theorem dX1_readOrder_120 : decode cX1_readOrder 120 = .ok (.ireturn, 1) := by decide +kernel
theorem dX1_readOrder_121 : decode cX1_readOrder 121 = .ok (.aload_n 0, 1) := by decide +kernel
theorem dX1_readOrder_122 : decode cX1_readOrder 122 = .ok (.invokevirtual 44, 3) := by decide +kernel
theorem dX1_readOrder_125 : decode cX1_readOrder 125 = .ok (.ifCond .eq 16, 3) := by decide +kernel
theorem dX1_readOrder_128 : decode cX1_readOrder 128 = .ok (.aload_n 0, 1) := by decide +kernel
theorem dX1_readOrder_129 : decode cX1_readOrder 129 = .ok (.bipush 59, 2) := by decide +kernel
theorem dX1_readOrder_131 : decode cX1_readOrder 131 = .ok (.invokevirtual 33, 3) := by decide +kernel
theorem dX1_readOrder_134 : decode cX1_readOrder 134 = .ok (.ifCond .eq 7, 3) := by decide +kernel
theorem dX1_readOrder_137 : decode cX1_readOrder 137 = .ok (.iconst 1, 1) := by decide +kernel
theorem dX1_readOrder_138 : decode cX1_readOrder 138 = .ok (.goto 4, 3) := by decide +kernel
theorem dX1_readOrder_141 : decode cX1_readOrder 141 = .ok (.iconst 0, 1) := by decide +kernel
theorem dX1_readOrder_142 : decode cX1_readOrder 142 = .ok (.ireturn, 1) := by decide +kernel
theorem dX1_readOrder_143 : decode cX1_readOrder 143 = .ok (.iconst 0, 1) := by decide +kernel
theorem dX1_readOrder_144 : decode cX1_readOrder 144 = .ok (.ireturn, 1) := by decide +kernel
set_option maxRecDepth 20000 in
theorem ggX1_readTwoNumbers_X1_readNumber : GoodIn wsX1_readTwoNumbers wsX1_readNumber := goodIn_r _ [7, 8, 9, 10, 11, 6, 12, 13, 14, 15, 16, 17, 22, 23, 24, 25, 26, 27] (by decide +kernel) (by decide +kernel)
set_option maxRecDepth 20000 in
theorem gX1_readTwoNumbers_X1_readNumber : GoodIn wsX1_readTwoNumbers (wsV RX1 37 RX1 yX1_readNumber wsX1_readNumber) := goodIn_app (goodIn_of _ (by decide +kernel)) ggX1_readTwoNumbers_X1_readNumber
set_option maxRecDepth 20000 in
theorem ggX1_readTwoNumbers_X1_readSign : GoodIn wsX1_readTwoNumbers wsX1_readSign := goodIn_r _ [21, 8, 9, 10, 11, 6, 12, 13, 14, 22, 23, 24, 25, 26, 27] (by decide +kernel) (by decide +kernel)
set_option maxRecDepth 20000 in
theorem gX1_readTwoNumbers_X1_readSign : GoodIn wsX1_readTwoNumbers (wsV RX1 33 RX1 yX1_readSign wsX1_readSign) := goodIn_app (goodIn_of _ (by decide +kernel)) ggX1_readTwoNumbers_X1_readSign
theorem dX1_readTwoNumbers_0 : decode cX1_readTwoNumbers 0 = .ok (.aload_n 0, 1) := by decide +kernel
theorem dX1_readTwoNumbers_1 : decode cX1_readTwoNumbers 1 = .ok (.aload_n 0, 1) := by decide +kernel
theorem dX1_readTwoNumbers_2 : decode cX1_readTwoNumbers 2 = .ok (.invokevirtual 37, 3) := by decide +kernel
theorem dX1_readTwoNumbers_5 : decode cX1_readTwoNumbers 5 = .ok (.putfield 41, 3) := by decide +kernel
theorem dX1_readTwoNumbers_8 : decode cX1_readTwoNumbers 8 = .ok (.aload_n 0, 1) := by decide +kernel
theorem dX1_readTwoNumbers_9 : decode cX1_readTwoNumbers 9 = .ok (.getfield 41, 3) := by decide +kernel
theorem dX1_readTwoNumbers_12 : decode cX1_readTwoNumbers 12 = .ok (.ifCond .lt 12, 3) := by decide +kernel
theorem dX1_readTwoNumbers_15 : decode cX1_readTwoNumbers 15 = .ok (.aload_n 0, 1) := by decide +kernel
theorem dX1_readTwoNumbers_16 : decode cX1_readTwoNumbers 16 = .ok (.bipush 44, 2) := by decide +kernel
theorem dX1_readTwoNumbers_18 : decode cX1_readTwoNumbers 18 = .ok (.invokevirtual 33, 3) := by decide +kernel
theorem dX1_readTwoNumbers_21 : decode cX1_readTwoNumbers 21 = .ok (.ifCond .ne 5, 3) := by decide +kernel
theorem dX1_readTwoNumbers_24 : decode cX1_readTwoNumbers 24 = .ok (.iconst 0, 1) := by decide +kernel
theorem dX1_readTwoNumbers_25 : decode cX1_readTwoNumbers 25 = .ok (.ireturn, 1) := by decide +kernel
theorem dX1_readTwoNumbers_26 : decode cX1_readTwoNumbers 26 = .ok (.aload_n 0, 1) := by decide +kernel
theorem dX1_readTwoNumbers_27 : decode cX1_readTwoNumbers 27 = .ok (.aload_n 0, 1) := by decide +kernel
theorem dX1_readTwoNumbers_28 : decode cX1_readTwoNumbers 28 = .ok (.invokevirtual 37, 3) := by decide +kernel
theorem dX1_readTwoNumbers_31 : decode cX1_readTwoNumbers 31 = .ok (.putfield 48, 3) := by decide +kernel
theorem dX1_readTwoNumbers_34 : decode cX1_readTwoNumbers 34 = .ok (.aload_n 0, 1) := by decide +kernel
theorem dX1_readTwoNumbers_35 : decode cX1_readTwoNumbers 35 = .ok (.getfield 48, 3) := by decide +kernel
theorem dX1_readTwoNumbers_38 : decode cX1_readTwoNumbers 38 = .ok (.ifCond .lt 7, 3) := by decide +kernel
theorem dX1_readTwoNumbers_41 : decode cX1_readTwoNumbers 41 = .ok (.iconst 1, 1) := by decide +kernel
theorem dX1_readTwoNumbers_42 : decode cX1_readTwoNumbers 42 = .ok (.goto 4, 3) := by decide +kernel
theorem dX1_readTwoNumbers_45 : decode cX1_readTwoNumbers 45 = .ok (.iconst 0, 1) := by decide +kernel
theorem dX1_readTwoNumbers_46 : decode cX1_readTwoNumbers 46 = .ok (.ireturn, 1) := by decide +kernel
set_option maxRecDepth 20000 in
theorem ggX1_readNumber_X1_nextSign : GoodIn wsX1_readNumber wsX1_nextSign := goodIn_r _ [6, 1, 7, 8, 12, 13, 14, 15, 16, 17] (by decide +kernel) (by decide +kernel)
set_option maxRecDepth 20000 in
theorem gX1_readNumber_X1_nextSign : GoodIn wsX1_readNumber (wsV RX1 26 RX1 yX1_nextSign wsX1_nextSign) := goodIn_app (goodIn_of _ (by decide +kernel)) ggX1_readNumber_X1_nextSign
set_option maxRecDepth 20000 in
theorem ggX1_readNumber_X1_isDigit : GoodIn wsX1_readNumber wsX1_isDigit := goodIn_r _ [11] (by decide +kernel) (by decide +kernel)
set_option maxRecDepth 20000 in
theorem gX1_readNumber_X1_isDigit : GoodIn wsX1_readNumber (va_wsS RX1 51 yX1_isDigit wsX1_isDigit) := goodIn_app (goodIn_of _ (by decide +kernel)) ggX1_readNumber_X1_isDigit
theorem dX1_readNumber_0 : decode cX1_readNumber 0 = .ok (.iconst 0, 1) := by decide +kernel
theorem dX1_readNumber_1 : decode cX1_readNumber 1 = .ok (.istore_n 1, 1) := by decide +kernel
theorem dX1_readNumber_2 : decode cX1_readNumber 2 = .ok (.iconst 0, 1) := by decide +kernel
theorem dX1_readNumber_3 : decode cX1_readNumber 3 = .ok (.istore_n 2, 1) := by decide +kernel
theorem dX1_readNumber_4 : decode cX1_readNumber 4 = .ok (.iload_n 2, 1) := by decide +kernel
theorem dX1_readNumber_5 : decode cX1_readNumber 5 = .ok (.iconst 3, 1) := by decide +kernel
theorem dX1_readNumber_6 : decode cX1_readNumber 6 = .ok (.if_icmp .ge 42, 3) := by decide +kernel
theorem dX1_readNumber_9 : decode cX1_readNumber 9 = .ok (.aload_n 0, 1) := by decide +kernel
theorem dX1_readNumber_10 : decode cX1_readNumber 10 = .ok (.invokevirtual 26, 3) := by decide +kernel
theorem dX1_readNumber_13 : decode cX1_readNumber 13 = .ok (.invokestatic 51, 3) := by decide +kernel
theorem dX1_readNumber_16 : decode cX1_readNumber 16 = .ok (.ifCond .eq 32, 3) := by decide +kernel
theorem dX1_readNumber_19 : decode cX1_readNumber 19 = .ok (.bipush 10, 2) := by decide +kernel
theorem dX1_readNumber_21 : decode cX1_readNumber 21 = .ok (.iload_n 1, 1) := by decide +kernel
theorem dX1_readNumber_22 : decode cX1_readNumber 22 = .ok (.imul, 1) := by decide +kernel
theorem dX1_readNumber_23 : decode cX1_readNumber 23 = .ok (.aload_n 0, 1) := by decide +kernel
theorem dX1_readNumber_24 : decode cX1_readNumber 24 = .ok (.invokevirtual 26, 3) := by decide +kernel
theorem dX1_readNumber_27 : decode cX1_readNumber 27 = .ok (.bipush 48, 2) := by decide +kernel
theorem dX1_readNumber_29 : decode cX1_readNumber 29 = .ok (.isub, 1) := by decide +kernel
theorem dX1_readNumber_30 : decode cX1_readNumber 30 = .ok (.iadd, 1) := by decide +kernel
theorem dX1_readNumber_31 : decode cX1_readNumber 31 = .ok (.istore_n 1, 1) := by decide +kernel
theorem dX1_readNumber_32 : decode cX1_readNumber 32 = .ok (.iinc 2 1, 3) := by decide +kernel
theorem dX1_readNumber_35 : decode cX1_readNumber 35 = .ok (.aload_n 0, 1) := by decide +kernel
theorem dX1_readNumber_36 : decode cX1_readNumber 36 = .ok (.dup, 1) := by decide +kernel
theorem dX1_readNumber_37 : decode cX1_readNumber 37 = .ok (.getfield 23, 3) := by decide +kernel
theorem dX1_readNumber_40 : decode cX1_readNumber 40 = .ok (.iconst 1, 1) := by decide +kernel
theorem dX1_readNumber_41 : decode cX1_readNumber 41 = .ok (.iadd, 1) := by decide +kernel
theorem dX1_readNumber_42 : decode cX1_readNumber 42 = .ok (.putfield 23, 3) := by decide +kernel
theorem dX1_readNumber_45 : decode cX1_readNumber 45 = .ok (.goto (-41), 3) := by decide +kernel
theorem dX1_readNumber_48 : decode cX1_readNumber 48 = .ok (.iload_n 2, 1) := by decide +kernel
theorem dX1_readNumber_49 : decode cX1_readNumber 49 = .ok (.ifCond .ne 7, 3) := by decide +kernel
theorem dX1_readNumber_52 : decode cX1_readNumber 52 = .ok (.iconst (-1), 1) := by decide +kernel
theorem dX1_readNumber_53 : decode cX1_readNumber 53 = .ok (.goto 4, 3) := by decide +kernel
theorem dX1_readNumber_56 : decode cX1_readNumber 56 = .ok (.iload_n 1, 1) := by decide +kernel
theorem dX1_readNumber_57 : decode cX1_readNumber 57 = .ok (.ireturn, 1) := by decide +kernel
set_option maxRecDepth 20000 in
theorem ggX1_readSign_X1_nextSign : GoodIn wsX1_readSign wsX1_nextSign := goodIn_r _ [6, 1, 7, 8, 9, 10, 11, 12, 13, 14] (by decide +kernel) (by decide +kernel)
set_option maxRecDepth 20000 in
theorem gX1_readSign_X1_nextSign : GoodIn wsX1_readSign (wsV RX1 26 RX1 yX1_nextSign wsX1_nextSign) := goodIn_app (goodIn_of _ (by decide +kernel)) ggX1_readSign_X1_nextSign
theorem dX1_readSign_0 : decode cX1_readSign 0 = .ok (.aload_n 0, 1) := by decide +kernel
theorem dX1_readSign_1 : decode cX1_readSign 1 = .ok (.invokevirtual 26, 3) := by decide +kernel
theorem dX1_readSign_4 : decode cX1_readSign 4 = .ok (.iload_n 1, 1) := by decide +kernel
theorem dX1_readSign_5 : decode cX1_readSign 5 = .ok (.if_icmp .eq 5, 3) := by decide +kernel
theorem dX1_readSign_8 : decode cX1_readSign 8 = .ok (.iconst 0, 1) := by decide +kernel
theorem dX1_readSign_9 : decode cX1_readSign 9 = .ok (.ireturn, 1) := by decide +kernel
theorem dX1_readSign_10 : decode cX1_readSign 10 = .ok (.aload_n 0, 1) := by decide +kernel
theorem dX1_readSign_11 : decode cX1_readSign 11 = .ok (.dup, 1) := by decide +kernel
theorem dX1_readSign_12 : decode cX1_readSign 12 = .ok (.getfield 23, 3) := by decide +kernel
theorem dX1_readSign_15 : decode cX1_readSign 15 = .ok (.iconst 1, 1) := by decide +kernel
theorem dX1_readSign_16 : decode cX1_readSign 16 = .ok (.iadd, 1) := by decide +kernel
theorem dX1_readSign_17 : decode cX1_readSign 17 = .ok (.putfield 23, 3) := by decide +kernel
theorem dX1_readSign_20 : decode cX1_readSign 20 = .ok (.iconst 1, 1) := by decide +kernel
theorem dX1_readSign_21 : decode cX1_readSign 21 = .ok (.ireturn, 1) := by decide +kernel
theorem dX1_nextSign_0 : decode cX1_nextSign 0 = .ok (.aload_n 0, 1) := by decide +kernel
theorem dX1_nextSign_1 : decode cX1_nextSign 1 = .ok (.getfield 23, 3) := by decide +kernel
theorem dX1_nextSign_4 : decode cX1_nextSign 4 = .ok (.ifCond .lt 35, 3) := by decide +kernel
theorem dX1_nextSign_7 : decode cX1_nextSign 7 = .ok (.aload_n 0, 1) := by decide +kernel
theorem dX1_nextSign_8 : decode cX1_nextSign 8 = .ok (.getfield 23, 3) := by decide +kernel
theorem dX1_nextSign_11 : decode cX1_nextSign 11 = .ok (.aload_n 0, 1) := by decide +kernel
theorem dX1_nextSign_12 : decode cX1_nextSign 12 = .ok (.getfield 19, 3) := by decide +kernel
theorem dX1_nextSign_15 : decode cX1_nextSign 15 = .ok (.if_icmp .ge 24, 3) := by decide +kernel
theorem dX1_nextSign_18 : decode cX1_nextSign 18 = .ok (.aload_n 0, 1) := by decide +kernel
theorem dX1_nextSign_19 : decode cX1_nextSign 19 = .ok (.getfield 23, 3) := by decide +kernel
theorem dX1_nextSign_22 : decode cX1_nextSign 22 = .ok (.bipush 60, 2) := by decide +kernel
theorem dX1_nextSign_24 : decode cX1_nextSign 24 = .ok (.if_icmp .ge 15, 3) := by decide +kernel
theorem dX1_nextSign_27 : decode cX1_nextSign 27 = .ok (.aload_n 0, 1) := by decide +kernel
theorem dX1_nextSign_28 : decode cX1_nextSign 28 = .ok (.getfield 9, 3) := by decide +kernel
theorem dX1_nextSign_31 : decode cX1_nextSign 31 = .ok (.aload_n 0, 1) := by decide +kernel
theorem dX1_nextSign_32 : decode cX1_nextSign 32 = .ok (.getfield 23, 3) := by decide +kernel
theorem dX1_nextSign_35 : decode cX1_nextSign 35 = .ok (.caload, 1) := by decide +kernel
theorem dX1_nextSign_36 : decode cX1_nextSign 36 = .ok (.goto 5, 3) := by decide +kernel
theorem dX1_nextSign_39 : decode cX1_nextSign 39 = .ok (.bipush 32, 2) := by decide +kernel
theorem dX1_nextSign_41 : decode cX1_nextSign 41 = .ok (.ireturn, 1) := by decide +kernel
theorem dX1_isDigit_0 : decode cX1_isDigit 0 = .ok (.iload_n 0, 1) := by decide +kernel
theorem dX1_isDigit_1 : decode cX1_isDigit 1 = .ok (.bipush 48, 2) := by decide +kernel
theorem dX1_isDigit_3 : decode cX1_isDigit 3 = .ok (.if_icmp .lt 13, 3) := by decide +kernel
theorem dX1_isDigit_6 : decode cX1_isDigit 6 = .ok (.iload_n 0, 1) := by decide +kernel
theorem dX1_isDigit_7 : decode cX1_isDigit 7 = .ok (.bipush 57, 2) := by decide +kernel
theorem dX1_isDigit_9 : decode cX1_isDigit 9 = .ok (.if_icmp .gt 7, 3) := by decide +kernel
theorem dX1_isDigit_12 : decode cX1_isDigit 12 = .ok (.iconst 1, 1) := by decide +kernel
theorem dX1_isDigit_13 : decode cX1_isDigit 13 = .ok (.goto 4, 3) := by decide +kernel
theorem dX1_isDigit_16 : decode cX1_isDigit 16 = .ok (.iconst 0, 1) := by decide +kernel
theorem dX1_isDigit_17 : decode cX1_isDigit 17 = .ok (.ireturn, 1) := by decide +kernel
theorem dX2_isSlot_0 : decode cX2_isSlot 0 = .ok (.iload_n 0, 1) := by decide +kernel
theorem dX2_isSlot_1 : decode cX2_isSlot 1 = .ok (.ifCond .lt 13, 3) := by decide +kernel
theorem dX2_isSlot_4 : decode cX2_isSlot 4 = .ok (.iload_n 0, 1) := by decide +kernel
theorem dX2_isSlot_5 : decode cX2_isSlot 5 = .ok (.bipush 60, 2) := by decide +kernel
theorem dX2_isSlot_7 : decode cX2_isSlot 7 = .ok (.if_icmp .ge 7, 3) := by decide +kernel
theorem dX2_isSlot_10 : decode cX2_isSlot 10 = .ok (.iconst 1, 1) := by decide +kernel
theorem dX2_isSlot_11 : decode cX2_isSlot 11 = .ok (.goto 4, 3) := by decide +kernel
theorem dX2_isSlot_14 : decode cX2_isSlot 14 = .ok (.iconst 0, 1) := by decide +kernel
theorem dX2_isSlot_15 : decode cX2_isSlot 15 = .ok (.ireturn, 1) := by decide +kernel
theorem dX2_walkTo_0 : decode cX2_walkTo 0 = .ok (.iload_n 0, 1) := by decide +kernel
theorem dX2_walkTo_1 : decode cX2_walkTo 1 = .ok (.ifCond .lt 9, 3) := by decide +kernel
theorem dX2_walkTo_4 : decode cX2_walkTo 4 = .ok (.iload_n 0, 1) := by decide +kernel
theorem dX2_walkTo_5 : decode cX2_walkTo 5 = .ok (.bipush 60, 2) := by decide +kernel
theorem dX2_walkTo_7 : decode cX2_walkTo 7 = .ok (.if_icmp .lt 5, 3) := by decide +kernel
theorem dX2_walkTo_10 : decode cX2_walkTo 10 = .ok (.iconst 0, 1) := by decide +kernel
theorem dX2_walkTo_11 : decode cX2_walkTo 11 = .ok (.ireturn, 1) := by decide +kernel
theorem dX2_walkTo_12 : decode cX2_walkTo 12 = .ok (.iconst 4, 1) := by decide +kernel
theorem dX2_walkTo_13 : decode cX2_walkTo 13 = .ok (.iload_n 0, 1) := by decide +kernel
theorem dX2_walkTo_14 : decode cX2_walkTo 14 = .ok (.bipush 6, 2) := by decide +kernel
theorem dX2_walkTo_16 : decode cX2_walkTo 16 = .ok (.idiv, 1) := by decide +kernel
theorem dX2_walkTo_17 : decode cX2_walkTo 17 = .ok (.imul, 1) := by decide +kernel
theorem dX2_walkTo_18 : decode cX2_walkTo 18 = .ok (.iconst 4, 1) := by decide +kernel
theorem dX2_walkTo_19 : decode cX2_walkTo 19 = .ok (.iadd, 1) := by decide +kernel
theorem dX2_walkTo_20 : decode cX2_walkTo 20 = .ok (.getstatic 9, 3) := by decide +kernel
theorem dX2_walkTo_23 : decode cX2_walkTo 23 = .ok (.iload_n 0, 1) := by decide +kernel
theorem dX2_walkTo_24 : decode cX2_walkTo 24 = .ok (.bipush 6, 2) := by decide +kernel
theorem dX2_walkTo_26 : decode cX2_walkTo 26 = .ok (.irem, 1) := by decide +kernel
theorem dX2_walkTo_27 : decode cX2_walkTo 27 = .ok (.iaload, 1) := by decide +kernel
theorem dX2_walkTo_28 : decode cX2_walkTo 28 = .ok (.iadd, 1) := by decide +kernel
theorem dX2_walkTo_29 : decode cX2_walkTo 29 = .ok (.ireturn, 1) := by decide +kernel
theorem dX2_heaviestAt_0 : decode cX2_heaviestAt 0 = .ok (.iload_n 0, 1) := by decide +kernel
theorem dX2_heaviestAt_1 : decode cX2_heaviestAt 1 = .ok (.ifCond .lt 20, 3) := by decide +kernel
theorem dX2_heaviestAt_4 : decode cX2_heaviestAt 4 = .ok (.iload_n 0, 1) := by decide +kernel
theorem dX2_heaviestAt_5 : decode cX2_heaviestAt 5 = .ok (.bipush 60, 2) := by decide +kernel
theorem dX2_heaviestAt_7 : decode cX2_heaviestAt 7 = .ok (.if_icmp .ge 14, 3) := by decide +kernel
theorem dX2_heaviestAt_10 : decode cX2_heaviestAt 10 = .ok (.getstatic 13, 3) := by decide +kernel
theorem dX2_heaviestAt_13 : decode cX2_heaviestAt 13 = .ok (.iload_n 0, 1) := by decide +kernel
theorem dX2_heaviestAt_14 : decode cX2_heaviestAt 14 = .ok (.bipush 6, 2) := by decide +kernel
theorem dX2_heaviestAt_16 : decode cX2_heaviestAt 16 = .ok (.irem, 1) := by decide +kernel
theorem dX2_heaviestAt_17 : decode cX2_heaviestAt 17 = .ok (.iaload, 1) := by decide +kernel
theorem dX2_heaviestAt_18 : decode cX2_heaviestAt 18 = .ok (.goto 4, 3) := by decide +kernel
theorem dX2_heaviestAt_21 : decode cX2_heaviestAt 21 = .ok (.iconst 0, 1) := by decide +kernel
theorem dX2_heaviestAt_22 : decode cX2_heaviestAt 22 = .ok (.ireturn, 1) := by decide +kernel
theorem dX2_wayBetween_0 : decode cX2_wayBetween 0 = .ok (.iload_n 0, 1) := by decide +kernel
theorem dX2_wayBetween_1 : decode cX2_wayBetween 1 = .ok (.ifCond .lt 19, 3) := by decide +kernel
theorem dX2_wayBetween_4 : decode cX2_wayBetween 4 = .ok (.iload_n 0, 1) := by decide +kernel
theorem dX2_wayBetween_5 : decode cX2_wayBetween 5 = .ok (.bipush 60, 2) := by decide +kernel
theorem dX2_wayBetween_7 : decode cX2_wayBetween 7 = .ok (.if_icmp .ge 13, 3) := by decide +kernel
theorem dX2_wayBetween_10 : decode cX2_wayBetween 10 = .ok (.iload_n 1, 1) := by decide +kernel
theorem dX2_wayBetween_11 : decode cX2_wayBetween 11 = .ok (.ifCond .lt 9, 3) := by decide +kernel
theorem dX2_wayBetween_14 : decode cX2_wayBetween 14 = .ok (.iload_n 1, 1) := by decide +kernel
theorem dX2_wayBetween_15 : decode cX2_wayBetween 15 = .ok (.bipush 60, 2) := by decide +kernel
theorem dX2_wayBetween_17 : decode cX2_wayBetween 17 = .ok (.if_icmp .lt 5, 3) := by decide +kernel
theorem dX2_wayBetween_20 : decode cX2_wayBetween 20 = .ok (.iconst 0, 1) := by decide +kernel
theorem dX2_wayBetween_21 : decode cX2_wayBetween 21 = .ok (.ireturn, 1) := by decide +kernel
theorem dX2_wayBetween_22 : decode cX2_wayBetween 22 = .ok (.iload_n 0, 1) := by decide +kernel
theorem dX2_wayBetween_23 : decode cX2_wayBetween 23 = .ok (.bipush 6, 2) := by decide +kernel
theorem dX2_wayBetween_25 : decode cX2_wayBetween 25 = .ok (.idiv, 1) := by decide +kernel
theorem dX2_wayBetween_26 : decode cX2_wayBetween 26 = .ok (.iload_n 1, 1) := by decide +kernel
theorem dX2_wayBetween_27 : decode cX2_wayBetween 27 = .ok (.bipush 6, 2) := by decide +kernel
theorem dX2_wayBetween_29 : decode cX2_wayBetween 29 = .ok (.idiv, 1) := by decide +kernel
theorem dX2_wayBetween_30 : decode cX2_wayBetween 30 = .ok (.isub, 1) := by decide +kernel
theorem dX2_wayBetween_31 : decode cX2_wayBetween 31 = .ok (.invokestatic 16, 3) := by decide +kernel
theorem dX2_wayBetween_34 : decode cX2_wayBetween 34 = .ok (.istore_n 2, 1) := by decide +kernel
theorem dX2_wayBetween_35 : decode cX2_wayBetween 35 = .ok (.iconst 4, 1) := by decide +kernel
theorem dX2_wayBetween_36 : decode cX2_wayBetween 36 = .ok (.iload_n 2, 1) := by decide +kernel
theorem dX2_wayBetween_37 : decode cX2_wayBetween 37 = .ok (.imul, 1) := by decide +kernel
theorem dX2_wayBetween_38 : decode cX2_wayBetween 38 = .ok (.getstatic 9, 3) := by decide +kernel
theorem dX2_wayBetween_41 : decode cX2_wayBetween 41 = .ok (.iload_n 0, 1) := by decide +kernel
theorem dX2_wayBetween_42 : decode cX2_wayBetween 42 = .ok (.bipush 6, 2) := by decide +kernel
theorem dX2_wayBetween_44 : decode cX2_wayBetween 44 = .ok (.irem, 1) := by decide +kernel
theorem dX2_wayBetween_45 : decode cX2_wayBetween 45 = .ok (.iaload, 1) := by decide +kernel
theorem dX2_wayBetween_46 : decode cX2_wayBetween 46 = .ok (.iadd, 1) := by decide +kernel
theorem dX2_wayBetween_47 : decode cX2_wayBetween 47 = .ok (.getstatic 9, 3) := by decide +kernel
theorem dX2_wayBetween_50 : decode cX2_wayBetween 50 = .ok (.iload_n 1, 1) := by decide +kernel
theorem dX2_wayBetween_51 : decode cX2_wayBetween 51 = .ok (.bipush 6, 2) := by decide +kernel
theorem dX2_wayBetween_53 : decode cX2_wayBetween 53 = .ok (.irem, 1) := by decide +kernel
theorem dX2_wayBetween_54 : decode cX2_wayBetween 54 = .ok (.iaload, 1) := by decide +kernel
theorem dX2_wayBetween_55 : decode cX2_wayBetween 55 = .ok (.iadd, 1) := by decide +kernel
theorem dX2_wayBetween_56 : decode cX2_wayBetween 56 = .ok (.ireturn, 1) := by decide +kernel
theorem dX2_greatestHeightFor_0 : decode cX2_greatestHeightFor 0 = .ok (.iconst 0, 1) := by decide +kernel
theorem dX2_greatestHeightFor_1 : decode cX2_greatestHeightFor 1 = .ok (.istore_n 1, 1) := by decide +kernel
theorem dX2_greatestHeightFor_2 : decode cX2_greatestHeightFor 2 = .ok (.iconst 0, 1) := by decide +kernel
theorem dX2_greatestHeightFor_3 : decode cX2_greatestHeightFor 3 = .ok (.istore_n 2, 1) := by decide +kernel
theorem dX2_greatestHeightFor_4 : decode cX2_greatestHeightFor 4 = .ok (.iload_n 2, 1) := by decide +kernel
theorem dX2_greatestHeightFor_5 : decode cX2_greatestHeightFor 5 = .ok (.bipush 6, 2) := by decide +kernel
theorem dX2_greatestHeightFor_7 : decode cX2_greatestHeightFor 7 = .ok (.if_icmp .ge 20, 3) := by decide +kernel
theorem dX2_greatestHeightFor_10 : decode cX2_greatestHeightFor 10 = .ok (.iload_n 0, 1) := by decide +kernel
theorem dX2_greatestHeightFor_11 : decode cX2_greatestHeightFor 11 = .ok (.getstatic 13, 3) := by decide +kernel
theorem dX2_greatestHeightFor_14 : decode cX2_greatestHeightFor 14 = .ok (.iload_n 2, 1) := by decide +kernel
theorem dX2_greatestHeightFor_15 : decode cX2_greatestHeightFor 15 = .ok (.iaload, 1) := by decide +kernel
theorem dX2_greatestHeightFor_16 : decode cX2_greatestHeightFor 16 = .ok (.if_icmp .gt 5, 3) := by decide +kernel
theorem dX2_greatestHeightFor_19 : decode cX2_greatestHeightFor 19 = .ok (.iload_n 2, 1) := by decide +kernel
theorem dX2_greatestHeightFor_20 : decode cX2_greatestHeightFor 20 = .ok (.istore_n 1, 1) := by decide +kernel
theorem dX2_greatestHeightFor_21 : decode cX2_greatestHeightFor 21 = .ok (.iinc 2 1, 3) := by decide +kernel
theorem dX2_greatestHeightFor_24 : decode cX2_greatestHeightFor 24 = .ok (.goto (-20), 3) := by decide +kernel
theorem dX2_greatestHeightFor_27 : decode cX2_greatestHeightFor 27 = .ok (.iload_n 1, 1) := by decide +kernel
theorem dX2_greatestHeightFor_28 : decode cX2_greatestHeightFor 28 = .ok (.ireturn, 1) := by decide +kernel
theorem dX3_init_0 : decode cX3_init 0 = .ok (.aload_n 0, 1) := by decide +kernel
theorem dX3_init_1 : decode cX3_init 1 = .ok (.invokespecial 3, 3) := by decide +kernel
theorem dX3_init_4 : decode cX3_init 4 = .ok (.aload_n 0, 1) := by decide +kernel
theorem dX3_init_5 : decode cX3_init 5 = .ok (.bipush 20, 2) := by decide +kernel
theorem dX3_init_7 : decode cX3_init 7 = .ok (.newarray .int, 2) := by decide +kernel
theorem dX3_init_9 : decode cX3_init 9 = .ok (.putfield 9, 3) := by decide +kernel
theorem dX3_init_12 : decode cX3_init 12 = .ok (.return_, 1) := by decide +kernel
theorem dX3_insert_0 : decode cX3_insert 0 = .ok (.aload_n 0, 1) := by decide +kernel
theorem dX3_insert_1 : decode cX3_insert 1 = .ok (.getfield 15, 3) := by decide +kernel
theorem dX3_insert_4 : decode cX3_insert 4 = .ok (.ifCond .lt 12, 3) := by decide +kernel
theorem dX3_insert_7 : decode cX3_insert 7 = .ok (.aload_n 0, 1) := by decide +kernel
theorem dX3_insert_8 : decode cX3_insert 8 = .ok (.getfield 15, 3) := by decide +kernel
theorem dX3_insert_11 : decode cX3_insert 11 = .ok (.bipush 20, 2) := by decide +kernel
theorem dX3_insert_13 : decode cX3_insert 13 = .ok (.if_icmp .lt 4, 3) := by decide +kernel
theorem dX3_insert_16 : decode cX3_insert 16 = .ok (.return_, 1) := by decide +kernel
theorem dX3_insert_17 : decode cX3_insert 17 = .ok (.aload_n 0, 1) := by decide +kernel
theorem dX3_insert_18 : decode cX3_insert 18 = .ok (.getfield 15, 3) := by decide +kernel
theorem dX3_insert_21 : decode cX3_insert 21 = .ok (.istore_n 2, 1) := by decide +kernel
theorem dX3_insert_22 : decode cX3_insert 22 = .ok (.iload_n 2, 1) := by decide +kernel
theorem dX3_insert_23 : decode cX3_insert 23 = .ok (.ifCond .le 35, 3) := by decide +kernel
theorem dX3_insert_26 : decode cX3_insert 26 = .ok (.aload_n 0, 1) := by decide +kernel
theorem dX3_insert_27 : decode cX3_insert 27 = .ok (.getfield 9, 3) := by decide +kernel
theorem dX3_insert_30 : decode cX3_insert 30 = .ok (.iload_n 2, 1) := by decide +kernel
theorem dX3_insert_31 : decode cX3_insert 31 = .ok (.iconst 1, 1) := by decide +kernel
theorem dX3_insert_32 : decode cX3_insert 32 = .ok (.isub, 1) := by decide +kernel
theorem dX3_insert_33 : decode cX3_insert 33 = .ok (.iaload, 1) := by decide +kernel
theorem dX3_insert_34 : decode cX3_insert 34 = .ok (.iload_n 1, 1) := by decide +kernel
theorem dX3_insert_35 : decode cX3_insert 35 = .ok (.if_icmp .le 23, 3) := by decide +kernel
theorem dX3_insert_38 : decode cX3_insert 38 = .ok (.aload_n 0, 1) := by decide +kernel
theorem dX3_insert_39 : decode cX3_insert 39 = .ok (.getfield 9, 3) := by decide +kernel
theorem dX3_insert_42 : decode cX3_insert 42 = .ok (.iload_n 2, 1) := by decide +kernel
theorem dX3_insert_43 : decode cX3_insert 43 = .ok (.aload_n 0, 1) := by decide +kernel
theorem dX3_insert_44 : decode cX3_insert 44 = .ok (.getfield 9, 3) := by decide +kernel
theorem dX3_insert_47 : decode cX3_insert 47 = .ok (.iload_n 2, 1) := by decide +kernel
theorem dX3_insert_48 : decode cX3_insert 48 = .ok (.iconst 1, 1) := by decide +kernel
theorem dX3_insert_49 : decode cX3_insert 49 = .ok (.isub, 1) := by decide +kernel
theorem dX3_insert_50 : decode cX3_insert 50 = .ok (.iaload, 1) := by decide +kernel
theorem dX3_insert_51 : decode cX3_insert 51 = .ok (.iastore, 1) := by decide +kernel
theorem dX3_insert_52 : decode cX3_insert 52 = .ok (.iinc 2 (-1), 3) := by decide +kernel
theorem dX3_insert_55 : decode cX3_insert 55 = .ok (.goto (-33), 3) := by decide +kernel
theorem dX3_insert_58 : decode cX3_insert 58 = .ok (.aload_n 0, 1) := by decide +kernel
theorem dX3_insert_59 : decode cX3_insert 59 = .ok (.getfield 9, 3) := by decide +kernel
theorem dX3_insert_62 : decode cX3_insert 62 = .ok (.iload_n 2, 1) := by decide +kernel
theorem dX3_insert_63 : decode cX3_insert 63 = .ok (.iload_n 1, 1) := by decide +kernel
theorem dX3_insert_64 : decode cX3_insert 64 = .ok (.iastore, 1) := by decide +kernel
theorem dX3_insert_65 : decode cX3_insert 65 = .ok (.aload_n 0, 1) := by decide +kernel
theorem dX3_insert_66 : decode cX3_insert 66 = .ok (.dup, 1) := by decide +kernel
theorem dX3_insert_67 : decode cX3_insert 67 = .ok (.getfield 15, 3) := by decide +kernel
theorem dX3_insert_70 : decode cX3_insert 70 = .ok (.iconst 1, 1) := by decide +kernel
theorem dX3_insert_71 : decode cX3_insert 71 = .ok (.iadd, 1) := by decide +kernel
theorem dX3_insert_72 : decode cX3_insert 72 = .ok (.putfield 15, 3) := by decide +kernel
theorem dX3_insert_75 : decode cX3_insert 75 = .ok (.return_, 1) := by decide +kernel
theorem dX3_valueAt_0 : decode cX3_valueAt 0 = .ok (.iload_n 1, 1) := by decide +kernel
theorem dX3_valueAt_1 : decode cX3_valueAt 1 = .ok (.ifCond .lt 20, 3) := by decide +kernel
theorem dX3_valueAt_4 : decode cX3_valueAt 4 = .ok (.iload_n 1, 1) := by decide +kernel
theorem dX3_valueAt_5 : decode cX3_valueAt 5 = .ok (.aload_n 0, 1) := by decide +kernel
theorem dX3_valueAt_6 : decode cX3_valueAt 6 = .ok (.getfield 15, 3) := by decide +kernel
theorem dX3_valueAt_9 : decode cX3_valueAt 9 = .ok (.if_icmp .ge 12, 3) := by decide +kernel
theorem dX3_valueAt_12 : decode cX3_valueAt 12 = .ok (.aload_n 0, 1) := by decide +kernel
theorem dX3_valueAt_13 : decode cX3_valueAt 13 = .ok (.getfield 9, 3) := by decide +kernel
theorem dX3_valueAt_16 : decode cX3_valueAt 16 = .ok (.iload_n 1, 1) := by decide +kernel
theorem dX3_valueAt_17 : decode cX3_valueAt 17 = .ok (.iaload, 1) := by decide +kernel
theorem dX3_valueAt_18 : decode cX3_valueAt 18 = .ok (.goto 4, 3) := by decide +kernel
theorem dX3_valueAt_21 : decode cX3_valueAt 21 = .ok (.iconst 0, 1) := by decide +kernel
theorem dX3_valueAt_22 : decode cX3_valueAt 22 = .ok (.ireturn, 1) := by decide +kernel
end
section
set_option maxRecDepth 20000 in
theorem ggX4_init_X0_init : GoodIn wsX4_init wsX0_init := goodIn_r _ [20, 21, 2, 3] (by decide +kernel) (by decide +kernel)
set_option maxRecDepth 20000 in
theorem gX4_init_X0_init_n46 : GoodIn wsX4_init (wsX0_init) := ggX4_init_X0_init
theorem dX4_init_0 : decode cX4_init 0 = .ok (.aload_n 0, 1) := by decide +kernel
theorem dX4_init_1 : decode cX4_init 1 = .ok (.invokespecial 3, 3) := by decide +kernel
theorem dX4_init_4 : decode cX4_init 4 = .ok (.aload_n 0, 1) := by decide +kernel
theorem dX4_init_5 : decode cX4_init 5 = .ok (.bipush 20, 2) := by decide +kernel
theorem dX4_init_7 : decode cX4_init 7 = .ok (.newarray .int, 2) := by decide +kernel
theorem dX4_init_9 : decode cX4_init 9 = .ok (.putfield 9, 3) := by decide +kernel
theorem dX4_init_12 : decode cX4_init 12 = .ok (.aload_n 0, 1) := by decide +kernel
theorem dX4_init_13 : decode cX4_init 13 = .ok (.bipush 20, 2) := by decide +kernel
theorem dX4_init_15 : decode cX4_init 15 = .ok (.newarray .int, 2) := by decide +kernel
theorem dX4_init_17 : decode cX4_init 17 = .ok (.putfield 15, 3) := by decide +kernel
theorem dX4_init_20 : decode cX4_init 20 = .ok (.aload_n 0, 1) := by decide +kernel
theorem dX4_init_21 : decode cX4_init 21 = .ok (.bipush 80, 2) := by decide +kernel
theorem dX4_init_23 : decode cX4_init 23 = .ok (.newarray .int, 2) := by decide +kernel
theorem dX4_init_25 : decode cX4_init 25 = .ok (.putfield 18, 3) := by decide +kernel
theorem dX4_init_28 : decode cX4_init 28 = .ok (.aload_n 0, 1) := by decide +kernel
theorem dX4_init_29 : decode cX4_init 29 = .ok (.bipush 20, 2) := by decide +kernel
theorem dX4_init_31 : decode cX4_init 31 = .ok (.newarray .int, 2) := by decide +kernel
theorem dX4_init_33 : decode cX4_init 33 = .ok (.putfield 21, 3) := by decide +kernel
theorem dX4_init_36 : decode cX4_init 36 = .ok (.aload_n 0, 1) := by decide +kernel
theorem dX4_init_37 : decode cX4_init 37 = .ok (.bipush 20, 2) := by decide +kernel
theorem dX4_init_39 : decode cX4_init 39 = .ok (.newarray .int, 2) := by decide +kernel
theorem dX4_init_41 : decode cX4_init 41 = .ok (.putfield 24, 3) := by decide +kernel
theorem dX4_init_44 : decode cX4_init 44 = .ok (.aload_n 0, 1) := by decide +kernel
theorem dX4_init_45 : decode cX4_init 45 = .ok (.bipush 20, 2) := by decide +kernel
theorem dX4_init_47 : decode cX4_init 47 = .ok (.newarray .int, 2) := by decide +kernel
theorem dX4_init_49 : decode cX4_init 49 = .ok (.putfield 27, 3) := by decide +kernel
theorem dX4_init_52 : decode cX4_init 52 = .ok (.aload_n 0, 1) := by decide +kernel
theorem dX4_init_53 : decode cX4_init 53 = .ok (.bipush 20, 2) := by decide +kernel
theorem dX4_init_55 : decode cX4_init 55 = .ok (.newarray .int, 2) := by decide +kernel
theorem dX4_init_57 : decode cX4_init 57 = .ok (.putfield 30, 3) := by decide +kernel
theorem dX4_init_60 : decode cX4_init 60 = .ok (.aload_n 0, 1) := by decide +kernel
theorem dX4_init_61 : decode cX4_init 61 = .ok (.bipush 20, 2) := by decide +kernel
theorem dX4_init_63 : decode cX4_init 63 = .ok (.newarray .int, 2) := by decide +kernel
theorem dX4_init_65 : decode cX4_init 65 = .ok (.putfield 33, 3) := by decide +kernel
theorem dX4_init_68 : decode cX4_init 68 = .ok (.aload_n 0, 1) := by decide +kernel
theorem dX4_init_69 : decode cX4_init 69 = .ok (.bipush 60, 2) := by decide +kernel
theorem dX4_init_71 : decode cX4_init 71 = .ok (.newarray .int, 2) := by decide +kernel
theorem dX4_init_73 : decode cX4_init 73 = .ok (.putfield 38, 3) := by decide +kernel
theorem dX4_init_76 : decode cX4_init 76 = .ok (.aload_n 0, 1) := by decide +kernel
theorem dX4_init_77 : decode cX4_init 77 = .ok (.iconst 3, 1) := by decide +kernel
theorem dX4_init_78 : decode cX4_init 78 = .ok (.newarray .int, 2) := by decide +kernel
theorem dX4_init_80 : decode cX4_init 80 = .ok (.dup, 1) := by decide +kernel
theorem dX4_init_81 : decode cX4_init 81 = .ok (.iconst 0, 1) := by decide +kernel
theorem dX4_init_82 : decode cX4_init 82 = .ok (.bipush 30, 2) := by decide +kernel
theorem dX4_init_84 : decode cX4_init 84 = .ok (.iastore, 1) := by decide +kernel
theorem dX4_init_85 : decode cX4_init 85 = .ok (.dup, 1) := by decide +kernel
theorem dX4_init_86 : decode cX4_init 86 = .ok (.iconst 1, 1) := by decide +kernel
theorem dX4_init_87 : decode cX4_init 87 = .ok (.bipush 60, 2) := by decide +kernel
theorem dX4_init_89 : decode cX4_init 89 = .ok (.iastore, 1) := by decide +kernel
theorem dX4_init_90 : decode cX4_init 90 = .ok (.dup, 1) := by decide +kernel
theorem dX4_init_91 : decode cX4_init 91 = .ok (.iconst 2, 1) := by decide +kernel
theorem dX4_init_92 : decode cX4_init 92 = .ok (.iconst 1, 1) := by decide +kernel
theorem dX4_init_93 : decode cX4_init 93 = .ok (.iastore, 1) := by decide +kernel
theorem dX4_init_94 : decode cX4_init 94 = .ok (.putfield 41, 3) := by decide +kernel
theorem dX4_init_97 : decode cX4_init 97 = .ok (.aload_n 0, 1) := by decide +kernel
theorem dX4_init_98 : decode cX4_init 98 = .ok (.new 44, 3) := by decide +kernel
theorem dX4_init_101 : decode cX4_init 101 = .ok (.dup, 1) := by decide +kernel
theorem dX4_init_102 : decode cX4_init 102 = .ok (.invokespecial 46, 3) := by decide +kernel
theorem dX4_init_105 : decode cX4_init 105 = .ok (.putfield 47, 3) := by decide +kernel
theorem dX4_init_108 : decode cX4_init 108 = .ok (.iconst 0, 1) := by decide +kernel
theorem dX4_init_109 : decode cX4_init 109 = .ok (.istore_n 1, 1) := by decide +kernel
theorem dX4_init_110 : decode cX4_init 110 = .ok (.iload_n 1, 1) := by decide +kernel
theorem dX4_init_111 : decode cX4_init 111 = .ok (.bipush 60, 2) := by decide +kernel
theorem dX4_init_113 : decode cX4_init 113 = .ok (.if_icmp .ge 16, 3) := by decide +kernel
theorem dX4_init_116 : decode cX4_init 116 = .ok (.aload_n 0, 1) := by decide +kernel
theorem dX4_init_117 : decode cX4_init 117 = .ok (.getfield 38, 3) := by decide +kernel
theorem dX4_init_120 : decode cX4_init 120 = .ok (.iload_n 1, 1) := by decide +kernel
theorem dX4_init_121 : decode cX4_init 121 = .ok (.iconst (-1), 1) := by decide +kernel
theorem dX4_init_122 : decode cX4_init 122 = .ok (.iastore, 1) := by decide +kernel
theorem dX4_init_123 : decode cX4_init 123 = .ok (.iinc 1 1, 3) := by decide +kernel
theorem dX4_init_126 : decode cX4_init 126 = .ok (.goto (-16), 3) := by decide +kernel
theorem dX4_init_129 : decode cX4_init 129 = .ok (.return_, 1) := by decide +kernel
set_option maxRecDepth 20000 in
theorem ggX4_copyFrom_X4_copyRow : GoodIn wsX4_copyFrom wsX4_copyRow := goodIn_r _ [17, 18, 19, 20, 21, 22, 23, 24, 25] (by decide +kernel) (by decide +kernel)
set_option maxRecDepth 20000 in
theorem gX4_copyFrom_X4_copyRow : GoodIn wsX4_copyFrom (va_wsS RX4 51 yX4_copyRow wsX4_copyRow) := goodIn_app (goodIn_of _ (by decide +kernel)) ggX4_copyFrom_X4_copyRow
set_option maxRecDepth 20000 in
theorem ggX4_copyFrom_X0_copyFrom : GoodIn wsX4_copyFrom wsX0_copyFrom := goodIn_r _ [30, 31, 32, 33, 34, 35, 36, 37, 51, 52, 53, 54, 55, 56, 57] (by decide +kernel) (by decide +kernel)
set_option maxRecDepth 20000 in
theorem gX4_copyFrom_X0_copyFrom : GoodIn wsX4_copyFrom (wsV RX4 55 RX0 yX0_copyFrom wsX0_copyFrom) := goodIn_app (goodIn_of _ (by decide +kernel)) ggX4_copyFrom_X0_copyFrom
theorem dX4_copyFrom_0 : decode cX4_copyFrom 0 = .ok (.aload_n 1, 1) := by decide +kernel
theorem dX4_copyFrom_1 : decode cX4_copyFrom 1 = .ok (.getfield 9, 3) := by decide +kernel
theorem dX4_copyFrom_4 : decode cX4_copyFrom 4 = .ok (.aload_n 0, 1) := by decide +kernel
theorem dX4_copyFrom_5 : decode cX4_copyFrom 5 = .ok (.getfield 9, 3) := by decide +kernel
theorem dX4_copyFrom_8 : decode cX4_copyFrom 8 = .ok (.invokestatic 51, 3) := by decide +kernel
theorem dX4_copyFrom_11 : decode cX4_copyFrom 11 = .ok (.aload_n 1, 1) := by decide +kernel
theorem dX4_copyFrom_12 : decode cX4_copyFrom 12 = .ok (.getfield 15, 3) := by decide +kernel
theorem dX4_copyFrom_15 : decode cX4_copyFrom 15 = .ok (.aload_n 0, 1) := by decide +kernel
theorem dX4_copyFrom_16 : decode cX4_copyFrom 16 = .ok (.getfield 15, 3) := by decide +kernel
theorem dX4_copyFrom_19 : decode cX4_copyFrom 19 = .ok (.invokestatic 51, 3) := by decide +kernel
theorem dX4_copyFrom_22 : decode cX4_copyFrom 22 = .ok (.aload_n 1, 1) := by decide +kernel
theorem dX4_copyFrom_23 : decode cX4_copyFrom 23 = .ok (.getfield 18, 3) := by decide +kernel
theorem dX4_copyFrom_26 : decode cX4_copyFrom 26 = .ok (.aload_n 0, 1) := by decide +kernel
theorem dX4_copyFrom_27 : decode cX4_copyFrom 27 = .ok (.getfield 18, 3) := by decide +kernel
theorem dX4_copyFrom_30 : decode cX4_copyFrom 30 = .ok (.invokestatic 51, 3) := by decide +kernel
theorem dX4_copyFrom_33 : decode cX4_copyFrom 33 = .ok (.aload_n 1, 1) := by decide +kernel
theorem dX4_copyFrom_34 : decode cX4_copyFrom 34 = .ok (.getfield 21, 3) := by decide +kernel
theorem dX4_copyFrom_37 : decode cX4_copyFrom 37 = .ok (.aload_n 0, 1) := by decide +kernel
theorem dX4_copyFrom_38 : decode cX4_copyFrom 38 = .ok (.getfield 21, 3) := by decide +kernel
theorem dX4_copyFrom_41 : decode cX4_copyFrom 41 = .ok (.invokestatic 51, 3) := by decide +kernel
theorem dX4_copyFrom_44 : decode cX4_copyFrom 44 = .ok (.aload_n 1, 1) := by decide +kernel
theorem dX4_copyFrom_45 : decode cX4_copyFrom 45 = .ok (.getfield 24, 3) := by decide +kernel
theorem dX4_copyFrom_48 : decode cX4_copyFrom 48 = .ok (.aload_n 0, 1) := by decide +kernel
theorem dX4_copyFrom_49 : decode cX4_copyFrom 49 = .ok (.getfield 24, 3) := by decide +kernel
theorem dX4_copyFrom_52 : decode cX4_copyFrom 52 = .ok (.invokestatic 51, 3) := by decide +kernel
theorem dX4_copyFrom_55 : decode cX4_copyFrom 55 = .ok (.aload_n 1, 1) := by decide +kernel
theorem dX4_copyFrom_56 : decode cX4_copyFrom 56 = .ok (.getfield 27, 3) := by decide +kernel
theorem dX4_copyFrom_59 : decode cX4_copyFrom 59 = .ok (.aload_n 0, 1) := by decide +kernel
theorem dX4_copyFrom_60 : decode cX4_copyFrom 60 = .ok (.getfield 27, 3) := by decide +kernel
theorem dX4_copyFrom_63 : decode cX4_copyFrom 63 = .ok (.invokestatic 51, 3) := by decide +kernel
theorem dX4_copyFrom_66 : decode cX4_copyFrom 66 = .ok (.aload_n 1, 1) := by decide +kernel
theorem dX4_copyFrom_67 : decode cX4_copyFrom 67 = .ok (.getfield 30, 3) := by decide +kernel
theorem dX4_copyFrom_70 : decode cX4_copyFrom 70 = .ok (.aload_n 0, 1) := by decide +kernel
theorem dX4_copyFrom_71 : decode cX4_copyFrom 71 = .ok (.getfield 30, 3) := by decide +kernel
theorem dX4_copyFrom_74 : decode cX4_copyFrom 74 = .ok (.invokestatic 51, 3) := by decide +kernel
theorem dX4_copyFrom_77 : decode cX4_copyFrom 77 = .ok (.aload_n 1, 1) := by decide +kernel
theorem dX4_copyFrom_78 : decode cX4_copyFrom 78 = .ok (.getfield 33, 3) := by decide +kernel
theorem dX4_copyFrom_81 : decode cX4_copyFrom 81 = .ok (.aload_n 0, 1) := by decide +kernel
theorem dX4_copyFrom_82 : decode cX4_copyFrom 82 = .ok (.getfield 33, 3) := by decide +kernel
theorem dX4_copyFrom_85 : decode cX4_copyFrom 85 = .ok (.invokestatic 51, 3) := by decide +kernel
theorem dX4_copyFrom_88 : decode cX4_copyFrom 88 = .ok (.aload_n 1, 1) := by decide +kernel
theorem dX4_copyFrom_89 : decode cX4_copyFrom 89 = .ok (.getfield 38, 3) := by decide +kernel
theorem dX4_copyFrom_92 : decode cX4_copyFrom 92 = .ok (.aload_n 0, 1) := by decide +kernel
theorem dX4_copyFrom_93 : decode cX4_copyFrom 93 = .ok (.getfield 38, 3) := by decide +kernel
theorem dX4_copyFrom_96 : decode cX4_copyFrom 96 = .ok (.invokestatic 51, 3) := by decide +kernel
theorem dX4_copyFrom_99 : decode cX4_copyFrom 99 = .ok (.aload_n 1, 1) := by decide +kernel
theorem dX4_copyFrom_100 : decode cX4_copyFrom 100 = .ok (.getfield 41, 3) := by decide +kernel
theorem dX4_copyFrom_103 : decode cX4_copyFrom 103 = .ok (.aload_n 0, 1) := by decide +kernel
theorem dX4_copyFrom_104 : decode cX4_copyFrom 104 = .ok (.getfield 41, 3) := by decide +kernel
theorem dX4_copyFrom_107 : decode cX4_copyFrom 107 = .ok (.invokestatic 51, 3) := by decide +kernel
theorem dX4_copyFrom_110 : decode cX4_copyFrom 110 = .ok (.aload_n 0, 1) := by decide +kernel
theorem dX4_copyFrom_111 : decode cX4_copyFrom 111 = .ok (.getfield 47, 3) := by decide +kernel
theorem dX4_copyFrom_114 : decode cX4_copyFrom 114 = .ok (.aload_n 1, 1) := by decide +kernel
theorem dX4_copyFrom_115 : decode cX4_copyFrom 115 = .ok (.getfield 47, 3) := by decide +kernel
theorem dX4_copyFrom_118 : decode cX4_copyFrom 118 = .ok (.invokevirtual 55, 3) := by decide +kernel
theorem dX4_copyFrom_121 : decode cX4_copyFrom 121 = .ok (.aload_n 0, 1) := by decide +kernel
theorem dX4_copyFrom_122 : decode cX4_copyFrom 122 = .ok (.aload_n 1, 1) := by decide +kernel
theorem dX4_copyFrom_123 : decode cX4_copyFrom 123 = .ok (.getfield 59, 3) := by decide +kernel
theorem dX4_copyFrom_126 : decode cX4_copyFrom 126 = .ok (.putfield 59, 3) := by decide +kernel
theorem dX4_copyFrom_129 : decode cX4_copyFrom 129 = .ok (.aload_n 0, 1) := by decide +kernel
theorem dX4_copyFrom_130 : decode cX4_copyFrom 130 = .ok (.aload_n 1, 1) := by decide +kernel
theorem dX4_copyFrom_131 : decode cX4_copyFrom 131 = .ok (.getfield 63, 3) := by decide +kernel
theorem dX4_copyFrom_134 : decode cX4_copyFrom 134 = .ok (.putfield 63, 3) := by decide +kernel
theorem dX4_copyFrom_137 : decode cX4_copyFrom 137 = .ok (.return_, 1) := by decide +kernel
theorem dX4_copyRow_0 : decode cX4_copyRow 0 = .ok (.aload_n 0, 1) := by decide +kernel
theorem dX4_copyRow_1 : decode cX4_copyRow 1 = .ok (.iconst 0, 1) := by decide +kernel
theorem dX4_copyRow_2 : decode cX4_copyRow 2 = .ok (.aload_n 1, 1) := by decide +kernel
theorem dX4_copyRow_3 : decode cX4_copyRow 3 = .ok (.iconst 0, 1) := by decide +kernel
theorem dX4_copyRow_4 : decode cX4_copyRow 4 = .ok (.aload_n 0, 1) := by decide +kernel
theorem dX4_copyRow_5 : decode cX4_copyRow 5 = .ok (.arraylength, 1) := by decide +kernel
theorem dX4_copyRow_6 : decode cX4_copyRow 6 = .ok (.aload_n 1, 1) := by decide +kernel
theorem dX4_copyRow_7 : decode cX4_copyRow 7 = .ok (.arraylength, 1) := by decide +kernel
theorem dX4_copyRow_8 : decode cX4_copyRow 8 = .ok (.invokestatic 66, 3) := by decide +kernel
theorem dX4_copyRow_11 : decode cX4_copyRow 11 = .ok (.invokestatic 72, 3) := by decide +kernel
theorem dX4_copyRow_14 : decode cX4_copyRow 14 = .ok (.return_, 1) := by decide +kernel
theorem dX4_isGood_0 : decode cX4_isGood 0 = .ok (.iload_n 1, 1) := by decide +kernel
theorem dX4_isGood_1 : decode cX4_isGood 1 = .ok (.ifCond .lt 15, 3) := by decide +kernel
theorem dX4_isGood_4 : decode cX4_isGood 4 = .ok (.iload_n 1, 1) := by decide +kernel
theorem dX4_isGood_5 : decode cX4_isGood 5 = .ok (.aload_n 0, 1) := by decide +kernel
theorem dX4_isGood_6 : decode cX4_isGood 6 = .ok (.getfield 59, 3) := by decide +kernel
theorem dX4_isGood_9 : decode cX4_isGood 9 = .ok (.if_icmp .ge 7, 3) := by decide +kernel
theorem dX4_isGood_12 : decode cX4_isGood 12 = .ok (.iconst 1, 1) := by decide +kernel
theorem dX4_isGood_13 : decode cX4_isGood 13 = .ok (.goto 4, 3) := by decide +kernel
theorem dX4_isGood_16 : decode cX4_isGood 16 = .ok (.iconst 0, 1) := by decide +kernel
theorem dX4_isGood_17 : decode cX4_isGood 17 = .ok (.ireturn, 1) := by decide +kernel
theorem dX4_presentSeason_0 : decode cX4_presentSeason 0 = .ok (.aload_n 0, 1) := by decide +kernel
theorem dX4_presentSeason_1 : decode cX4_presentSeason 1 = .ok (.getfield 63, 3) := by decide +kernel
theorem dX4_presentSeason_4 : decode cX4_presentSeason 4 = .ok (.bipush 13, 2) := by decide +kernel
theorem dX4_presentSeason_6 : decode cX4_presentSeason 6 = .ok (.idiv, 1) := by decide +kernel
theorem dX4_presentSeason_7 : decode cX4_presentSeason 7 = .ok (.iconst 4, 1) := by decide +kernel
theorem dX4_presentSeason_8 : decode cX4_presentSeason 8 = .ok (.irem, 1) := by decide +kernel
theorem dX4_presentSeason_9 : decode cX4_presentSeason 9 = .ok (.ireturn, 1) := by decide +kernel
theorem dX4_weeksLeft_0 : decode cX4_weeksLeft 0 = .ok (.bipush 13, 2) := by decide +kernel
theorem dX4_weeksLeft_2 : decode cX4_weeksLeft 2 = .ok (.aload_n 0, 1) := by decide +kernel
theorem dX4_weeksLeft_3 : decode cX4_weeksLeft 3 = .ok (.getfield 63, 3) := by decide +kernel
theorem dX4_weeksLeft_6 : decode cX4_weeksLeft 6 = .ok (.bipush 13, 2) := by decide +kernel
theorem dX4_weeksLeft_8 : decode cX4_weeksLeft 8 = .ok (.irem, 1) := by decide +kernel
theorem dX4_weeksLeft_9 : decode cX4_weeksLeft 9 = .ok (.isub, 1) := by decide +kernel
theorem dX4_weeksLeft_10 : decode cX4_weeksLeft 10 = .ok (.ireturn, 1) := by decide +kernel
theorem dX4_demandOf_0 : decode cX4_demandOf 0 = .ok (.aload_n 0, 1) := by decide +kernel
theorem dX4_demandOf_1 : decode cX4_demandOf 1 = .ok (.getfield 18, 3) := by decide +kernel
theorem dX4_demandOf_4 : decode cX4_demandOf 4 = .ok (.iload_n 1, 1) := by decide +kernel
theorem dX4_demandOf_5 : decode cX4_demandOf 5 = .ok (.iconst 4, 1) := by decide +kernel
theorem dX4_demandOf_6 : decode cX4_demandOf 6 = .ok (.imul, 1) := by decide +kernel
theorem dX4_demandOf_7 : decode cX4_demandOf 7 = .ok (.iload_n 2, 1) := by decide +kernel
theorem dX4_demandOf_8 : decode cX4_demandOf 8 = .ok (.iadd, 1) := by decide +kernel
theorem dX4_demandOf_9 : decode cX4_demandOf 9 = .ok (.iaload, 1) := by decide +kernel
theorem dX4_demandOf_10 : decode cX4_demandOf 10 = .ok (.ireturn, 1) := by decide +kernel
set_option maxRecDepth 20000 in
theorem ggX4_isPlaced_X2_isSlot : GoodIn wsX4_isPlaced wsX2_isSlot := goodIn_r _ [5] (by decide +kernel) (by decide +kernel)
set_option maxRecDepth 20000 in
theorem gX4_isPlaced_X2_isSlot : GoodIn wsX4_isPlaced (va_wsS RX4 78 yX2_isSlot wsX2_isSlot) := goodIn_app (goodIn_of _ (by decide +kernel)) ggX4_isPlaced_X2_isSlot
theorem dX4_isPlaced_0 : decode cX4_isPlaced 0 = .ok (.aload_n 0, 1) := by decide +kernel
theorem dX4_isPlaced_1 : decode cX4_isPlaced 1 = .ok (.getfield 21, 3) := by decide +kernel
theorem dX4_isPlaced_4 : decode cX4_isPlaced 4 = .ok (.iload_n 1, 1) := by decide +kernel
theorem dX4_isPlaced_5 : decode cX4_isPlaced 5 = .ok (.iaload, 1) := by decide +kernel
theorem dX4_isPlaced_6 : decode cX4_isPlaced 6 = .ok (.invokestatic 78, 3) := by decide +kernel
theorem dX4_isPlaced_9 : decode cX4_isPlaced 9 = .ok (.ireturn, 1) := by decide +kernel
set_option maxRecDepth 20000 in
theorem ggX4_bears_X2_heaviestAt : GoodIn wsX4_bears wsX2_heaviestAt := goodIn_r _ [5, 6] (by decide +kernel) (by decide +kernel)
set_option maxRecDepth 20000 in
theorem gX4_bears_X2_heaviestAt : GoodIn wsX4_bears (va_wsS RX4 82 yX2_heaviestAt wsX2_heaviestAt) := goodIn_app (goodIn_of _ (by decide +kernel)) ggX4_bears_X2_heaviestAt
theorem dX4_bears_0 : decode cX4_bears 0 = .ok (.aload_n 0, 1) := by decide +kernel
theorem dX4_bears_1 : decode cX4_bears 1 = .ok (.getfield 9, 3) := by decide +kernel
theorem dX4_bears_4 : decode cX4_bears 4 = .ok (.iload_n 2, 1) := by decide +kernel
theorem dX4_bears_5 : decode cX4_bears 5 = .ok (.iaload, 1) := by decide +kernel
theorem dX4_bears_6 : decode cX4_bears 6 = .ok (.iload_n 1, 1) := by decide +kernel
theorem dX4_bears_7 : decode cX4_bears 7 = .ok (.invokestatic 82, 3) := by decide +kernel
theorem dX4_bears_10 : decode cX4_bears 10 = .ok (.if_icmp .gt 7, 3) := by decide +kernel
theorem dX4_bears_13 : decode cX4_bears 13 = .ok (.iconst 1, 1) := by decide +kernel
theorem dX4_bears_14 : decode cX4_bears 14 = .ok (.goto 4, 3) := by decide +kernel
theorem dX4_bears_17 : decode cX4_bears 17 = .ok (.iconst 0, 1) := by decide +kernel
theorem dX4_bears_18 : decode cX4_bears 18 = .ok (.ireturn, 1) := by decide +kernel
set_option maxRecDepth 20000 in
theorem ggX4_addGood_X5_isIn : GoodIn wsX4_addGood wsX5_isIn := goodIn_r _ [7] (by decide +kernel) (by decide +kernel)
set_option maxRecDepth 20000 in
theorem gX4_addGood_X5_isIn_n86 : GoodIn wsX4_addGood (wsX5_isIn) := ggX4_addGood_X5_isIn
theorem dX4_addGood_0 : decode cX4_addGood 0 = .ok (.iload_n 1, 1) := by decide +kernel
theorem dX4_addGood_1 : decode cX4_addGood 1 = .ok (.iconst 1, 1) := by decide +kernel
theorem dX4_addGood_2 : decode cX4_addGood 2 = .ok (.bipush 40, 2) := by decide +kernel
theorem dX4_addGood_4 : decode cX4_addGood 4 = .ok (.invokestatic 86, 3) := by decide +kernel
theorem dX4_addGood_7 : decode cX4_addGood 7 = .ok (.ifCond .eq 14, 3) := by decide +kernel
theorem dX4_addGood_10 : decode cX4_addGood 10 = .ok (.iload_n 2, 1) := by decide +kernel
theorem dX4_addGood_11 : decode cX4_addGood 11 = .ok (.iconst 1, 1) := by decide +kernel
theorem dX4_addGood_12 : decode cX4_addGood 12 = .ok (.sipush 200, 3) := by decide +kernel
theorem dX4_addGood_15 : decode cX4_addGood 15 = .ok (.invokestatic 86, 3) := by decide +kernel
theorem dX4_addGood_18 : decode cX4_addGood 18 = .ok (.ifCond .ne 5, 3) := by decide +kernel
theorem dX4_addGood_21 : decode cX4_addGood 21 = .ok (.iconst (-1), 1) := by decide +kernel
theorem dX4_addGood_22 : decode cX4_addGood 22 = .ok (.ireturn, 1) := by decide +kernel
theorem dX4_addGood_23 : decode cX4_addGood 23 = .ok (.aload_n 0, 1) := by decide +kernel
theorem dX4_addGood_24 : decode cX4_addGood 24 = .ok (.getfield 59, 3) := by decide +kernel
theorem dX4_addGood_27 : decode cX4_addGood 27 = .ok (.bipush 20, 2) := by decide +kernel
theorem dX4_addGood_29 : decode cX4_addGood 29 = .ok (.if_icmp .lt 6, 3) := by decide +kernel
theorem dX4_addGood_32 : decode cX4_addGood 32 = .ok (.bipush (-3), 2) := by decide +kernel
theorem dX4_addGood_34 : decode cX4_addGood 34 = .ok (.ireturn, 1) := by decide +kernel
theorem dX4_addGood_35 : decode cX4_addGood 35 = .ok (.aload_n 0, 1) := by decide +kernel
theorem dX4_addGood_36 : decode cX4_addGood 36 = .ok (.getfield 9, 3) := by decide +kernel
theorem dX4_addGood_39 : decode cX4_addGood 39 = .ok (.aload_n 0, 1) := by decide +kernel
theorem dX4_addGood_40 : decode cX4_addGood 40 = .ok (.getfield 59, 3) := by decide +kernel
theorem dX4_addGood_43 : decode cX4_addGood 43 = .ok (.iload_n 1, 1) := by decide +kernel
theorem dX4_addGood_44 : decode cX4_addGood 44 = .ok (.iastore, 1) := by decide +kernel
theorem dX4_addGood_45 : decode cX4_addGood 45 = .ok (.aload_n 0, 1) := by decide +kernel
theorem dX4_addGood_46 : decode cX4_addGood 46 = .ok (.getfield 15, 3) := by decide +kernel
theorem dX4_addGood_49 : decode cX4_addGood 49 = .ok (.aload_n 0, 1) := by decide +kernel
theorem dX4_addGood_50 : decode cX4_addGood 50 = .ok (.getfield 59, 3) := by decide +kernel
theorem dX4_addGood_53 : decode cX4_addGood 53 = .ok (.iload_n 2, 1) := by decide +kernel
theorem dX4_addGood_54 : decode cX4_addGood 54 = .ok (.iastore, 1) := by decide +kernel
theorem dX4_addGood_55 : decode cX4_addGood 55 = .ok (.aload_n 0, 1) := by decide +kernel
theorem dX4_addGood_56 : decode cX4_addGood 56 = .ok (.getfield 21, 3) := by decide +kernel
theorem dX4_addGood_59 : decode cX4_addGood 59 = .ok (.aload_n 0, 1) := by decide +kernel
theorem dX4_addGood_60 : decode cX4_addGood 60 = .ok (.getfield 59, 3) := by decide +kernel
theorem dX4_addGood_63 : decode cX4_addGood 63 = .ok (.iconst (-1), 1) := by decide +kernel
theorem dX4_addGood_64 : decode cX4_addGood 64 = .ok (.iastore, 1) := by decide +kernel
theorem dX4_addGood_65 : decode cX4_addGood 65 = .ok (.aload_n 0, 1) := by decide +kernel
theorem dX4_addGood_66 : decode cX4_addGood 66 = .ok (.dup, 1) := by decide +kernel
theorem dX4_addGood_67 : decode cX4_addGood 67 = .ok (.getfield 59, 3) := by decide +kernel
theorem dX4_addGood_70 : decode cX4_addGood 70 = .ok (.iconst 1, 1) := by decide +kernel
theorem dX4_addGood_71 : decode cX4_addGood 71 = .ok (.iadd, 1) := by decide +kernel
theorem dX4_addGood_72 : decode cX4_addGood 72 = .ok (.putfield 59, 3) := by decide +kernel
theorem dX4_addGood_75 : decode cX4_addGood 75 = .ok (.aload_n 0, 1) := by decide +kernel
theorem dX4_addGood_76 : decode cX4_addGood 76 = .ok (.getfield 59, 3) := by decide +kernel
theorem dX4_addGood_79 : decode cX4_addGood 79 = .ok (.iconst 1, 1) := by decide +kernel
theorem dX4_addGood_80 : decode cX4_addGood 80 = .ok (.isub, 1) := by decide +kernel
theorem dX4_addGood_81 : decode cX4_addGood 81 = .ok (.ireturn, 1) := by decide +kernel
set_option maxRecDepth 20000 in
theorem ggX4_changeDemand_X4_isGood : GoodIn wsX4_changeDemand wsX4_isGood := goodIn_r _ [6, 7, 17, 18, 19, 20, 21, 22, 23, 24, 25, 26, 27, 28, 29] (by decide +kernel) (by decide +kernel)
set_option maxRecDepth 20000 in
theorem gX4_changeDemand_X4_isGood : GoodIn wsX4_changeDemand (wsV RX4 90 RX4 yX4_isGood wsX4_isGood) := goodIn_app (goodIn_of _ (by decide +kernel)) ggX4_changeDemand_X4_isGood
set_option maxRecDepth 20000 in
theorem ggX4_changeDemand_X5_isSeason : GoodIn wsX4_changeDemand wsX5_isSeason := goodIn_r _ [10] (by decide +kernel) (by decide +kernel)
set_option maxRecDepth 20000 in
theorem gX4_changeDemand_X5_isSeason_n93 : GoodIn wsX4_changeDemand (wsX5_isSeason) := ggX4_changeDemand_X5_isSeason
set_option maxRecDepth 20000 in
theorem ggX4_changeDemand_X5_isIn : GoodIn wsX4_changeDemand wsX5_isIn := goodIn_r _ [12] (by decide +kernel) (by decide +kernel)
set_option maxRecDepth 20000 in
theorem gX4_changeDemand_X5_isIn_n86 : GoodIn wsX4_changeDemand (wsX5_isIn) := ggX4_changeDemand_X5_isIn
set_option maxRecDepth 20000 in
theorem ggX4_changeDemand_X4_demandOf : GoodIn wsX4_changeDemand wsX4_demandOf := goodIn_r _ [16, 1, 17, 18, 19, 20, 21, 22, 23, 24, 25, 26, 27, 28, 29] (by decide +kernel) (by decide +kernel)
set_option maxRecDepth 20000 in
theorem gX4_changeDemand_X4_demandOf : GoodIn wsX4_changeDemand (wsV RX4 96 RX4 yX4_demandOf wsX4_demandOf) := goodIn_app (goodIn_of _ (by decide +kernel)) ggX4_changeDemand_X4_demandOf
theorem dX4_changeDemand_0 : decode cX4_changeDemand 0 = .ok (.aload_n 0, 1) := by decide +kernel
theorem dX4_changeDemand_1 : decode cX4_changeDemand 1 = .ok (.iload_n 1, 1) := by decide +kernel
theorem dX4_changeDemand_2 : decode cX4_changeDemand 2 = .ok (.invokevirtual 90, 3) := by decide +kernel
theorem dX4_changeDemand_5 : decode cX4_changeDemand 5 = .ok (.ifCond .eq 21, 3) := by decide +kernel
theorem dX4_changeDemand_8 : decode cX4_changeDemand 8 = .ok (.iload_n 2, 1) := by decide +kernel
theorem dX4_changeDemand_9 : decode cX4_changeDemand 9 = .ok (.invokestatic 93, 3) := by decide +kernel
theorem dX4_changeDemand_12 : decode cX4_changeDemand 12 = .ok (.ifCond .eq 14, 3) := by decide +kernel
theorem dX4_changeDemand_15 : decode cX4_changeDemand 15 = .ok (.iload_n 3, 1) := by decide +kernel
theorem dX4_changeDemand_16 : decode cX4_changeDemand 16 = .ok (.iconst 0, 1) := by decide +kernel
theorem dX4_changeDemand_17 : decode cX4_changeDemand 17 = .ok (.sipush 999, 3) := by decide +kernel
theorem dX4_changeDemand_20 : decode cX4_changeDemand 20 = .ok (.invokestatic 86, 3) := by decide +kernel
theorem dX4_changeDemand_23 : decode cX4_changeDemand 23 = .ok (.ifCond .ne 5, 3) := by decide +kernel
theorem dX4_changeDemand_26 : decode cX4_changeDemand 26 = .ok (.iconst (-1), 1) := by decide +kernel
theorem dX4_changeDemand_27 : decode cX4_changeDemand 27 = .ok (.ireturn, 1) := by decide +kernel
theorem dX4_changeDemand_28 : decode cX4_changeDemand 28 = .ok (.aload_n 0, 1) := by decide +kernel
theorem dX4_changeDemand_29 : decode cX4_changeDemand 29 = .ok (.iload_n 1, 1) := by decide +kernel
theorem dX4_changeDemand_30 : decode cX4_changeDemand 30 = .ok (.iload_n 2, 1) := by decide +kernel
theorem dX4_changeDemand_31 : decode cX4_changeDemand 31 = .ok (.invokevirtual 96, 3) := by decide +kernel
theorem dX4_changeDemand_34 : decode cX4_changeDemand 34 = .ok (.istore 4, 2) := by decide +kernel
theorem dX4_changeDemand_36 : decode cX4_changeDemand 36 = .ok (.aload_n 0, 1) := by decide +kernel
theorem dX4_changeDemand_37 : decode cX4_changeDemand 37 = .ok (.getfield 18, 3) := by decide +kernel
theorem dX4_changeDemand_40 : decode cX4_changeDemand 40 = .ok (.iload_n 1, 1) := by decide +kernel
theorem dX4_changeDemand_41 : decode cX4_changeDemand 41 = .ok (.iconst 4, 1) := by decide +kernel
theorem dX4_changeDemand_42 : decode cX4_changeDemand 42 = .ok (.imul, 1) := by decide +kernel
theorem dX4_changeDemand_43 : decode cX4_changeDemand 43 = .ok (.iload_n 2, 1) := by decide +kernel
theorem dX4_changeDemand_44 : decode cX4_changeDemand 44 = .ok (.iadd, 1) := by decide +kernel
theorem dX4_changeDemand_45 : decode cX4_changeDemand 45 = .ok (.iload_n 3, 1) := by decide +kernel
theorem dX4_changeDemand_46 : decode cX4_changeDemand 46 = .ok (.iastore, 1) := by decide +kernel
theorem dX4_changeDemand_47 : decode cX4_changeDemand 47 = .ok (.iload 4, 2) := by decide +kernel
theorem dX4_changeDemand_49 : decode cX4_changeDemand 49 = .ok (.ireturn, 1) := by decide +kernel
set_option maxRecDepth 20000 in
theorem ggX4_addToStore_X4_isGood : GoodIn wsX4_addToStore wsX4_isGood := goodIn_r _ [7, 8, 12, 13, 14, 15, 16, 17, 18, 19, 20, 21, 22, 23, 24] (by decide +kernel) (by decide +kernel)
set_option maxRecDepth 20000 in
theorem gX4_addToStore_X4_isGood : GoodIn wsX4_addToStore (wsV RX4 90 RX4 yX4_isGood wsX4_isGood) := goodIn_app (goodIn_of _ (by decide +kernel)) ggX4_addToStore_X4_isGood
set_option maxRecDepth 20000 in
theorem ggX4_addToStore_X5_isIn : GoodIn wsX4_addToStore wsX5_isIn := goodIn_r _ [11] (by decide +kernel) (by decide +kernel)
set_option maxRecDepth 20000 in
theorem gX4_addToStore_X5_isIn_n86 : GoodIn wsX4_addToStore (wsX5_isIn) := ggX4_addToStore_X5_isIn
theorem dX4_addToStore_0 : decode cX4_addToStore 0 = .ok (.aload_n 0, 1) := by decide +kernel
theorem dX4_addToStore_1 : decode cX4_addToStore 1 = .ok (.iload_n 1, 1) := by decide +kernel
theorem dX4_addToStore_2 : decode cX4_addToStore 2 = .ok (.invokevirtual 90, 3) := by decide +kernel
theorem dX4_addToStore_5 : decode cX4_addToStore 5 = .ok (.ifCond .eq 14, 3) := by decide +kernel
theorem dX4_addToStore_8 : decode cX4_addToStore 8 = .ok (.iload_n 2, 1) := by decide +kernel
theorem dX4_addToStore_9 : decode cX4_addToStore 9 = .ok (.iconst 1, 1) := by decide +kernel
theorem dX4_addToStore_10 : decode cX4_addToStore 10 = .ok (.sipush 5000, 3) := by decide +kernel
theorem dX4_addToStore_13 : decode cX4_addToStore 13 = .ok (.invokestatic 86, 3) := by decide +kernel
theorem dX4_addToStore_16 : decode cX4_addToStore 16 = .ok (.ifCond .ne 5, 3) := by decide +kernel
theorem dX4_addToStore_19 : decode cX4_addToStore 19 = .ok (.iconst (-1), 1) := by decide +kernel
theorem dX4_addToStore_20 : decode cX4_addToStore 20 = .ok (.ireturn, 1) := by decide +kernel
theorem dX4_addToStore_21 : decode cX4_addToStore 21 = .ok (.aload_n 0, 1) := by decide +kernel
theorem dX4_addToStore_22 : decode cX4_addToStore 22 = .ok (.getfield 27, 3) := by decide +kernel
theorem dX4_addToStore_25 : decode cX4_addToStore 25 = .ok (.iload_n 1, 1) := by decide +kernel
theorem dX4_addToStore_26 : decode cX4_addToStore 26 = .ok (.iaload, 1) := by decide +kernel
theorem dX4_addToStore_27 : decode cX4_addToStore 27 = .ok (.iload_n 2, 1) := by decide +kernel
theorem dX4_addToStore_28 : decode cX4_addToStore 28 = .ok (.iadd, 1) := by decide +kernel
theorem dX4_addToStore_29 : decode cX4_addToStore 29 = .ok (.ldc 99, 2) := by decide +kernel
theorem dX4_addToStore_31 : decode cX4_addToStore 31 = .ok (.if_icmp .le 6, 3) := by decide +kernel
theorem dX4_addToStore_34 : decode cX4_addToStore 34 = .ok (.bipush (-3), 2) := by decide +kernel
theorem dX4_addToStore_36 : decode cX4_addToStore 36 = .ok (.ireturn, 1) := by decide +kernel
theorem dX4_addToStore_37 : decode cX4_addToStore 37 = .ok (.aload_n 0, 1) := by decide +kernel
theorem dX4_addToStore_38 : decode cX4_addToStore 38 = .ok (.getfield 27, 3) := by decide +kernel
theorem dX4_addToStore_41 : decode cX4_addToStore 41 = .ok (.iload_n 1, 1) := by decide +kernel
theorem dX4_addToStore_42 : decode cX4_addToStore 42 = .ok (.dup2, 1) := by decide +kernel
theorem dX4_addToStore_43 : decode cX4_addToStore 43 = .ok (.iaload, 1) := by decide +kernel
theorem dX4_addToStore_44 : decode cX4_addToStore 44 = .ok (.iload_n 2, 1) := by decide +kernel
theorem dX4_addToStore_45 : decode cX4_addToStore 45 = .ok (.iadd, 1) := by decide +kernel
theorem dX4_addToStore_46 : decode cX4_addToStore 46 = .ok (.iastore, 1) := by decide +kernel
theorem dX4_addToStore_47 : decode cX4_addToStore 47 = .ok (.aload_n 0, 1) := by decide +kernel
theorem dX4_addToStore_48 : decode cX4_addToStore 48 = .ok (.getfield 27, 3) := by decide +kernel
theorem dX4_addToStore_51 : decode cX4_addToStore 51 = .ok (.iload_n 1, 1) := by decide +kernel
theorem dX4_addToStore_52 : decode cX4_addToStore 52 = .ok (.iaload, 1) := by decide +kernel
theorem dX4_addToStore_53 : decode cX4_addToStore 53 = .ok (.ireturn, 1) := by decide +kernel
set_option maxRecDepth 20000 in
theorem ggX4_putIntoSlot_X4_isGood : GoodIn wsX4_putIntoSlot wsX4_isGood := goodIn_r _ [6, 7, 34, 35, 36, 37, 38, 39, 40, 41, 42, 43, 44, 45, 46] (by decide +kernel) (by decide +kernel)
set_option maxRecDepth 20000 in
theorem gX4_putIntoSlot_X4_isGood : GoodIn wsX4_putIntoSlot (wsV RX4 90 RX4 yX4_isGood wsX4_isGood) := goodIn_app (goodIn_of _ (by decide +kernel)) ggX4_putIntoSlot_X4_isGood
set_option maxRecDepth 20000 in
theorem ggX4_putIntoSlot_X2_isSlot : GoodIn wsX4_putIntoSlot wsX2_isSlot := goodIn_r _ [11] (by decide +kernel) (by decide +kernel)
set_option maxRecDepth 20000 in
theorem gX4_putIntoSlot_X2_isSlot : GoodIn wsX4_putIntoSlot (va_wsS RX4 78 yX2_isSlot wsX2_isSlot) := goodIn_app (goodIn_of _ (by decide +kernel)) ggX4_putIntoSlot_X2_isSlot
set_option maxRecDepth 20000 in
theorem ggX4_putIntoSlot_X4_isPlaced : GoodIn wsX4_putIntoSlot wsX4_isPlaced := goodIn_r _ [15, 16, 8, 9, 10, 11, 34, 35, 36, 37, 38, 39, 40, 41, 42, 43, 44, 45, 46] (by decide +kernel) (by decide +kernel)
set_option maxRecDepth 20000 in
theorem gX4_putIntoSlot_X4_isPlaced : GoodIn wsX4_putIntoSlot (wsV RX4 100 RX4 yX4_isPlaced wsX4_isPlaced) := goodIn_app (goodIn_of _ (by decide +kernel)) ggX4_putIntoSlot_X4_isPlaced
set_option maxRecDepth 20000 in
theorem ggX4_putIntoSlot_X4_bears : GoodIn wsX4_putIntoSlot wsX4_bears := goodIn_r _ [20, 21, 22, 23, 10, 24, 25, 34, 35, 36, 37, 38, 39, 40, 41, 42, 43, 44, 45, 46] (by decide +kernel) (by decide +kernel)
set_option maxRecDepth 20000 in
theorem gX4_putIntoSlot_X4_bears : GoodIn wsX4_putIntoSlot (wsV RX4 103 RX4 yX4_bears wsX4_bears) := goodIn_app (goodIn_of _ (by decide +kernel)) ggX4_putIntoSlot_X4_bears
set_option maxRecDepth 20000 in
theorem ggX4_putIntoSlot_X4_standIn : GoodIn wsX4_putIntoSlot wsX4_standIn := goodIn_r _ [29, 16, 1, 34, 35, 36, 37, 38, 39, 40, 41, 42, 43, 44, 45, 46] (by decide +kernel) (by decide +kernel)
set_option maxRecDepth 20000 in
theorem gX4_putIntoSlot_X4_standIn : GoodIn wsX4_putIntoSlot (wsV RX4 107 RX4 yX4_standIn wsX4_standIn) := goodIn_app (goodIn_of _ (by decide +kernel)) ggX4_putIntoSlot_X4_standIn
set_option maxRecDepth 20000 in
theorem ggX4_putIntoSlot_X2_walkTo : GoodIn wsX4_putIntoSlot wsX2_walkTo := goodIn_r _ [32, 33] (by decide +kernel) (by decide +kernel)
set_option maxRecDepth 20000 in
theorem gX4_putIntoSlot_X2_walkTo : GoodIn wsX4_putIntoSlot (va_wsS RX4 111 yX2_walkTo wsX2_walkTo) := goodIn_app (goodIn_of _ (by decide +kernel)) ggX4_putIntoSlot_X2_walkTo
theorem dX4_putIntoSlot_0 : decode cX4_putIntoSlot 0 = .ok (.aload_n 0, 1) := by decide +kernel
theorem dX4_putIntoSlot_1 : decode cX4_putIntoSlot 1 = .ok (.iload_n 1, 1) := by decide +kernel
theorem dX4_putIntoSlot_2 : decode cX4_putIntoSlot 2 = .ok (.invokevirtual 90, 3) := by decide +kernel
theorem dX4_putIntoSlot_5 : decode cX4_putIntoSlot 5 = .ok (.ifCond .eq 10, 3) := by decide +kernel
theorem dX4_putIntoSlot_8 : decode cX4_putIntoSlot 8 = .ok (.iload_n 2, 1) := by decide +kernel
theorem dX4_putIntoSlot_9 : decode cX4_putIntoSlot 9 = .ok (.invokestatic 78, 3) := by decide +kernel
theorem dX4_putIntoSlot_12 : decode cX4_putIntoSlot 12 = .ok (.ifCond .ne 5, 3) := by decide +kernel
theorem dX4_putIntoSlot_15 : decode cX4_putIntoSlot 15 = .ok (.iconst (-1), 1) := by decide +kernel
theorem dX4_putIntoSlot_16 : decode cX4_putIntoSlot 16 = .ok (.ireturn, 1) := by decide +kernel
theorem dX4_putIntoSlot_17 : decode cX4_putIntoSlot 17 = .ok (.aload_n 0, 1) := by decide +kernel
theorem dX4_putIntoSlot_18 : decode cX4_putIntoSlot 18 = .ok (.iload_n 1, 1) := by decide +kernel
theorem dX4_putIntoSlot_19 : decode cX4_putIntoSlot 19 = .ok (.invokevirtual 100, 3) := by decide +kernel
theorem dX4_putIntoSlot_22 : decode cX4_putIntoSlot 22 = .ok (.ifCond .ne 25, 3) := by decide +kernel
theorem dX4_putIntoSlot_25 : decode cX4_putIntoSlot 25 = .ok (.aload_n 0, 1) := by decide +kernel
theorem dX4_putIntoSlot_26 : decode cX4_putIntoSlot 26 = .ok (.aload_n 0, 1) := by decide +kernel
theorem dX4_putIntoSlot_27 : decode cX4_putIntoSlot 27 = .ok (.getfield 38, 3) := by decide +kernel
theorem dX4_putIntoSlot_30 : decode cX4_putIntoSlot 30 = .ok (.iload_n 2, 1) := by decide +kernel
theorem dX4_putIntoSlot_31 : decode cX4_putIntoSlot 31 = .ok (.iaload, 1) := by decide +kernel
theorem dX4_putIntoSlot_32 : decode cX4_putIntoSlot 32 = .ok (.invokevirtual 90, 3) := by decide +kernel
theorem dX4_putIntoSlot_35 : decode cX4_putIntoSlot 35 = .ok (.ifCond .ne 12, 3) := by decide +kernel
theorem dX4_putIntoSlot_38 : decode cX4_putIntoSlot 38 = .ok (.aload_n 0, 1) := by decide +kernel
theorem dX4_putIntoSlot_39 : decode cX4_putIntoSlot 39 = .ok (.iload_n 2, 1) := by decide +kernel
theorem dX4_putIntoSlot_40 : decode cX4_putIntoSlot 40 = .ok (.iload_n 1, 1) := by decide +kernel
theorem dX4_putIntoSlot_41 : decode cX4_putIntoSlot 41 = .ok (.invokevirtual 103, 3) := by decide +kernel
theorem dX4_putIntoSlot_44 : decode cX4_putIntoSlot 44 = .ok (.ifCond .ne 6, 3) := by decide +kernel
theorem dX4_putIntoSlot_47 : decode cX4_putIntoSlot 47 = .ok (.bipush (-2), 2) := by decide +kernel
theorem dX4_putIntoSlot_49 : decode cX4_putIntoSlot 49 = .ok (.ireturn, 1) := by decide +kernel
theorem dX4_putIntoSlot_50 : decode cX4_putIntoSlot 50 = .ok (.aload_n 0, 1) := by decide +kernel
theorem dX4_putIntoSlot_51 : decode cX4_putIntoSlot 51 = .ok (.iload_n 1, 1) := by decide +kernel
theorem dX4_putIntoSlot_52 : decode cX4_putIntoSlot 52 = .ok (.iload_n 2, 1) := by decide +kernel
theorem dX4_putIntoSlot_53 : decode cX4_putIntoSlot 53 = .ok (.invokevirtual 107, 3) := by decide +kernel
theorem dX4_putIntoSlot_56 : decode cX4_putIntoSlot 56 = .ok (.iload_n 2, 1) := by decide +kernel
theorem dX4_putIntoSlot_57 : decode cX4_putIntoSlot 57 = .ok (.invokestatic 111, 3) := by decide +kernel
theorem dX4_putIntoSlot_60 : decode cX4_putIntoSlot 60 = .ok (.ireturn, 1) := by decide +kernel
set_option maxRecDepth 20000 in
theorem ggX4_takeOutOfSlot_X4_isGood : GoodIn wsX4_takeOutOfSlot wsX4_isGood := goodIn_r _ [9, 10, 19, 20, 21, 22, 23, 24, 25, 26, 27, 28, 29, 30, 31] (by decide +kernel) (by decide +kernel)
set_option maxRecDepth 20000 in
theorem gX4_takeOutOfSlot_X4_isGood : GoodIn wsX4_takeOutOfSlot (wsV RX4 90 RX4 yX4_isGood wsX4_isGood) := goodIn_app (goodIn_of _ (by decide +kernel)) ggX4_takeOutOfSlot_X4_isGood
set_option maxRecDepth 20000 in
theorem ggX4_takeOutOfSlot_X4_isPlaced : GoodIn wsX4_takeOutOfSlot wsX4_isPlaced := goodIn_r _ [14, 4, 15, 16, 17, 18, 19, 20, 21, 22, 23, 24, 25, 26, 27, 28, 29, 30, 31] (by decide +kernel) (by decide +kernel)
set_option maxRecDepth 20000 in
theorem gX4_takeOutOfSlot_X4_isPlaced : GoodIn wsX4_takeOutOfSlot (wsV RX4 100 RX4 yX4_isPlaced wsX4_isPlaced) := goodIn_app (goodIn_of _ (by decide +kernel)) ggX4_takeOutOfSlot_X4_isPlaced
theorem dX4_takeOutOfSlot_0 : decode cX4_takeOutOfSlot 0 = .ok (.aload_n 0, 1) := by decide +kernel
theorem dX4_takeOutOfSlot_1 : decode cX4_takeOutOfSlot 1 = .ok (.iload_n 1, 1) := by decide +kernel
theorem dX4_takeOutOfSlot_2 : decode cX4_takeOutOfSlot 2 = .ok (.invokevirtual 90, 3) := by decide +kernel
theorem dX4_takeOutOfSlot_5 : decode cX4_takeOutOfSlot 5 = .ok (.ifCond .ne 5, 3) := by decide +kernel
theorem dX4_takeOutOfSlot_8 : decode cX4_takeOutOfSlot 8 = .ok (.iconst (-1), 1) := by decide +kernel
theorem dX4_takeOutOfSlot_9 : decode cX4_takeOutOfSlot 9 = .ok (.ireturn, 1) := by decide +kernel
theorem dX4_takeOutOfSlot_10 : decode cX4_takeOutOfSlot 10 = .ok (.aload_n 0, 1) := by decide +kernel
theorem dX4_takeOutOfSlot_11 : decode cX4_takeOutOfSlot 11 = .ok (.iload_n 1, 1) := by decide +kernel
theorem dX4_takeOutOfSlot_12 : decode cX4_takeOutOfSlot 12 = .ok (.invokevirtual 100, 3) := by decide +kernel
theorem dX4_takeOutOfSlot_15 : decode cX4_takeOutOfSlot 15 = .ok (.ifCond .ne 6, 3) := by decide +kernel
theorem dX4_takeOutOfSlot_18 : decode cX4_takeOutOfSlot 18 = .ok (.bipush (-2), 2) := by decide +kernel
theorem dX4_takeOutOfSlot_20 : decode cX4_takeOutOfSlot 20 = .ok (.ireturn, 1) := by decide +kernel
theorem dX4_takeOutOfSlot_21 : decode cX4_takeOutOfSlot 21 = .ok (.aload_n 0, 1) := by decide +kernel
theorem dX4_takeOutOfSlot_22 : decode cX4_takeOutOfSlot 22 = .ok (.getfield 24, 3) := by decide +kernel
theorem dX4_takeOutOfSlot_25 : decode cX4_takeOutOfSlot 25 = .ok (.iload_n 1, 1) := by decide +kernel
theorem dX4_takeOutOfSlot_26 : decode cX4_takeOutOfSlot 26 = .ok (.iaload, 1) := by decide +kernel
theorem dX4_takeOutOfSlot_27 : decode cX4_takeOutOfSlot 27 = .ok (.istore_n 2, 1) := by decide +kernel
theorem dX4_takeOutOfSlot_28 : decode cX4_takeOutOfSlot 28 = .ok (.aload_n 0, 1) := by decide +kernel
theorem dX4_takeOutOfSlot_29 : decode cX4_takeOutOfSlot 29 = .ok (.getfield 27, 3) := by decide +kernel
theorem dX4_takeOutOfSlot_32 : decode cX4_takeOutOfSlot 32 = .ok (.iload_n 1, 1) := by decide +kernel
theorem dX4_takeOutOfSlot_33 : decode cX4_takeOutOfSlot 33 = .ok (.dup2, 1) := by decide +kernel
theorem dX4_takeOutOfSlot_34 : decode cX4_takeOutOfSlot 34 = .ok (.iaload, 1) := by decide +kernel
theorem dX4_takeOutOfSlot_35 : decode cX4_takeOutOfSlot 35 = .ok (.iload_n 2, 1) := by decide +kernel
theorem dX4_takeOutOfSlot_36 : decode cX4_takeOutOfSlot 36 = .ok (.iadd, 1) := by decide +kernel
theorem dX4_takeOutOfSlot_37 : decode cX4_takeOutOfSlot 37 = .ok (.iastore, 1) := by decide +kernel
theorem dX4_takeOutOfSlot_38 : decode cX4_takeOutOfSlot 38 = .ok (.aload_n 0, 1) := by decide +kernel
theorem dX4_takeOutOfSlot_39 : decode cX4_takeOutOfSlot 39 = .ok (.getfield 24, 3) := by decide +kernel
theorem dX4_takeOutOfSlot_42 : decode cX4_takeOutOfSlot 42 = .ok (.iload_n 1, 1) := by decide +kernel
theorem dX4_takeOutOfSlot_43 : decode cX4_takeOutOfSlot 43 = .ok (.iconst 0, 1) := by decide +kernel
theorem dX4_takeOutOfSlot_44 : decode cX4_takeOutOfSlot 44 = .ok (.iastore, 1) := by decide +kernel
theorem dX4_takeOutOfSlot_45 : decode cX4_takeOutOfSlot 45 = .ok (.aload_n 0, 1) := by decide +kernel
theorem dX4_takeOutOfSlot_46 : decode cX4_takeOutOfSlot 46 = .ok (.getfield 38, 3) := by decide +kernel
theorem dX4_takeOutOfSlot_49 : decode cX4_takeOutOfSlot 49 = .ok (.aload_n 0, 1) := by decide +kernel
theorem dX4_takeOutOfSlot_50 : decode cX4_takeOutOfSlot 50 = .ok (.getfield 21, 3) := by decide +kernel
theorem dX4_takeOutOfSlot_53 : decode cX4_takeOutOfSlot 53 = .ok (.iload_n 1, 1) := by decide +kernel
theorem dX4_takeOutOfSlot_54 : decode cX4_takeOutOfSlot 54 = .ok (.iaload, 1) := by decide +kernel
theorem dX4_takeOutOfSlot_55 : decode cX4_takeOutOfSlot 55 = .ok (.iconst (-1), 1) := by decide +kernel
theorem dX4_takeOutOfSlot_56 : decode cX4_takeOutOfSlot 56 = .ok (.iastore, 1) := by decide +kernel
theorem dX4_takeOutOfSlot_57 : decode cX4_takeOutOfSlot 57 = .ok (.aload_n 0, 1) := by decide +kernel
theorem dX4_takeOutOfSlot_58 : decode cX4_takeOutOfSlot 58 = .ok (.getfield 21, 3) := by decide +kernel
theorem dX4_takeOutOfSlot_61 : decode cX4_takeOutOfSlot 61 = .ok (.iload_n 1, 1) := by decide +kernel
theorem dX4_takeOutOfSlot_62 : decode cX4_takeOutOfSlot 62 = .ok (.iconst (-1), 1) := by decide +kernel
theorem dX4_takeOutOfSlot_63 : decode cX4_takeOutOfSlot 63 = .ok (.iastore, 1) := by decide +kernel
theorem dX4_takeOutOfSlot_64 : decode cX4_takeOutOfSlot 64 = .ok (.iload_n 2, 1) := by decide +kernel
theorem dX4_takeOutOfSlot_65 : decode cX4_takeOutOfSlot 65 = .ok (.ireturn, 1) := by decide +kernel
theorem dX4_standIn_0 : decode cX4_standIn 0 = .ok (.aload_n 0, 1) := by decide +kernel
theorem dX4_standIn_1 : decode cX4_standIn 1 = .ok (.getfield 21, 3) := by decide +kernel
theorem dX4_standIn_4 : decode cX4_standIn 4 = .ok (.iload_n 1, 1) := by decide +kernel
theorem dX4_standIn_5 : decode cX4_standIn 5 = .ok (.iload_n 2, 1) := by decide +kernel
theorem dX4_standIn_6 : decode cX4_standIn 6 = .ok (.iastore, 1) := by decide +kernel
theorem dX4_standIn_7 : decode cX4_standIn 7 = .ok (.aload_n 0, 1) := by decide +kernel
theorem dX4_standIn_8 : decode cX4_standIn 8 = .ok (.getfield 38, 3) := by decide +kernel
theorem dX4_standIn_11 : decode cX4_standIn 11 = .ok (.iload_n 2, 1) := by decide +kernel
theorem dX4_standIn_12 : decode cX4_standIn 12 = .ok (.iload_n 1, 1) := by decide +kernel
theorem dX4_standIn_13 : decode cX4_standIn 13 = .ok (.iastore, 1) := by decide +kernel
theorem dX4_standIn_14 : decode cX4_standIn 14 = .ok (.return_, 1) := by decide +kernel
set_option maxRecDepth 20000 in
theorem ggX4_numberOfGood_X4_isGood : GoodIn wsX4_numberOfGood wsX4_isGood := goodIn_r _ [12, 13, 34, 35, 36, 37, 38, 39, 40, 41, 42, 43, 44, 45, 46] (by decide +kernel) (by decide +kernel)
set_option maxRecDepth 20000 in
theorem gX4_numberOfGood_X4_isGood : GoodIn wsX4_numberOfGood (wsV RX4 90 RX4 yX4_isGood wsX4_isGood) := goodIn_app (goodIn_of _ (by decide +kernel)) ggX4_numberOfGood_X4_isGood
set_option maxRecDepth 20000 in
theorem ggX4_numberOfGood_X5_isIn : GoodIn wsX4_numberOfGood wsX5_isIn := goodIn_r _ [16] (by decide +kernel) (by decide +kernel)
set_option maxRecDepth 20000 in
theorem gX4_numberOfGood_X5_isIn_n86 : GoodIn wsX4_numberOfGood (wsX5_isIn) := ggX4_numberOfGood_X5_isIn
set_option maxRecDepth 20000 in
theorem ggX4_numberOfGood_X4_isPlaced : GoodIn wsX4_numberOfGood wsX4_isPlaced := goodIn_r _ [20, 3, 21, 22, 23, 24, 34, 35, 36, 37, 38, 39, 40, 41, 42, 43, 44, 45, 46] (by decide +kernel) (by decide +kernel)
set_option maxRecDepth 20000 in
theorem gX4_numberOfGood_X4_isPlaced : GoodIn wsX4_numberOfGood (wsV RX4 100 RX4 yX4_isPlaced wsX4_isPlaced) := goodIn_app (goodIn_of _ (by decide +kernel)) ggX4_numberOfGood_X4_isPlaced
set_option maxRecDepth 20000 in
theorem ggX4_numberOfGood_X2_greatestHeightFor : GoodIn wsX4_numberOfGood wsX2_greatestHeightFor := goodIn_r _ [27, 28] (by decide +kernel) (by decide +kernel)
set_option maxRecDepth 20000 in
theorem gX4_numberOfGood_X2_greatestHeightFor : GoodIn wsX4_numberOfGood (va_wsS RX4 114 yX2_greatestHeightFor wsX2_greatestHeightFor) := goodIn_app (goodIn_of _ (by decide +kernel)) ggX4_numberOfGood_X2_greatestHeightFor
set_option maxRecDepth 20000 in
theorem ggX4_numberOfGood_X4_demandOf : GoodIn wsX4_numberOfGood wsX4_demandOf := goodIn_r _ [32, 33, 34, 35, 36, 37, 38, 39, 40, 41, 42, 43, 44, 45, 46] (by decide +kernel) (by decide +kernel)
set_option maxRecDepth 20000 in
theorem gX4_numberOfGood_X4_demandOf : GoodIn wsX4_numberOfGood (wsV RX4 96 RX4 yX4_demandOf wsX4_demandOf) := goodIn_app (goodIn_of _ (by decide +kernel)) ggX4_numberOfGood_X4_demandOf
theorem dX4_numberOfGood_0 : decode cX4_numberOfGood 0 = .ok (.aload_n 0, 1) := by decide +kernel
theorem dX4_numberOfGood_1 : decode cX4_numberOfGood 1 = .ok (.iload_n 1, 1) := by decide +kernel
theorem dX4_numberOfGood_2 : decode cX4_numberOfGood 2 = .ok (.invokevirtual 90, 3) := by decide +kernel
theorem dX4_numberOfGood_5 : decode cX4_numberOfGood 5 = .ok (.ifCond .eq 13, 3) := by decide +kernel
theorem dX4_numberOfGood_8 : decode cX4_numberOfGood 8 = .ok (.iload_n 2, 1) := by decide +kernel
theorem dX4_numberOfGood_9 : decode cX4_numberOfGood 9 = .ok (.iconst 0, 1) := by decide +kernel
theorem dX4_numberOfGood_10 : decode cX4_numberOfGood 10 = .ok (.bipush 11, 2) := by decide +kernel
theorem dX4_numberOfGood_12 : decode cX4_numberOfGood 12 = .ok (.invokestatic 86, 3) := by decide +kernel
theorem dX4_numberOfGood_15 : decode cX4_numberOfGood 15 = .ok (.ifCond .ne 5, 3) := by decide +kernel
theorem dX4_numberOfGood_18 : decode cX4_numberOfGood 18 = .ok (.iconst (-1), 1) := by decide +kernel
theorem dX4_numberOfGood_19 : decode cX4_numberOfGood 19 = .ok (.ireturn, 1) := by decide +kernel
theorem dX4_numberOfGood_20 : decode cX4_numberOfGood 20 = .ok (.iload_n 2, 1) := by decide +kernel
theorem dX4_numberOfGood_21 : decode cX4_numberOfGood 21 = .ok (.tableswitch 135 0 11 #[63, 70, 135, 135, 135, 135, 77, 97, 104, 111, 118, 125], 63) := by decide +kernel
theorem dX4_numberOfGood_84 : decode cX4_numberOfGood 84 = .ok (.aload_n 0, 1) := by decide +kernel
theorem dX4_numberOfGood_85 : decode cX4_numberOfGood 85 = .ok (.getfield 9, 3) := by decide +kernel
theorem dX4_numberOfGood_88 : decode cX4_numberOfGood 88 = .ok (.iload_n 1, 1) := by decide +kernel
theorem dX4_numberOfGood_89 : decode cX4_numberOfGood 89 = .ok (.iaload, 1) := by decide +kernel
theorem dX4_numberOfGood_90 : decode cX4_numberOfGood 90 = .ok (.ireturn, 1) := by decide +kernel
theorem dX4_numberOfGood_91 : decode cX4_numberOfGood 91 = .ok (.aload_n 0, 1) := by decide +kernel
theorem dX4_numberOfGood_92 : decode cX4_numberOfGood 92 = .ok (.getfield 15, 3) := by decide +kernel
theorem dX4_numberOfGood_95 : decode cX4_numberOfGood 95 = .ok (.iload_n 1, 1) := by decide +kernel
theorem dX4_numberOfGood_96 : decode cX4_numberOfGood 96 = .ok (.iaload, 1) := by decide +kernel
theorem dX4_numberOfGood_97 : decode cX4_numberOfGood 97 = .ok (.ireturn, 1) := by decide +kernel
theorem dX4_numberOfGood_98 : decode cX4_numberOfGood 98 = .ok (.aload_n 0, 1) := by decide +kernel
theorem dX4_numberOfGood_99 : decode cX4_numberOfGood 99 = .ok (.iload_n 1, 1) := by decide +kernel
theorem dX4_numberOfGood_100 : decode cX4_numberOfGood 100 = .ok (.invokevirtual 100, 3) := by decide +kernel
theorem dX4_numberOfGood_103 : decode cX4_numberOfGood 103 = .ok (.ifCond .eq 12, 3) := by decide +kernel
theorem dX4_numberOfGood_106 : decode cX4_numberOfGood 106 = .ok (.aload_n 0, 1) := by decide +kernel
theorem dX4_numberOfGood_107 : decode cX4_numberOfGood 107 = .ok (.getfield 21, 3) := by decide +kernel
theorem dX4_numberOfGood_110 : decode cX4_numberOfGood 110 = .ok (.iload_n 1, 1) := by decide +kernel
theorem dX4_numberOfGood_111 : decode cX4_numberOfGood 111 = .ok (.iaload, 1) := by decide +kernel
theorem dX4_numberOfGood_112 : decode cX4_numberOfGood 112 = .ok (.goto 5, 3) := by decide +kernel
theorem dX4_numberOfGood_115 : decode cX4_numberOfGood 115 = .ok (.bipush (-4), 2) := by decide +kernel
theorem dX4_numberOfGood_117 : decode cX4_numberOfGood 117 = .ok (.ireturn, 1) := by decide +kernel
theorem dX4_numberOfGood_118 : decode cX4_numberOfGood 118 = .ok (.aload_n 0, 1) := by decide +kernel
theorem dX4_numberOfGood_119 : decode cX4_numberOfGood 119 = .ok (.getfield 24, 3) := by decide +kernel
theorem dX4_numberOfGood_122 : decode cX4_numberOfGood 122 = .ok (.iload_n 1, 1) := by decide +kernel
theorem dX4_numberOfGood_123 : decode cX4_numberOfGood 123 = .ok (.iaload, 1) := by decide +kernel
theorem dX4_numberOfGood_124 : decode cX4_numberOfGood 124 = .ok (.ireturn, 1) := by decide +kernel
theorem dX4_numberOfGood_125 : decode cX4_numberOfGood 125 = .ok (.aload_n 0, 1) := by decide +kernel
theorem dX4_numberOfGood_126 : decode cX4_numberOfGood 126 = .ok (.getfield 27, 3) := by decide +kernel
theorem dX4_numberOfGood_129 : decode cX4_numberOfGood 129 = .ok (.iload_n 1, 1) := by decide +kernel
theorem dX4_numberOfGood_130 : decode cX4_numberOfGood 130 = .ok (.iaload, 1) := by decide +kernel
theorem dX4_numberOfGood_131 : decode cX4_numberOfGood 131 = .ok (.ireturn, 1) := by decide +kernel
theorem dX4_numberOfGood_132 : decode cX4_numberOfGood 132 = .ok (.aload_n 0, 1) := by decide +kernel
theorem dX4_numberOfGood_133 : decode cX4_numberOfGood 133 = .ok (.getfield 30, 3) := by decide +kernel
theorem dX4_numberOfGood_136 : decode cX4_numberOfGood 136 = .ok (.iload_n 1, 1) := by decide +kernel
theorem dX4_numberOfGood_137 : decode cX4_numberOfGood 137 = .ok (.iaload, 1) := by decide +kernel
theorem dX4_numberOfGood_138 : decode cX4_numberOfGood 138 = .ok (.ireturn, 1) := by decide +kernel
theorem dX4_numberOfGood_139 : decode cX4_numberOfGood 139 = .ok (.aload_n 0, 1) := by decide +kernel
theorem dX4_numberOfGood_140 : decode cX4_numberOfGood 140 = .ok (.getfield 33, 3) := by decide +kernel
theorem dX4_numberOfGood_143 : decode cX4_numberOfGood 143 = .ok (.iload_n 1, 1) := by decide +kernel
theorem dX4_numberOfGood_144 : decode cX4_numberOfGood 144 = .ok (.iaload, 1) := by decide +kernel
theorem dX4_numberOfGood_145 : decode cX4_numberOfGood 145 = .ok (.ireturn, 1) := by decide +kernel
theorem dX4_numberOfGood_146 : decode cX4_numberOfGood 146 = .ok (.aload_n 0, 1) := by decide +kernel
theorem dX4_numberOfGood_147 : decode cX4_numberOfGood 147 = .ok (.getfield 9, 3) := by decide +kernel
theorem dX4_numberOfGood_150 : decode cX4_numberOfGood 150 = .ok (.iload_n 1, 1) := by decide +kernel
theorem dX4_numberOfGood_151 : decode cX4_numberOfGood 151 = .ok (.iaload, 1) := by decide +kernel
theorem dX4_numberOfGood_152 : decode cX4_numberOfGood 152 = .ok (.invokestatic 114, 3) := by decide +kernel
theorem dX4_numberOfGood_155 : decode cX4_numberOfGood 155 = .ok (.ireturn, 1) := by decide +kernel
theorem dX4_numberOfGood_156 : decode cX4_numberOfGood 156 = .ok (.aload_n 0, 1) := by decide +kernel
theorem dX4_numberOfGood_157 : decode cX4_numberOfGood 157 = .ok (.iload_n 1, 1) := by decide +kernel
theorem dX4_numberOfGood_158 : decode cX4_numberOfGood 158 = .ok (.iload_n 2, 1) := by decide +kernel
theorem dX4_numberOfGood_159 : decode cX4_numberOfGood 159 = .ok (.iconst 2, 1) := by decide +kernel
theorem dX4_numberOfGood_160 : decode cX4_numberOfGood 160 = .ok (.isub, 1) := by decide +kernel
theorem dX4_numberOfGood_161 : decode cX4_numberOfGood 161 = .ok (.invokevirtual 96, 3) := by decide +kernel
theorem dX4_numberOfGood_164 : decode cX4_numberOfGood 164 = .ok (.ireturn, 1) := by decide +kernel
set_option maxRecDepth 20000 in
theorem ggX4_numberOfSlot_X2_isSlot : GoodIn wsX4_numberOfSlot wsX2_isSlot := goodIn_r _ [5] (by decide +kernel) (by decide +kernel)
set_option maxRecDepth 20000 in
theorem gX4_numberOfSlot_X2_isSlot : GoodIn wsX4_numberOfSlot (va_wsS RX4 78 yX2_isSlot wsX2_isSlot) := goodIn_app (goodIn_of _ (by decide +kernel)) ggX4_numberOfSlot_X2_isSlot
set_option maxRecDepth 20000 in
theorem ggX4_numberOfSlot_X4_isGood : GoodIn wsX4_numberOfSlot wsX4_isGood := goodIn_r _ [10, 11, 20, 21, 22, 23, 24, 25, 26, 27, 28, 29, 30, 31, 32] (by decide +kernel) (by decide +kernel)
set_option maxRecDepth 20000 in
theorem gX4_numberOfSlot_X4_isGood : GoodIn wsX4_numberOfSlot (wsV RX4 90 RX4 yX4_isGood wsX4_isGood) := goodIn_app (goodIn_of _ (by decide +kernel)) ggX4_numberOfSlot_X4_isGood
set_option maxRecDepth 20000 in
theorem ggX4_numberOfSlot_X2_walkTo : GoodIn wsX4_numberOfSlot wsX2_walkTo := goodIn_r _ [14, 15] (by decide +kernel) (by decide +kernel)
set_option maxRecDepth 20000 in
theorem gX4_numberOfSlot_X2_walkTo : GoodIn wsX4_numberOfSlot (va_wsS RX4 111 yX2_walkTo wsX2_walkTo) := goodIn_app (goodIn_of _ (by decide +kernel)) ggX4_numberOfSlot_X2_walkTo
set_option maxRecDepth 20000 in
theorem ggX4_numberOfSlot_X2_heaviestAt : GoodIn wsX4_numberOfSlot wsX2_heaviestAt := goodIn_r _ [18, 19] (by decide +kernel) (by decide +kernel)
set_option maxRecDepth 20000 in
theorem gX4_numberOfSlot_X2_heaviestAt : GoodIn wsX4_numberOfSlot (va_wsS RX4 82 yX2_heaviestAt wsX2_heaviestAt) := goodIn_app (goodIn_of _ (by decide +kernel)) ggX4_numberOfSlot_X2_heaviestAt
theorem dX4_numberOfSlot_0 : decode cX4_numberOfSlot 0 = .ok (.iload_n 1, 1) := by decide +kernel
theorem dX4_numberOfSlot_1 : decode cX4_numberOfSlot 1 = .ok (.invokestatic 78, 3) := by decide +kernel
theorem dX4_numberOfSlot_4 : decode cX4_numberOfSlot 4 = .ok (.ifCond .ne 5, 3) := by decide +kernel
theorem dX4_numberOfSlot_7 : decode cX4_numberOfSlot 7 = .ok (.iconst (-1), 1) := by decide +kernel
theorem dX4_numberOfSlot_8 : decode cX4_numberOfSlot 8 = .ok (.ireturn, 1) := by decide +kernel
theorem dX4_numberOfSlot_9 : decode cX4_numberOfSlot 9 = .ok (.iload_n 2, 1) := by decide +kernel
theorem dX4_numberOfSlot_10 : decode cX4_numberOfSlot 10 = .ok (.tableswitch 61 0 2 #[26, 51, 56], 26) := by decide +kernel
theorem dX4_numberOfSlot_36 : decode cX4_numberOfSlot 36 = .ok (.aload_n 0, 1) := by decide +kernel
theorem dX4_numberOfSlot_37 : decode cX4_numberOfSlot 37 = .ok (.aload_n 0, 1) := by decide +kernel
theorem dX4_numberOfSlot_38 : decode cX4_numberOfSlot 38 = .ok (.getfield 38, 3) := by decide +kernel
theorem dX4_numberOfSlot_41 : decode cX4_numberOfSlot 41 = .ok (.iload_n 1, 1) := by decide +kernel
theorem dX4_numberOfSlot_42 : decode cX4_numberOfSlot 42 = .ok (.iaload, 1) := by decide +kernel
theorem dX4_numberOfSlot_43 : decode cX4_numberOfSlot 43 = .ok (.invokevirtual 90, 3) := by decide +kernel
theorem dX4_numberOfSlot_46 : decode cX4_numberOfSlot 46 = .ok (.ifCond .eq 12, 3) := by decide +kernel
theorem dX4_numberOfSlot_49 : decode cX4_numberOfSlot 49 = .ok (.aload_n 0, 1) := by decide +kernel
theorem dX4_numberOfSlot_50 : decode cX4_numberOfSlot 50 = .ok (.getfield 38, 3) := by decide +kernel
theorem dX4_numberOfSlot_53 : decode cX4_numberOfSlot 53 = .ok (.iload_n 1, 1) := by decide +kernel
theorem dX4_numberOfSlot_54 : decode cX4_numberOfSlot 54 = .ok (.iaload, 1) := by decide +kernel
theorem dX4_numberOfSlot_55 : decode cX4_numberOfSlot 55 = .ok (.goto 5, 3) := by decide +kernel
theorem dX4_numberOfSlot_58 : decode cX4_numberOfSlot 58 = .ok (.bipush (-4), 2) := by decide +kernel
theorem dX4_numberOfSlot_60 : decode cX4_numberOfSlot 60 = .ok (.ireturn, 1) := by decide +kernel
theorem dX4_numberOfSlot_61 : decode cX4_numberOfSlot 61 = .ok (.iload_n 1, 1) := by decide +kernel
theorem dX4_numberOfSlot_62 : decode cX4_numberOfSlot 62 = .ok (.invokestatic 111, 3) := by decide +kernel
theorem dX4_numberOfSlot_65 : decode cX4_numberOfSlot 65 = .ok (.ireturn, 1) := by decide +kernel
theorem dX4_numberOfSlot_66 : decode cX4_numberOfSlot 66 = .ok (.iload_n 1, 1) := by decide +kernel
theorem dX4_numberOfSlot_67 : decode cX4_numberOfSlot 67 = .ok (.invokestatic 82, 3) := by decide +kernel
theorem dX4_numberOfSlot_70 : decode cX4_numberOfSlot 70 = .ok (.ireturn, 1) := by decide +kernel
theorem dX4_numberOfSlot_71 : decode cX4_numberOfSlot 71 = .ok (.iconst (-1), 1) := by decide +kernel
theorem dX4_numberOfSlot_72 : decode cX4_numberOfSlot 72 = .ok (.ireturn, 1) := by decide +kernel
set_option maxRecDepth 20000 in
theorem ggX4_nearestFreeSlot_X4_isGood : GoodIn wsX4_nearestFreeSlot wsX4_isGood := goodIn_r _ [6, 7, 22, 23, 24, 25, 26, 27, 28, 29, 30, 31, 32, 33, 34] (by decide +kernel) (by decide +kernel)
set_option maxRecDepth 20000 in
theorem gX4_nearestFreeSlot_X4_isGood : GoodIn wsX4_nearestFreeSlot (wsV RX4 90 RX4 yX4_isGood wsX4_isGood) := goodIn_app (goodIn_of _ (by decide +kernel)) ggX4_nearestFreeSlot_X4_isGood
set_option maxRecDepth 20000 in
theorem ggX4_nearestFreeSlot_X4_bears : GoodIn wsX4_nearestFreeSlot wsX4_bears := goodIn_r _ [11, 12, 13, 14, 15, 16, 17, 22, 23, 24, 25, 26, 27, 28, 29, 30, 31, 32, 33, 34] (by decide +kernel) (by decide +kernel)
set_option maxRecDepth 20000 in
theorem gX4_nearestFreeSlot_X4_bears : GoodIn wsX4_nearestFreeSlot (wsV RX4 103 RX4 yX4_bears wsX4_bears) := goodIn_app (goodIn_of _ (by decide +kernel)) ggX4_nearestFreeSlot_X4_bears
set_option maxRecDepth 20000 in
theorem ggX4_nearestFreeSlot_X2_walkTo : GoodIn wsX4_nearestFreeSlot wsX2_walkTo := goodIn_r _ [20, 21] (by decide +kernel) (by decide +kernel)
set_option maxRecDepth 20000 in
theorem gX4_nearestFreeSlot_X2_walkTo : GoodIn wsX4_nearestFreeSlot (va_wsS RX4 111 yX2_walkTo wsX2_walkTo) := goodIn_app (goodIn_of _ (by decide +kernel)) ggX4_nearestFreeSlot_X2_walkTo
theorem dX4_nearestFreeSlot_0 : decode cX4_nearestFreeSlot 0 = .ok (.aload_n 0, 1) := by decide +kernel
theorem dX4_nearestFreeSlot_1 : decode cX4_nearestFreeSlot 1 = .ok (.iload_n 1, 1) := by decide +kernel
theorem dX4_nearestFreeSlot_2 : decode cX4_nearestFreeSlot 2 = .ok (.invokevirtual 90, 3) := by decide +kernel
theorem dX4_nearestFreeSlot_5 : decode cX4_nearestFreeSlot 5 = .ok (.ifCond .ne 5, 3) := by decide +kernel
theorem dX4_nearestFreeSlot_8 : decode cX4_nearestFreeSlot 8 = .ok (.iconst (-1), 1) := by decide +kernel
theorem dX4_nearestFreeSlot_9 : decode cX4_nearestFreeSlot 9 = .ok (.ireturn, 1) := by decide +kernel
theorem dX4_nearestFreeSlot_10 : decode cX4_nearestFreeSlot 10 = .ok (.bipush (-4), 2) := by decide +kernel
theorem dX4_nearestFreeSlot_12 : decode cX4_nearestFreeSlot 12 = .ok (.istore_n 2, 1) := by decide +kernel
theorem dX4_nearestFreeSlot_13 : decode cX4_nearestFreeSlot 13 = .ok (.iconst 0, 1) := by decide +kernel
theorem dX4_nearestFreeSlot_14 : decode cX4_nearestFreeSlot 14 = .ok (.istore_n 3, 1) := by decide +kernel
theorem dX4_nearestFreeSlot_15 : decode cX4_nearestFreeSlot 15 = .ok (.iload_n 3, 1) := by decide +kernel
theorem dX4_nearestFreeSlot_16 : decode cX4_nearestFreeSlot 16 = .ok (.bipush 60, 2) := by decide +kernel
theorem dX4_nearestFreeSlot_18 : decode cX4_nearestFreeSlot 18 = .ok (.if_icmp .ge 60, 3) := by decide +kernel
theorem dX4_nearestFreeSlot_21 : decode cX4_nearestFreeSlot 21 = .ok (.aload_n 0, 1) := by decide +kernel
theorem dX4_nearestFreeSlot_22 : decode cX4_nearestFreeSlot 22 = .ok (.aload_n 0, 1) := by decide +kernel
theorem dX4_nearestFreeSlot_23 : decode cX4_nearestFreeSlot 23 = .ok (.getfield 38, 3) := by decide +kernel
theorem dX4_nearestFreeSlot_26 : decode cX4_nearestFreeSlot 26 = .ok (.iload_n 3, 1) := by decide +kernel
theorem dX4_nearestFreeSlot_27 : decode cX4_nearestFreeSlot 27 = .ok (.iaload, 1) := by decide +kernel
theorem dX4_nearestFreeSlot_28 : decode cX4_nearestFreeSlot 28 = .ok (.invokevirtual 90, 3) := by decide +kernel
theorem dX4_nearestFreeSlot_31 : decode cX4_nearestFreeSlot 31 = .ok (.ifCond .ne 16, 3) := by decide +kernel
theorem dX4_nearestFreeSlot_34 : decode cX4_nearestFreeSlot 34 = .ok (.aload_n 0, 1) := by decide +kernel
theorem dX4_nearestFreeSlot_35 : decode cX4_nearestFreeSlot 35 = .ok (.iload_n 3, 1) := by decide +kernel
theorem dX4_nearestFreeSlot_36 : decode cX4_nearestFreeSlot 36 = .ok (.iload_n 1, 1) := by decide +kernel
theorem dX4_nearestFreeSlot_37 : decode cX4_nearestFreeSlot 37 = .ok (.invokevirtual 103, 3) := by decide +kernel
theorem dX4_nearestFreeSlot_40 : decode cX4_nearestFreeSlot 40 = .ok (.ifCond .eq 7, 3) := by decide +kernel
theorem dX4_nearestFreeSlot_43 : decode cX4_nearestFreeSlot 43 = .ok (.iconst 1, 1) := by decide +kernel
theorem dX4_nearestFreeSlot_44 : decode cX4_nearestFreeSlot 44 = .ok (.goto 4, 3) := by decide +kernel
theorem dX4_nearestFreeSlot_47 : decode cX4_nearestFreeSlot 47 = .ok (.iconst 0, 1) := by decide +kernel
theorem dX4_nearestFreeSlot_48 : decode cX4_nearestFreeSlot 48 = .ok (.istore 4, 2) := by decide +kernel
theorem dX4_nearestFreeSlot_50 : decode cX4_nearestFreeSlot 50 = .ok (.iload 4, 2) := by decide +kernel
theorem dX4_nearestFreeSlot_52 : decode cX4_nearestFreeSlot 52 = .ok (.ifCond .eq 20, 3) := by decide +kernel
theorem dX4_nearestFreeSlot_55 : decode cX4_nearestFreeSlot 55 = .ok (.iload_n 2, 1) := by decide +kernel
theorem dX4_nearestFreeSlot_56 : decode cX4_nearestFreeSlot 56 = .ok (.ifCond .lt 14, 3) := by decide +kernel
theorem dX4_nearestFreeSlot_59 : decode cX4_nearestFreeSlot 59 = .ok (.iload_n 3, 1) := by decide +kernel
theorem dX4_nearestFreeSlot_60 : decode cX4_nearestFreeSlot 60 = .ok (.invokestatic 111, 3) := by decide +kernel
theorem dX4_nearestFreeSlot_63 : decode cX4_nearestFreeSlot 63 = .ok (.iload_n 2, 1) := by decide +kernel
theorem dX4_nearestFreeSlot_64 : decode cX4_nearestFreeSlot 64 = .ok (.invokestatic 111, 3) := by decide +kernel
theorem dX4_nearestFreeSlot_67 : decode cX4_nearestFreeSlot 67 = .ok (.if_icmp .ge 5, 3) := by decide +kernel
theorem dX4_nearestFreeSlot_70 : decode cX4_nearestFreeSlot 70 = .ok (.iload_n 3, 1) := by decide +kernel
theorem dX4_nearestFreeSlot_71 : decode cX4_nearestFreeSlot 71 = .ok (.istore_n 2, 1) := by decide +kernel
theorem dX4_nearestFreeSlot_72 : decode cX4_nearestFreeSlot 72 = .ok (.iinc 3 1, 3) := by decide +kernel
theorem dX4_nearestFreeSlot_75 : decode cX4_nearestFreeSlot 75 = .ok (.goto (-60), 3) := by decide +kernel
theorem dX4_nearestFreeSlot_78 : decode cX4_nearestFreeSlot 78 = .ok (.iload_n 2, 1) := by decide +kernel
theorem dX4_nearestFreeSlot_79 : decode cX4_nearestFreeSlot 79 = .ok (.ireturn, 1) := by decide +kernel
set_option maxRecDepth 20000 in
theorem ggX4_pickUnits_X4_isGood : GoodIn wsX4_pickUnits wsX4_isGood := goodIn_r _ [11, 12, 47, 48, 49, 50, 51, 52, 53, 54, 55, 56, 57, 58, 59] (by decide +kernel) (by decide +kernel)
set_option maxRecDepth 20000 in
theorem gX4_pickUnits_X4_isGood : GoodIn wsX4_pickUnits (wsV RX4 90 RX4 yX4_isGood wsX4_isGood) := goodIn_app (goodIn_of _ (by decide +kernel)) ggX4_pickUnits_X4_isGood
set_option maxRecDepth 20000 in
theorem ggX4_pickUnits_X5_isIn : GoodIn wsX4_pickUnits wsX5_isIn := goodIn_r _ [15] (by decide +kernel) (by decide +kernel)
set_option maxRecDepth 20000 in
theorem gX4_pickUnits_X5_isIn_n86 : GoodIn wsX4_pickUnits (wsX5_isIn) := ggX4_pickUnits_X5_isIn
set_option maxRecDepth 20000 in
theorem ggX4_pickUnits_X4_isPlaced : GoodIn wsX4_pickUnits wsX4_isPlaced := goodIn_r _ [19, 3, 20, 21, 22, 23, 47, 48, 49, 50, 51, 52, 53, 54, 55, 56, 57, 58, 59] (by decide +kernel) (by decide +kernel)
set_option maxRecDepth 20000 in
theorem gX4_pickUnits_X4_isPlaced : GoodIn wsX4_pickUnits (wsV RX4 100 RX4 yX4_isPlaced wsX4_isPlaced) := goodIn_app (goodIn_of _ (by decide +kernel)) ggX4_pickUnits_X4_isPlaced
set_option maxRecDepth 20000 in
theorem ggX4_pickUnits_X4_unitsToBring : GoodIn wsX4_pickUnits wsX4_unitsToBring := goodIn_r _ [27, 28, 1, 29, 30, 31, 32, 33, 47, 48, 49, 50, 51, 52, 53, 54, 55, 56, 57, 58, 59] (by decide +kernel) (by decide +kernel)
set_option maxRecDepth 20000 in
theorem gX4_pickUnits_X4_unitsToBring : GoodIn wsX4_pickUnits (wsV RX4 117 RX4 yX4_unitsToBring wsX4_unitsToBring) := goodIn_app (goodIn_of _ (by decide +kernel)) ggX4_pickUnits_X4_unitsToBring
set_option maxRecDepth 20000 in
theorem ggX4_pickUnits_X4_bring : GoodIn wsX4_pickUnits wsX4_bring := goodIn_r _ [37, 38, 2, 3, 29, 1, 6, 39, 40, 41, 10, 42, 43, 44, 22, 45, 46, 47, 48, 49, 50, 51, 52, 53, 54, 55, 56, 57, 58, 59, 60, 61, 62, 63, 64, 65, 66] (by decide +kernel) (by decide +kernel)
set_option maxRecDepth 20000 in
theorem gX4_pickUnits_X4_bring : GoodIn wsX4_pickUnits (wsV RX4 120 RX4 yX4_bring wsX4_bring) := goodIn_app (goodIn_of _ (by decide +kernel)) ggX4_pickUnits_X4_bring
set_option maxRecDepth 20000 in
theorem ggX4_pickUnits_X2_walkTo : GoodIn wsX4_pickUnits wsX2_walkTo := goodIn_r _ [45, 46] (by decide +kernel) (by decide +kernel)
set_option maxRecDepth 20000 in
theorem gX4_pickUnits_X2_walkTo : GoodIn wsX4_pickUnits (va_wsS RX4 111 yX2_walkTo wsX2_walkTo) := goodIn_app (goodIn_of _ (by decide +kernel)) ggX4_pickUnits_X2_walkTo
theorem dX4_pickUnits_0 : decode cX4_pickUnits 0 = .ok (.aload_n 0, 1) := by decide +kernel
theorem dX4_pickUnits_1 : decode cX4_pickUnits 1 = .ok (.iload_n 1, 1) := by decide +kernel
theorem dX4_pickUnits_2 : decode cX4_pickUnits 2 = .ok (.invokevirtual 90, 3) := by decide +kernel
theorem dX4_pickUnits_5 : decode cX4_pickUnits 5 = .ok (.ifCond .eq 14, 3) := by decide +kernel
theorem dX4_pickUnits_8 : decode cX4_pickUnits 8 = .ok (.iload_n 2, 1) := by decide +kernel
theorem dX4_pickUnits_9 : decode cX4_pickUnits 9 = .ok (.iconst 1, 1) := by decide +kernel
theorem dX4_pickUnits_10 : decode cX4_pickUnits 10 = .ok (.sipush 200, 3) := by decide +kernel
theorem dX4_pickUnits_13 : decode cX4_pickUnits 13 = .ok (.invokestatic 86, 3) := by decide +kernel
theorem dX4_pickUnits_16 : decode cX4_pickUnits 16 = .ok (.ifCond .ne 5, 3) := by decide +kernel
theorem dX4_pickUnits_19 : decode cX4_pickUnits 19 = .ok (.iconst (-1), 1) := by decide +kernel
theorem dX4_pickUnits_20 : decode cX4_pickUnits 20 = .ok (.ireturn, 1) := by decide +kernel
theorem dX4_pickUnits_21 : decode cX4_pickUnits 21 = .ok (.aload_n 0, 1) := by decide +kernel
theorem dX4_pickUnits_22 : decode cX4_pickUnits 22 = .ok (.iload_n 1, 1) := by decide +kernel
theorem dX4_pickUnits_23 : decode cX4_pickUnits 23 = .ok (.invokevirtual 100, 3) := by decide +kernel
theorem dX4_pickUnits_26 : decode cX4_pickUnits 26 = .ok (.ifCond .ne 6, 3) := by decide +kernel
theorem dX4_pickUnits_29 : decode cX4_pickUnits 29 = .ok (.bipush (-2), 2) := by decide +kernel
theorem dX4_pickUnits_31 : decode cX4_pickUnits 31 = .ok (.ireturn, 1) := by decide +kernel
theorem dX4_pickUnits_32 : decode cX4_pickUnits 32 = .ok (.aload_n 0, 1) := by decide +kernel
theorem dX4_pickUnits_33 : decode cX4_pickUnits 33 = .ok (.getfield 24, 3) := by decide +kernel
theorem dX4_pickUnits_36 : decode cX4_pickUnits 36 = .ok (.iload_n 1, 1) := by decide +kernel
theorem dX4_pickUnits_37 : decode cX4_pickUnits 37 = .ok (.iaload, 1) := by decide +kernel
theorem dX4_pickUnits_38 : decode cX4_pickUnits 38 = .ok (.iload_n 2, 1) := by decide +kernel
theorem dX4_pickUnits_39 : decode cX4_pickUnits 39 = .ok (.if_icmp .ge 17, 3) := by decide +kernel
theorem dX4_pickUnits_42 : decode cX4_pickUnits 42 = .ok (.aload_n 0, 1) := by decide +kernel
theorem dX4_pickUnits_43 : decode cX4_pickUnits 43 = .ok (.getfield 41, 3) := by decide +kernel
theorem dX4_pickUnits_46 : decode cX4_pickUnits 46 = .ok (.iconst 2, 1) := by decide +kernel
theorem dX4_pickUnits_47 : decode cX4_pickUnits 47 = .ok (.iaload, 1) := by decide +kernel
theorem dX4_pickUnits_48 : decode cX4_pickUnits 48 = .ok (.iconst 1, 1) := by decide +kernel
theorem dX4_pickUnits_49 : decode cX4_pickUnits 49 = .ok (.if_icmp .ne 7, 3) := by decide +kernel
theorem dX4_pickUnits_52 : decode cX4_pickUnits 52 = .ok (.iconst 1, 1) := by decide +kernel
theorem dX4_pickUnits_53 : decode cX4_pickUnits 53 = .ok (.goto 4, 3) := by decide +kernel
theorem dX4_pickUnits_56 : decode cX4_pickUnits 56 = .ok (.iconst 0, 1) := by decide +kernel
theorem dX4_pickUnits_57 : decode cX4_pickUnits 57 = .ok (.istore_n 3, 1) := by decide +kernel
theorem dX4_pickUnits_58 : decode cX4_pickUnits 58 = .ok (.iload_n 3, 1) := by decide +kernel
theorem dX4_pickUnits_59 : decode cX4_pickUnits 59 = .ok (.ifCond .eq 11, 3) := by decide +kernel
theorem dX4_pickUnits_62 : decode cX4_pickUnits 62 = .ok (.aload_n 0, 1) := by decide +kernel
theorem dX4_pickUnits_63 : decode cX4_pickUnits 63 = .ok (.iload_n 1, 1) := by decide +kernel
theorem dX4_pickUnits_64 : decode cX4_pickUnits 64 = .ok (.invokevirtual 117, 3) := by decide +kernel
theorem dX4_pickUnits_67 : decode cX4_pickUnits 67 = .ok (.goto 4, 3) := by decide +kernel
theorem dX4_pickUnits_70 : decode cX4_pickUnits 70 = .ok (.iconst 0, 1) := by decide +kernel
theorem dX4_pickUnits_71 : decode cX4_pickUnits 71 = .ok (.istore 4, 2) := by decide +kernel
theorem dX4_pickUnits_73 : decode cX4_pickUnits 73 = .ok (.aload_n 0, 1) := by decide +kernel
theorem dX4_pickUnits_74 : decode cX4_pickUnits 74 = .ok (.getfield 24, 3) := by decide +kernel
theorem dX4_pickUnits_77 : decode cX4_pickUnits 77 = .ok (.iload_n 1, 1) := by decide +kernel
theorem dX4_pickUnits_78 : decode cX4_pickUnits 78 = .ok (.iaload, 1) := by decide +kernel
theorem dX4_pickUnits_79 : decode cX4_pickUnits 79 = .ok (.iload 4, 2) := by decide +kernel
theorem dX4_pickUnits_81 : decode cX4_pickUnits 81 = .ok (.iadd, 1) := by decide +kernel
theorem dX4_pickUnits_82 : decode cX4_pickUnits 82 = .ok (.iload_n 2, 1) := by decide +kernel
theorem dX4_pickUnits_83 : decode cX4_pickUnits 83 = .ok (.if_icmp .ge 6, 3) := by decide +kernel
theorem dX4_pickUnits_86 : decode cX4_pickUnits 86 = .ok (.bipush (-2), 2) := by decide +kernel
theorem dX4_pickUnits_88 : decode cX4_pickUnits 88 = .ok (.ireturn, 1) := by decide +kernel
theorem dX4_pickUnits_89 : decode cX4_pickUnits 89 = .ok (.aload_n 0, 1) := by decide +kernel
theorem dX4_pickUnits_90 : decode cX4_pickUnits 90 = .ok (.iload_n 1, 1) := by decide +kernel
theorem dX4_pickUnits_91 : decode cX4_pickUnits 91 = .ok (.iload 4, 2) := by decide +kernel
theorem dX4_pickUnits_93 : decode cX4_pickUnits 93 = .ok (.invokevirtual 120, 3) := by decide +kernel
theorem dX4_pickUnits_96 : decode cX4_pickUnits 96 = .ok (.aload_n 0, 1) := by decide +kernel
theorem dX4_pickUnits_97 : decode cX4_pickUnits 97 = .ok (.getfield 21, 3) := by decide +kernel
theorem dX4_pickUnits_100 : decode cX4_pickUnits 100 = .ok (.iload_n 1, 1) := by decide +kernel
theorem dX4_pickUnits_101 : decode cX4_pickUnits 101 = .ok (.iaload, 1) := by decide +kernel
theorem dX4_pickUnits_102 : decode cX4_pickUnits 102 = .ok (.invokestatic 111, 3) := by decide +kernel
theorem dX4_pickUnits_105 : decode cX4_pickUnits 105 = .ok (.iadd, 1) := by decide +kernel
theorem dX4_pickUnits_106 : decode cX4_pickUnits 106 = .ok (.istore 5, 2) := by decide +kernel
theorem dX4_pickUnits_108 : decode cX4_pickUnits 108 = .ok (.aload_n 0, 1) := by decide +kernel
theorem dX4_pickUnits_109 : decode cX4_pickUnits 109 = .ok (.getfield 24, 3) := by decide +kernel
theorem dX4_pickUnits_112 : decode cX4_pickUnits 112 = .ok (.iload_n 1, 1) := by decide +kernel
theorem dX4_pickUnits_113 : decode cX4_pickUnits 113 = .ok (.dup2, 1) := by decide +kernel
theorem dX4_pickUnits_114 : decode cX4_pickUnits 114 = .ok (.iaload, 1) := by decide +kernel
theorem dX4_pickUnits_115 : decode cX4_pickUnits 115 = .ok (.iload_n 2, 1) := by decide +kernel
theorem dX4_pickUnits_116 : decode cX4_pickUnits 116 = .ok (.isub, 1) := by decide +kernel
theorem dX4_pickUnits_117 : decode cX4_pickUnits 117 = .ok (.iastore, 1) := by decide +kernel
theorem dX4_pickUnits_118 : decode cX4_pickUnits 118 = .ok (.aload_n 0, 1) := by decide +kernel
theorem dX4_pickUnits_119 : decode cX4_pickUnits 119 = .ok (.getfield 33, 3) := by decide +kernel
theorem dX4_pickUnits_122 : decode cX4_pickUnits 122 = .ok (.iload_n 1, 1) := by decide +kernel
theorem dX4_pickUnits_123 : decode cX4_pickUnits 123 = .ok (.dup2, 1) := by decide +kernel
theorem dX4_pickUnits_124 : decode cX4_pickUnits 124 = .ok (.iaload, 1) := by decide +kernel
theorem dX4_pickUnits_125 : decode cX4_pickUnits 125 = .ok (.iload_n 2, 1) := by decide +kernel
theorem dX4_pickUnits_126 : decode cX4_pickUnits 126 = .ok (.iadd, 1) := by decide +kernel
theorem dX4_pickUnits_127 : decode cX4_pickUnits 127 = .ok (.iastore, 1) := by decide +kernel
theorem dX4_pickUnits_128 : decode cX4_pickUnits 128 = .ok (.aload_n 0, 1) := by decide +kernel
theorem dX4_pickUnits_129 : decode cX4_pickUnits 129 = .ok (.getfield 30, 3) := by decide +kernel
theorem dX4_pickUnits_132 : decode cX4_pickUnits 132 = .ok (.iload_n 1, 1) := by decide +kernel
theorem dX4_pickUnits_133 : decode cX4_pickUnits 133 = .ok (.dup2, 1) := by decide +kernel
theorem dX4_pickUnits_134 : decode cX4_pickUnits 134 = .ok (.iaload, 1) := by decide +kernel
theorem dX4_pickUnits_135 : decode cX4_pickUnits 135 = .ok (.iconst 1, 1) := by decide +kernel
theorem dX4_pickUnits_136 : decode cX4_pickUnits 136 = .ok (.iadd, 1) := by decide +kernel
theorem dX4_pickUnits_137 : decode cX4_pickUnits 137 = .ok (.iastore, 1) := by decide +kernel
theorem dX4_pickUnits_138 : decode cX4_pickUnits 138 = .ok (.aload_n 0, 1) := by decide +kernel
theorem dX4_pickUnits_139 : decode cX4_pickUnits 139 = .ok (.getfield 47, 3) := by decide +kernel
theorem dX4_pickUnits_142 : decode cX4_pickUnits 142 = .ok (.dup, 1) := by decide +kernel
theorem dX4_pickUnits_143 : decode cX4_pickUnits 143 = .ok (.getfield 123, 3) := by decide +kernel
theorem dX4_pickUnits_146 : decode cX4_pickUnits 146 = .ok (.iconst 1, 1) := by decide +kernel
theorem dX4_pickUnits_147 : decode cX4_pickUnits 147 = .ok (.iadd, 1) := by decide +kernel
theorem dX4_pickUnits_148 : decode cX4_pickUnits 148 = .ok (.putfield 123, 3) := by decide +kernel
theorem dX4_pickUnits_151 : decode cX4_pickUnits 151 = .ok (.aload_n 0, 1) := by decide +kernel
theorem dX4_pickUnits_152 : decode cX4_pickUnits 152 = .ok (.getfield 47, 3) := by decide +kernel
theorem dX4_pickUnits_155 : decode cX4_pickUnits 155 = .ok (.dup, 1) := by decide +kernel
theorem dX4_pickUnits_156 : decode cX4_pickUnits 156 = .ok (.getfield 126, 3) := by decide +kernel
theorem dX4_pickUnits_159 : decode cX4_pickUnits 159 = .ok (.aload_n 0, 1) := by decide +kernel
theorem dX4_pickUnits_160 : decode cX4_pickUnits 160 = .ok (.getfield 21, 3) := by decide +kernel
theorem dX4_pickUnits_163 : decode cX4_pickUnits 163 = .ok (.iload_n 1, 1) := by decide +kernel
theorem dX4_pickUnits_164 : decode cX4_pickUnits 164 = .ok (.iaload, 1) := by decide +kernel
theorem dX4_pickUnits_165 : decode cX4_pickUnits 165 = .ok (.invokestatic 111, 3) := by decide +kernel
theorem dX4_pickUnits_168 : decode cX4_pickUnits 168 = .ok (.iadd, 1) := by decide +kernel
theorem dX4_pickUnits_169 : decode cX4_pickUnits 169 = .ok (.putfield 126, 3) := by decide +kernel
theorem dX4_pickUnits_172 : decode cX4_pickUnits 172 = .ok (.iload 5, 2) := by decide +kernel
theorem dX4_pickUnits_174 : decode cX4_pickUnits 174 = .ok (.ireturn, 1) := by decide +kernel
set_option maxRecDepth 20000 in
theorem ggX4_refillSlot_X4_isGood : GoodIn wsX4_refillSlot wsX4_isGood := goodIn_r _ [5, 6, 42, 43, 44, 45, 46, 47, 48, 49, 50, 51, 52, 53, 54] (by decide +kernel) (by decide +kernel)
set_option maxRecDepth 20000 in
theorem gX4_refillSlot_X4_isGood : GoodIn wsX4_refillSlot (wsV RX4 90 RX4 yX4_isGood wsX4_isGood) := goodIn_app (goodIn_of _ (by decide +kernel)) ggX4_refillSlot_X4_isGood
set_option maxRecDepth 20000 in
theorem ggX4_refillSlot_X4_isPlaced : GoodIn wsX4_refillSlot wsX4_isPlaced := goodIn_r _ [10, 11, 12, 13, 14, 15, 42, 43, 44, 45, 46, 47, 48, 49, 50, 51, 52, 53, 54] (by decide +kernel) (by decide +kernel)
set_option maxRecDepth 20000 in
theorem gX4_refillSlot_X4_isPlaced : GoodIn wsX4_refillSlot (wsV RX4 100 RX4 yX4_isPlaced wsX4_isPlaced) := goodIn_app (goodIn_of _ (by decide +kernel)) ggX4_refillSlot_X4_isPlaced
set_option maxRecDepth 20000 in
theorem ggX4_refillSlot_X4_unitsToBring : GoodIn wsX4_refillSlot wsX4_unitsToBring := goodIn_r _ [19, 20, 21, 22, 23, 24, 25, 26, 42, 43, 44, 45, 46, 47, 48, 49, 50, 51, 52, 53, 54] (by decide +kernel) (by decide +kernel)
set_option maxRecDepth 20000 in
theorem gX4_refillSlot_X4_unitsToBring : GoodIn wsX4_refillSlot (wsV RX4 117 RX4 yX4_unitsToBring wsX4_unitsToBring) := goodIn_app (goodIn_of _ (by decide +kernel)) ggX4_refillSlot_X4_unitsToBring
set_option maxRecDepth 20000 in
theorem ggX4_refillSlot_X4_bring : GoodIn wsX4_refillSlot wsX4_bring := goodIn_r _ [30, 31, 32, 11, 22, 21, 33, 34, 35, 36, 4, 37, 38, 39, 14, 40, 41, 42, 43, 44, 45, 46, 47, 48, 49, 50, 51, 52, 53, 54, 55, 56, 57, 58, 59, 60, 61] (by decide +kernel) (by decide +kernel)
set_option maxRecDepth 20000 in
theorem gX4_refillSlot_X4_bring : GoodIn wsX4_refillSlot (wsV RX4 120 RX4 yX4_bring wsX4_bring) := goodIn_app (goodIn_of _ (by decide +kernel)) ggX4_refillSlot_X4_bring
theorem dX4_refillSlot_0 : decode cX4_refillSlot 0 = .ok (.aload_n 0, 1) := by decide +kernel
theorem dX4_refillSlot_1 : decode cX4_refillSlot 1 = .ok (.iload_n 1, 1) := by decide +kernel
theorem dX4_refillSlot_2 : decode cX4_refillSlot 2 = .ok (.invokevirtual 90, 3) := by decide +kernel
theorem dX4_refillSlot_5 : decode cX4_refillSlot 5 = .ok (.ifCond .ne 5, 3) := by decide +kernel
theorem dX4_refillSlot_8 : decode cX4_refillSlot 8 = .ok (.iconst (-1), 1) := by decide +kernel
theorem dX4_refillSlot_9 : decode cX4_refillSlot 9 = .ok (.ireturn, 1) := by decide +kernel
theorem dX4_refillSlot_10 : decode cX4_refillSlot 10 = .ok (.aload_n 0, 1) := by decide +kernel
theorem dX4_refillSlot_11 : decode cX4_refillSlot 11 = .ok (.iload_n 1, 1) := by decide +kernel
theorem dX4_refillSlot_12 : decode cX4_refillSlot 12 = .ok (.invokevirtual 100, 3) := by decide +kernel
theorem dX4_refillSlot_15 : decode cX4_refillSlot 15 = .ok (.ifCond .eq 12, 3) := by decide +kernel
theorem dX4_refillSlot_18 : decode cX4_refillSlot 18 = .ok (.aload_n 0, 1) := by decide +kernel
theorem dX4_refillSlot_19 : decode cX4_refillSlot 19 = .ok (.iload_n 1, 1) := by decide +kernel
theorem dX4_refillSlot_20 : decode cX4_refillSlot 20 = .ok (.invokevirtual 117, 3) := by decide +kernel
theorem dX4_refillSlot_23 : decode cX4_refillSlot 23 = .ok (.iconst 1, 1) := by decide +kernel
theorem dX4_refillSlot_24 : decode cX4_refillSlot 24 = .ok (.if_icmp .ge 6, 3) := by decide +kernel
theorem dX4_refillSlot_27 : decode cX4_refillSlot 27 = .ok (.bipush (-2), 2) := by decide +kernel
theorem dX4_refillSlot_29 : decode cX4_refillSlot 29 = .ok (.ireturn, 1) := by decide +kernel
theorem dX4_refillSlot_30 : decode cX4_refillSlot 30 = .ok (.aload_n 0, 1) := by decide +kernel
theorem dX4_refillSlot_31 : decode cX4_refillSlot 31 = .ok (.iload_n 1, 1) := by decide +kernel
theorem dX4_refillSlot_32 : decode cX4_refillSlot 32 = .ok (.invokevirtual 117, 3) := by decide +kernel
theorem dX4_refillSlot_35 : decode cX4_refillSlot 35 = .ok (.istore_n 2, 1) := by decide +kernel
theorem dX4_refillSlot_36 : decode cX4_refillSlot 36 = .ok (.aload_n 0, 1) := by decide +kernel
theorem dX4_refillSlot_37 : decode cX4_refillSlot 37 = .ok (.iload_n 1, 1) := by decide +kernel
theorem dX4_refillSlot_38 : decode cX4_refillSlot 38 = .ok (.iload_n 2, 1) := by decide +kernel
theorem dX4_refillSlot_39 : decode cX4_refillSlot 39 = .ok (.invokevirtual 120, 3) := by decide +kernel
theorem dX4_refillSlot_42 : decode cX4_refillSlot 42 = .ok (.pop, 1) := by decide +kernel
theorem dX4_refillSlot_43 : decode cX4_refillSlot 43 = .ok (.iload_n 2, 1) := by decide +kernel
theorem dX4_refillSlot_44 : decode cX4_refillSlot 44 = .ok (.ireturn, 1) := by decide +kernel
theorem dX4_unitsToBring_0 : decode cX4_unitsToBring 0 = .ok (.aload_n 0, 1) := by decide +kernel
theorem dX4_unitsToBring_1 : decode cX4_unitsToBring 1 = .ok (.getfield 15, 3) := by decide +kernel
theorem dX4_unitsToBring_4 : decode cX4_unitsToBring 4 = .ok (.iload_n 1, 1) := by decide +kernel
theorem dX4_unitsToBring_5 : decode cX4_unitsToBring 5 = .ok (.iaload, 1) := by decide +kernel
theorem dX4_unitsToBring_6 : decode cX4_unitsToBring 6 = .ok (.aload_n 0, 1) := by decide +kernel
theorem dX4_unitsToBring_7 : decode cX4_unitsToBring 7 = .ok (.getfield 24, 3) := by decide +kernel
theorem dX4_unitsToBring_10 : decode cX4_unitsToBring 10 = .ok (.iload_n 1, 1) := by decide +kernel
theorem dX4_unitsToBring_11 : decode cX4_unitsToBring 11 = .ok (.iaload, 1) := by decide +kernel
theorem dX4_unitsToBring_12 : decode cX4_unitsToBring 12 = .ok (.isub, 1) := by decide +kernel
theorem dX4_unitsToBring_13 : decode cX4_unitsToBring 13 = .ok (.aload_n 0, 1) := by decide +kernel
theorem dX4_unitsToBring_14 : decode cX4_unitsToBring 14 = .ok (.getfield 27, 3) := by decide +kernel
theorem dX4_unitsToBring_17 : decode cX4_unitsToBring 17 = .ok (.iload_n 1, 1) := by decide +kernel
theorem dX4_unitsToBring_18 : decode cX4_unitsToBring 18 = .ok (.iaload, 1) := by decide +kernel
theorem dX4_unitsToBring_19 : decode cX4_unitsToBring 19 = .ok (.invokestatic 66, 3) := by decide +kernel
theorem dX4_unitsToBring_22 : decode cX4_unitsToBring 22 = .ok (.ireturn, 1) := by decide +kernel
set_option maxRecDepth 20000 in
theorem ggX4_bring_X4_tripsFor : GoodIn wsX4_bring wsX4_tripsFor := goodIn_r _ [11, 2, 17, 18, 19, 20, 21, 22, 23, 24, 25, 26, 27, 28, 29] (by decide +kernel) (by decide +kernel)
set_option maxRecDepth 20000 in
theorem gX4_bring_X4_tripsFor : GoodIn wsX4_bring (wsV RX4 129 RX4 yX4_tripsFor wsX4_tripsFor) := goodIn_app (goodIn_of _ (by decide +kernel)) ggX4_bring_X4_tripsFor
set_option maxRecDepth 20000 in
theorem ggX4_bring_X2_walkTo : GoodIn wsX4_bring wsX2_walkTo := goodIn_r _ [15, 16] (by decide +kernel) (by decide +kernel)
set_option maxRecDepth 20000 in
theorem gX4_bring_X2_walkTo : GoodIn wsX4_bring (va_wsS RX4 111 yX2_walkTo wsX2_walkTo) := goodIn_app (goodIn_of _ (by decide +kernel)) ggX4_bring_X2_walkTo
theorem dX4_bring_0 : decode cX4_bring 0 = .ok (.aload_n 0, 1) := by decide +kernel
theorem dX4_bring_1 : decode cX4_bring 1 = .ok (.iload_n 2, 1) := by decide +kernel
theorem dX4_bring_2 : decode cX4_bring 2 = .ok (.aload_n 0, 1) := by decide +kernel
theorem dX4_bring_3 : decode cX4_bring 3 = .ok (.getfield 9, 3) := by decide +kernel
theorem dX4_bring_6 : decode cX4_bring 6 = .ok (.iload_n 1, 1) := by decide +kernel
theorem dX4_bring_7 : decode cX4_bring 7 = .ok (.iaload, 1) := by decide +kernel
theorem dX4_bring_8 : decode cX4_bring 8 = .ok (.imul, 1) := by decide +kernel
theorem dX4_bring_9 : decode cX4_bring 9 = .ok (.invokevirtual 129, 3) := by decide +kernel
theorem dX4_bring_12 : decode cX4_bring 12 = .ok (.istore_n 3, 1) := by decide +kernel
theorem dX4_bring_13 : decode cX4_bring 13 = .ok (.iload_n 3, 1) := by decide +kernel
theorem dX4_bring_14 : decode cX4_bring 14 = .ok (.aload_n 0, 1) := by decide +kernel
theorem dX4_bring_15 : decode cX4_bring 15 = .ok (.getfield 41, 3) := by decide +kernel
theorem dX4_bring_18 : decode cX4_bring 18 = .ok (.iconst 0, 1) := by decide +kernel
theorem dX4_bring_19 : decode cX4_bring 19 = .ok (.iaload, 1) := by decide +kernel
theorem dX4_bring_20 : decode cX4_bring 20 = .ok (.aload_n 0, 1) := by decide +kernel
theorem dX4_bring_21 : decode cX4_bring 21 = .ok (.getfield 21, 3) := by decide +kernel
theorem dX4_bring_24 : decode cX4_bring 24 = .ok (.iload_n 1, 1) := by decide +kernel
theorem dX4_bring_25 : decode cX4_bring 25 = .ok (.iaload, 1) := by decide +kernel
theorem dX4_bring_26 : decode cX4_bring 26 = .ok (.invokestatic 111, 3) := by decide +kernel
theorem dX4_bring_29 : decode cX4_bring 29 = .ok (.iadd, 1) := by decide +kernel
theorem dX4_bring_30 : decode cX4_bring 30 = .ok (.imul, 1) := by decide +kernel
theorem dX4_bring_31 : decode cX4_bring 31 = .ok (.istore 4, 2) := by decide +kernel
theorem dX4_bring_33 : decode cX4_bring 33 = .ok (.aload_n 0, 1) := by decide +kernel
theorem dX4_bring_34 : decode cX4_bring 34 = .ok (.getfield 27, 3) := by decide +kernel
theorem dX4_bring_37 : decode cX4_bring 37 = .ok (.iload_n 1, 1) := by decide +kernel
theorem dX4_bring_38 : decode cX4_bring 38 = .ok (.dup2, 1) := by decide +kernel
theorem dX4_bring_39 : decode cX4_bring 39 = .ok (.iaload, 1) := by decide +kernel
theorem dX4_bring_40 : decode cX4_bring 40 = .ok (.iload_n 2, 1) := by decide +kernel
theorem dX4_bring_41 : decode cX4_bring 41 = .ok (.isub, 1) := by decide +kernel
theorem dX4_bring_42 : decode cX4_bring 42 = .ok (.iastore, 1) := by decide +kernel
theorem dX4_bring_43 : decode cX4_bring 43 = .ok (.aload_n 0, 1) := by decide +kernel
theorem dX4_bring_44 : decode cX4_bring 44 = .ok (.getfield 24, 3) := by decide +kernel
theorem dX4_bring_47 : decode cX4_bring 47 = .ok (.iload_n 1, 1) := by decide +kernel
theorem dX4_bring_48 : decode cX4_bring 48 = .ok (.dup2, 1) := by decide +kernel
theorem dX4_bring_49 : decode cX4_bring 49 = .ok (.iaload, 1) := by decide +kernel
theorem dX4_bring_50 : decode cX4_bring 50 = .ok (.iload_n 2, 1) := by decide +kernel
theorem dX4_bring_51 : decode cX4_bring 51 = .ok (.iadd, 1) := by decide +kernel
theorem dX4_bring_52 : decode cX4_bring 52 = .ok (.iastore, 1) := by decide +kernel
theorem dX4_bring_53 : decode cX4_bring 53 = .ok (.aload_n 0, 1) := by decide +kernel
theorem dX4_bring_54 : decode cX4_bring 54 = .ok (.getfield 47, 3) := by decide +kernel
theorem dX4_bring_57 : decode cX4_bring 57 = .ok (.dup, 1) := by decide +kernel
theorem dX4_bring_58 : decode cX4_bring 58 = .ok (.getfield 132, 3) := by decide +kernel
theorem dX4_bring_61 : decode cX4_bring 61 = .ok (.iload_n 3, 1) := by decide +kernel
theorem dX4_bring_62 : decode cX4_bring 62 = .ok (.iadd, 1) := by decide +kernel
theorem dX4_bring_63 : decode cX4_bring 63 = .ok (.putfield 132, 3) := by decide +kernel
theorem dX4_bring_66 : decode cX4_bring 66 = .ok (.aload_n 0, 1) := by decide +kernel
theorem dX4_bring_67 : decode cX4_bring 67 = .ok (.getfield 47, 3) := by decide +kernel
theorem dX4_bring_70 : decode cX4_bring 70 = .ok (.dup, 1) := by decide +kernel
theorem dX4_bring_71 : decode cX4_bring 71 = .ok (.getfield 135, 3) := by decide +kernel
theorem dX4_bring_74 : decode cX4_bring 74 = .ok (.iload 4, 2) := by decide +kernel
theorem dX4_bring_76 : decode cX4_bring 76 = .ok (.iadd, 1) := by decide +kernel
theorem dX4_bring_77 : decode cX4_bring 77 = .ok (.putfield 135, 3) := by decide +kernel
theorem dX4_bring_80 : decode cX4_bring 80 = .ok (.iload 4, 2) := by decide +kernel
theorem dX4_bring_82 : decode cX4_bring 82 = .ok (.ireturn, 1) := by decide +kernel
theorem dX4_tripsFor_0 : decode cX4_tripsFor 0 = .ok (.aload_n 0, 1) := by decide +kernel
theorem dX4_tripsFor_1 : decode cX4_tripsFor 1 = .ok (.getfield 41, 3) := by decide +kernel
theorem dX4_tripsFor_4 : decode cX4_tripsFor 4 = .ok (.iconst 1, 1) := by decide +kernel
theorem dX4_tripsFor_5 : decode cX4_tripsFor 5 = .ok (.iaload, 1) := by decide +kernel
theorem dX4_tripsFor_6 : decode cX4_tripsFor 6 = .ok (.istore_n 2, 1) := by decide +kernel
theorem dX4_tripsFor_7 : decode cX4_tripsFor 7 = .ok (.iload_n 2, 1) := by decide +kernel
theorem dX4_tripsFor_8 : decode cX4_tripsFor 8 = .ok (.iconst 1, 1) := by decide +kernel
theorem dX4_tripsFor_9 : decode cX4_tripsFor 9 = .ok (.if_icmp .ge 7, 3) := by decide +kernel
theorem dX4_tripsFor_12 : decode cX4_tripsFor 12 = .ok (.iconst 0, 1) := by decide +kernel
theorem dX4_tripsFor_13 : decode cX4_tripsFor 13 = .ok (.goto 10, 3) := by decide +kernel
theorem dX4_tripsFor_16 : decode cX4_tripsFor 16 = .ok (.iload_n 1, 1) := by decide +kernel
theorem dX4_tripsFor_17 : decode cX4_tripsFor 17 = .ok (.iload_n 2, 1) := by decide +kernel
theorem dX4_tripsFor_18 : decode cX4_tripsFor 18 = .ok (.iadd, 1) := by decide +kernel
theorem dX4_tripsFor_19 : decode cX4_tripsFor 19 = .ok (.iconst 1, 1) := by decide +kernel
theorem dX4_tripsFor_20 : decode cX4_tripsFor 20 = .ok (.isub, 1) := by decide +kernel
theorem dX4_tripsFor_21 : decode cX4_tripsFor 21 = .ok (.iload_n 2, 1) := by decide +kernel
theorem dX4_tripsFor_22 : decode cX4_tripsFor 22 = .ok (.idiv, 1) := by decide +kernel
theorem dX4_tripsFor_23 : decode cX4_tripsFor 23 = .ok (.ireturn, 1) := by decide +kernel
set_option maxRecDepth 20000 in
theorem ggX4_finishWeek_X4_presentSeason : GoodIn wsX4_finishWeek wsX4_presentSeason := goodIn_r _ [13, 1, 18, 19, 20, 21, 22, 23, 24, 25, 26, 27, 28, 29, 30] (by decide +kernel) (by decide +kernel)
set_option maxRecDepth 20000 in
theorem gX4_finishWeek_X4_presentSeason : GoodIn wsX4_finishWeek (wsV RX4 138 RX4 yX4_presentSeason wsX4_presentSeason) := goodIn_app (goodIn_of _ (by decide +kernel)) ggX4_finishWeek_X4_presentSeason
set_option maxRecDepth 20000 in
theorem ggX4_finishWeek_X4_demandOf : GoodIn wsX4_finishWeek wsX4_demandOf := goodIn_r _ [17, 4, 18, 19, 20, 21, 22, 23, 24, 25, 26, 27, 28, 29, 30] (by decide +kernel) (by decide +kernel)
set_option maxRecDepth 20000 in
theorem gX4_finishWeek_X4_demandOf : GoodIn wsX4_finishWeek (wsV RX4 96 RX4 yX4_demandOf wsX4_demandOf) := goodIn_app (goodIn_of _ (by decide +kernel)) ggX4_finishWeek_X4_demandOf
theorem dX4_finishWeek_0 : decode cX4_finishWeek 0 = .ok (.aload_n 0, 1) := by decide +kernel
theorem dX4_finishWeek_1 : decode cX4_finishWeek 1 = .ok (.getfield 63, 3) := by decide +kernel
theorem dX4_finishWeek_4 : decode cX4_finishWeek 4 = .ok (.sipush 1000, 3) := by decide +kernel
theorem dX4_finishWeek_7 : decode cX4_finishWeek 7 = .ok (.if_icmp .lt 6, 3) := by decide +kernel
theorem dX4_finishWeek_10 : decode cX4_finishWeek 10 = .ok (.bipush (-3), 2) := by decide +kernel
theorem dX4_finishWeek_12 : decode cX4_finishWeek 12 = .ok (.ireturn, 1) := by decide +kernel
theorem dX4_finishWeek_13 : decode cX4_finishWeek 13 = .ok (.aload_n 0, 1) := by decide +kernel
theorem dX4_finishWeek_14 : decode cX4_finishWeek 14 = .ok (.invokevirtual 138, 3) := by decide +kernel
theorem dX4_finishWeek_17 : decode cX4_finishWeek 17 = .ok (.istore_n 1, 1) := by decide +kernel
theorem dX4_finishWeek_18 : decode cX4_finishWeek 18 = .ok (.iconst 0, 1) := by decide +kernel
theorem dX4_finishWeek_19 : decode cX4_finishWeek 19 = .ok (.istore_n 2, 1) := by decide +kernel
theorem dX4_finishWeek_20 : decode cX4_finishWeek 20 = .ok (.iload_n 2, 1) := by decide +kernel
theorem dX4_finishWeek_21 : decode cX4_finishWeek 21 = .ok (.aload_n 0, 1) := by decide +kernel
theorem dX4_finishWeek_22 : decode cX4_finishWeek 22 = .ok (.getfield 59, 3) := by decide +kernel
theorem dX4_finishWeek_25 : decode cX4_finishWeek 25 = .ok (.if_icmp .ge 51, 3) := by decide +kernel
theorem dX4_finishWeek_28 : decode cX4_finishWeek 28 = .ok (.iconst 3, 1) := by decide +kernel
theorem dX4_finishWeek_29 : decode cX4_finishWeek 29 = .ok (.aload_n 0, 1) := by decide +kernel
theorem dX4_finishWeek_30 : decode cX4_finishWeek 30 = .ok (.iload_n 2, 1) := by decide +kernel
theorem dX4_finishWeek_31 : decode cX4_finishWeek 31 = .ok (.iload_n 1, 1) := by decide +kernel
theorem dX4_finishWeek_32 : decode cX4_finishWeek 32 = .ok (.invokevirtual 96, 3) := by decide +kernel
theorem dX4_finishWeek_35 : decode cX4_finishWeek 35 = .ok (.imul, 1) := by decide +kernel
theorem dX4_finishWeek_36 : decode cX4_finishWeek 36 = .ok (.aload_n 0, 1) := by decide +kernel
theorem dX4_finishWeek_37 : decode cX4_finishWeek 37 = .ok (.getfield 30, 3) := by decide +kernel
theorem dX4_finishWeek_40 : decode cX4_finishWeek 40 = .ok (.iload_n 2, 1) := by decide +kernel
theorem dX4_finishWeek_41 : decode cX4_finishWeek 41 = .ok (.iaload, 1) := by decide +kernel
theorem dX4_finishWeek_42 : decode cX4_finishWeek 42 = .ok (.iadd, 1) := by decide +kernel
theorem dX4_finishWeek_43 : decode cX4_finishWeek 43 = .ok (.iconst 4, 1) := by decide +kernel
theorem dX4_finishWeek_44 : decode cX4_finishWeek 44 = .ok (.idiv, 1) := by decide +kernel
theorem dX4_finishWeek_45 : decode cX4_finishWeek 45 = .ok (.istore_n 3, 1) := by decide +kernel
theorem dX4_finishWeek_46 : decode cX4_finishWeek 46 = .ok (.aload_n 0, 1) := by decide +kernel
theorem dX4_finishWeek_47 : decode cX4_finishWeek 47 = .ok (.getfield 18, 3) := by decide +kernel
theorem dX4_finishWeek_50 : decode cX4_finishWeek 50 = .ok (.iload_n 2, 1) := by decide +kernel
theorem dX4_finishWeek_51 : decode cX4_finishWeek 51 = .ok (.iconst 4, 1) := by decide +kernel
theorem dX4_finishWeek_52 : decode cX4_finishWeek 52 = .ok (.imul, 1) := by decide +kernel
theorem dX4_finishWeek_53 : decode cX4_finishWeek 53 = .ok (.iload_n 1, 1) := by decide +kernel
theorem dX4_finishWeek_54 : decode cX4_finishWeek 54 = .ok (.iadd, 1) := by decide +kernel
theorem dX4_finishWeek_55 : decode cX4_finishWeek 55 = .ok (.iload_n 3, 1) := by decide +kernel
theorem dX4_finishWeek_56 : decode cX4_finishWeek 56 = .ok (.sipush 999, 3) := by decide +kernel
theorem dX4_finishWeek_59 : decode cX4_finishWeek 59 = .ok (.invokestatic 66, 3) := by decide +kernel
theorem dX4_finishWeek_62 : decode cX4_finishWeek 62 = .ok (.iastore, 1) := by decide +kernel
theorem dX4_finishWeek_63 : decode cX4_finishWeek 63 = .ok (.aload_n 0, 1) := by decide +kernel
theorem dX4_finishWeek_64 : decode cX4_finishWeek 64 = .ok (.getfield 30, 3) := by decide +kernel
theorem dX4_finishWeek_67 : decode cX4_finishWeek 67 = .ok (.iload_n 2, 1) := by decide +kernel
theorem dX4_finishWeek_68 : decode cX4_finishWeek 68 = .ok (.iconst 0, 1) := by decide +kernel
theorem dX4_finishWeek_69 : decode cX4_finishWeek 69 = .ok (.iastore, 1) := by decide +kernel
theorem dX4_finishWeek_70 : decode cX4_finishWeek 70 = .ok (.iinc 2 1, 3) := by decide +kernel
theorem dX4_finishWeek_73 : decode cX4_finishWeek 73 = .ok (.goto (-53), 3) := by decide +kernel
theorem dX4_finishWeek_76 : decode cX4_finishWeek 76 = .ok (.aload_n 0, 1) := by decide +kernel
theorem dX4_finishWeek_77 : decode cX4_finishWeek 77 = .ok (.dup, 1) := by decide +kernel
theorem dX4_finishWeek_78 : decode cX4_finishWeek 78 = .ok (.getfield 63, 3) := by decide +kernel
theorem dX4_finishWeek_81 : decode cX4_finishWeek 81 = .ok (.iconst 1, 1) := by decide +kernel
theorem dX4_finishWeek_82 : decode cX4_finishWeek 82 = .ok (.iadd, 1) := by decide +kernel
theorem dX4_finishWeek_83 : decode cX4_finishWeek 83 = .ok (.putfield 63, 3) := by decide +kernel
theorem dX4_finishWeek_86 : decode cX4_finishWeek 86 = .ok (.aload_n 0, 1) := by decide +kernel
theorem dX4_finishWeek_87 : decode cX4_finishWeek 87 = .ok (.getfield 63, 3) := by decide +kernel
theorem dX4_finishWeek_90 : decode cX4_finishWeek 90 = .ok (.ireturn, 1) := by decide +kernel
set_option maxRecDepth 20000 in
theorem ggX4_moveGood_X4_isGood : GoodIn wsX4_moveGood wsX4_isGood := goodIn_r _ [7, 8, 65, 66, 67, 68, 69, 70, 71, 72, 73, 74, 75, 76, 77] (by decide +kernel) (by decide +kernel)
set_option maxRecDepth 20000 in
theorem gX4_moveGood_X4_isGood : GoodIn wsX4_moveGood (wsV RX4 90 RX4 yX4_isGood wsX4_isGood) := goodIn_app (goodIn_of _ (by decide +kernel)) ggX4_moveGood_X4_isGood
set_option maxRecDepth 20000 in
theorem ggX4_moveGood_X2_isSlot : GoodIn wsX4_moveGood wsX2_isSlot := goodIn_r _ [12] (by decide +kernel) (by decide +kernel)
set_option maxRecDepth 20000 in
theorem gX4_moveGood_X2_isSlot : GoodIn wsX4_moveGood (va_wsS RX4 78 yX2_isSlot wsX2_isSlot) := goodIn_app (goodIn_of _ (by decide +kernel)) ggX4_moveGood_X2_isSlot
set_option maxRecDepth 20000 in
theorem ggX4_moveGood_X4_canGo : GoodIn wsX4_moveGood wsX4_canGo := goodIn_r _ [16, 17, 1, 9, 10, 11, 12, 18, 19, 20, 6, 21, 22, 23, 24, 25, 26, 3, 4, 5, 7, 8, 65, 66, 67, 68, 69, 70, 71, 72, 73, 74, 75, 76, 77] (by decide +kernel) (by decide +kernel)
set_option maxRecDepth 20000 in
theorem gX4_moveGood_X4_canGo : GoodIn wsX4_moveGood (wsV RX4 142 RX4 yX4_canGo wsX4_canGo) := goodIn_app (goodIn_of _ (by decide +kernel)) ggX4_moveGood_X4_canGo
set_option maxRecDepth 20000 in
theorem ggX4_moveGood_X4_goTo : GoodIn wsX4_moveGood wsX4_goTo := goodIn_r _ [30, 31, 17, 1, 32, 33, 34, 6, 35, 36, 37, 38, 39, 40, 41, 42, 43, 44, 45, 3, 4, 5, 7, 8, 46, 47, 11, 48, 49, 50, 51, 52, 53, 22, 54, 55, 56, 57, 58, 59, 60, 61, 62, 63, 64, 65, 66, 67, 68, 69, 70, 71, 72, 73, 74, 75, 76, 77, 78, 79, 80, 81, 82, 83, 84] (by decide +kernel) (by decide +kernel)
set_option maxRecDepth 20000 in
theorem gX4_moveGood_X4_goTo : GoodIn wsX4_moveGood (wsV RX4 146 RX4 yX4_goTo wsX4_goTo) := goodIn_app (goodIn_of _ (by decide +kernel)) ggX4_moveGood_X4_goTo
theorem dX4_moveGood_0 : decode cX4_moveGood 0 = .ok (.aload_n 0, 1) := by decide +kernel
theorem dX4_moveGood_1 : decode cX4_moveGood 1 = .ok (.iload_n 1, 1) := by decide +kernel
theorem dX4_moveGood_2 : decode cX4_moveGood 2 = .ok (.invokevirtual 90, 3) := by decide +kernel
theorem dX4_moveGood_5 : decode cX4_moveGood 5 = .ok (.ifCond .eq 10, 3) := by decide +kernel
theorem dX4_moveGood_8 : decode cX4_moveGood 8 = .ok (.iload_n 2, 1) := by decide +kernel
theorem dX4_moveGood_9 : decode cX4_moveGood 9 = .ok (.invokestatic 78, 3) := by decide +kernel
theorem dX4_moveGood_12 : decode cX4_moveGood 12 = .ok (.ifCond .ne 5, 3) := by decide +kernel
theorem dX4_moveGood_15 : decode cX4_moveGood 15 = .ok (.iconst (-1), 1) := by decide +kernel
theorem dX4_moveGood_16 : decode cX4_moveGood 16 = .ok (.ireturn, 1) := by decide +kernel
theorem dX4_moveGood_17 : decode cX4_moveGood 17 = .ok (.aload_n 0, 1) := by decide +kernel
theorem dX4_moveGood_18 : decode cX4_moveGood 18 = .ok (.aload_n 0, 1) := by decide +kernel
theorem dX4_moveGood_19 : decode cX4_moveGood 19 = .ok (.getfield 38, 3) := by decide +kernel
theorem dX4_moveGood_22 : decode cX4_moveGood 22 = .ok (.iload_n 2, 1) := by decide +kernel
theorem dX4_moveGood_23 : decode cX4_moveGood 23 = .ok (.iaload, 1) := by decide +kernel
theorem dX4_moveGood_24 : decode cX4_moveGood 24 = .ok (.invokevirtual 90, 3) := by decide +kernel
theorem dX4_moveGood_27 : decode cX4_moveGood 27 = .ok (.ifCond .ne 12, 3) := by decide +kernel
theorem dX4_moveGood_30 : decode cX4_moveGood 30 = .ok (.aload_n 0, 1) := by decide +kernel
theorem dX4_moveGood_31 : decode cX4_moveGood 31 = .ok (.iload_n 1, 1) := by decide +kernel
theorem dX4_moveGood_32 : decode cX4_moveGood 32 = .ok (.iload_n 2, 1) := by decide +kernel
theorem dX4_moveGood_33 : decode cX4_moveGood 33 = .ok (.invokevirtual 142, 3) := by decide +kernel
theorem dX4_moveGood_36 : decode cX4_moveGood 36 = .ok (.ifCond .ne 6, 3) := by decide +kernel
theorem dX4_moveGood_39 : decode cX4_moveGood 39 = .ok (.bipush (-2), 2) := by decide +kernel
theorem dX4_moveGood_41 : decode cX4_moveGood 41 = .ok (.ireturn, 1) := by decide +kernel
theorem dX4_moveGood_42 : decode cX4_moveGood 42 = .ok (.ldc 145, 2) := by decide +kernel
theorem dX4_moveGood_44 : decode cX4_moveGood 44 = .ok (.aload_n 0, 1) := by decide +kernel
theorem dX4_moveGood_45 : decode cX4_moveGood 45 = .ok (.iload_n 1, 1) := by decide +kernel
theorem dX4_moveGood_46 : decode cX4_moveGood 46 = .ok (.iload_n 2, 1) := by decide +kernel
theorem dX4_moveGood_47 : decode cX4_moveGood 47 = .ok (.invokevirtual 146, 3) := by decide +kernel
theorem dX4_moveGood_50 : decode cX4_moveGood 50 = .ok (.iadd, 1) := by decide +kernel
theorem dX4_moveGood_51 : decode cX4_moveGood 51 = .ok (.ireturn, 1) := by decide +kernel
set_option maxRecDepth 20000 in
theorem ggX4_exchangeGoods_X4_isGood : GoodIn wsX4_exchangeGoods wsX4_isGood := goodIn_r _ [7, 8, 69, 70, 71, 72, 73, 74, 75, 76, 77, 78, 79, 80, 81] (by decide +kernel) (by decide +kernel)
set_option maxRecDepth 20000 in
theorem gX4_exchangeGoods_X4_isGood : GoodIn wsX4_exchangeGoods (wsV RX4 90 RX4 yX4_isGood wsX4_isGood) := goodIn_app (goodIn_of _ (by decide +kernel)) ggX4_exchangeGoods_X4_isGood
set_option maxRecDepth 20000 in
theorem ggX4_exchangeGoods_X4_isPlaced : GoodIn wsX4_exchangeGoods wsX4_isPlaced := goodIn_r _ [12, 1, 13, 14, 15, 16, 69, 70, 71, 72, 73, 74, 75, 76, 77, 78, 79, 80, 81] (by decide +kernel) (by decide +kernel)
set_option maxRecDepth 20000 in
theorem gX4_exchangeGoods_X4_isPlaced : GoodIn wsX4_exchangeGoods (wsV RX4 100 RX4 yX4_isPlaced wsX4_isPlaced) := goodIn_app (goodIn_of _ (by decide +kernel)) ggX4_exchangeGoods_X4_isPlaced
set_option maxRecDepth 20000 in
theorem ggX4_exchangeGoods_X4_canGo : GoodIn wsX4_exchangeGoods wsX4_canGo := goodIn_r _ [20, 1, 21, 13, 14, 15, 16, 22, 23, 24, 6, 25, 26, 27, 28, 29, 30, 3, 4, 5, 7, 8, 69, 70, 71, 72, 73, 74, 75, 76, 77, 78, 79, 80, 81] (by decide +kernel) (by decide +kernel)
set_option maxRecDepth 20000 in
theorem gX4_exchangeGoods_X4_canGo : GoodIn wsX4_exchangeGoods (wsV RX4 142 RX4 yX4_canGo wsX4_canGo) := goodIn_app (goodIn_of _ (by decide +kernel)) ggX4_exchangeGoods_X4_canGo
set_option maxRecDepth 20000 in
theorem ggX4_exchangeGoods_X4_goTo : GoodIn wsX4_exchangeGoods wsX4_goTo := goodIn_r _ [34, 35, 1, 21, 36, 37, 38, 6, 39, 40, 41, 42, 43, 44, 45, 46, 47, 48, 49, 3, 4, 5, 7, 8, 50, 51, 15, 52, 53, 54, 55, 56, 57, 26, 58, 59, 60, 61, 62, 63, 64, 65, 66, 67, 68, 69, 70, 71, 72, 73, 74, 75, 76, 77, 78, 79, 80, 81, 82, 83, 84, 85, 86, 87, 88] (by decide +kernel) (by decide +kernel)
set_option maxRecDepth 20000 in
theorem gX4_exchangeGoods_X4_goTo : GoodIn wsX4_exchangeGoods (wsV RX4 146 RX4 yX4_goTo wsX4_goTo) := goodIn_app (goodIn_of _ (by decide +kernel)) ggX4_exchangeGoods_X4_goTo
theorem dX4_exchangeGoods_0 : decode cX4_exchangeGoods 0 = .ok (.aload_n 0, 1) := by decide +kernel
theorem dX4_exchangeGoods_1 : decode cX4_exchangeGoods 1 = .ok (.iload_n 1, 1) := by decide +kernel
theorem dX4_exchangeGoods_2 : decode cX4_exchangeGoods 2 = .ok (.invokevirtual 90, 3) := by decide +kernel
theorem dX4_exchangeGoods_5 : decode cX4_exchangeGoods 5 = .ok (.ifCond .eq 16, 3) := by decide +kernel
theorem dX4_exchangeGoods_8 : decode cX4_exchangeGoods 8 = .ok (.aload_n 0, 1) := by decide +kernel
theorem dX4_exchangeGoods_9 : decode cX4_exchangeGoods 9 = .ok (.iload_n 2, 1) := by decide +kernel
theorem dX4_exchangeGoods_10 : decode cX4_exchangeGoods 10 = .ok (.invokevirtual 90, 3) := by decide +kernel
theorem dX4_exchangeGoods_13 : decode cX4_exchangeGoods 13 = .ok (.ifCond .eq 8, 3) := by decide +kernel
theorem dX4_exchangeGoods_16 : decode cX4_exchangeGoods 16 = .ok (.iload_n 1, 1) := by decide +kernel
theorem dX4_exchangeGoods_17 : decode cX4_exchangeGoods 17 = .ok (.iload_n 2, 1) := by decide +kernel
theorem dX4_exchangeGoods_18 : decode cX4_exchangeGoods 18 = .ok (.if_icmp .ne 5, 3) := by decide +kernel
theorem dX4_exchangeGoods_21 : decode cX4_exchangeGoods 21 = .ok (.iconst (-1), 1) := by decide +kernel
theorem dX4_exchangeGoods_22 : decode cX4_exchangeGoods 22 = .ok (.ireturn, 1) := by decide +kernel
theorem dX4_exchangeGoods_23 : decode cX4_exchangeGoods 23 = .ok (.aload_n 0, 1) := by decide +kernel
theorem dX4_exchangeGoods_24 : decode cX4_exchangeGoods 24 = .ok (.iload_n 2, 1) := by decide +kernel
theorem dX4_exchangeGoods_25 : decode cX4_exchangeGoods 25 = .ok (.invokevirtual 100, 3) := by decide +kernel
theorem dX4_exchangeGoods_28 : decode cX4_exchangeGoods 28 = .ok (.ifCond .eq 17, 3) := by decide +kernel
theorem dX4_exchangeGoods_31 : decode cX4_exchangeGoods 31 = .ok (.aload_n 0, 1) := by decide +kernel
theorem dX4_exchangeGoods_32 : decode cX4_exchangeGoods 32 = .ok (.iload_n 1, 1) := by decide +kernel
theorem dX4_exchangeGoods_33 : decode cX4_exchangeGoods 33 = .ok (.aload_n 0, 1) := by decide +kernel
theorem dX4_exchangeGoods_34 : decode cX4_exchangeGoods 34 = .ok (.getfield 21, 3) := by decide +kernel
theorem dX4_exchangeGoods_37 : decode cX4_exchangeGoods 37 = .ok (.iload_n 2, 1) := by decide +kernel
theorem dX4_exchangeGoods_38 : decode cX4_exchangeGoods 38 = .ok (.iaload, 1) := by decide +kernel
theorem dX4_exchangeGoods_39 : decode cX4_exchangeGoods 39 = .ok (.invokevirtual 142, 3) := by decide +kernel
theorem dX4_exchangeGoods_42 : decode cX4_exchangeGoods 42 = .ok (.ifCond .ne 6, 3) := by decide +kernel
theorem dX4_exchangeGoods_45 : decode cX4_exchangeGoods 45 = .ok (.bipush (-2), 2) := by decide +kernel
theorem dX4_exchangeGoods_47 : decode cX4_exchangeGoods 47 = .ok (.ireturn, 1) := by decide +kernel
theorem dX4_exchangeGoods_48 : decode cX4_exchangeGoods 48 = .ok (.ldc 145, 2) := by decide +kernel
theorem dX4_exchangeGoods_50 : decode cX4_exchangeGoods 50 = .ok (.aload_n 0, 1) := by decide +kernel
theorem dX4_exchangeGoods_51 : decode cX4_exchangeGoods 51 = .ok (.iload_n 1, 1) := by decide +kernel
theorem dX4_exchangeGoods_52 : decode cX4_exchangeGoods 52 = .ok (.aload_n 0, 1) := by decide +kernel
theorem dX4_exchangeGoods_53 : decode cX4_exchangeGoods 53 = .ok (.getfield 21, 3) := by decide +kernel
theorem dX4_exchangeGoods_56 : decode cX4_exchangeGoods 56 = .ok (.iload_n 2, 1) := by decide +kernel
theorem dX4_exchangeGoods_57 : decode cX4_exchangeGoods 57 = .ok (.iaload, 1) := by decide +kernel
theorem dX4_exchangeGoods_58 : decode cX4_exchangeGoods 58 = .ok (.invokevirtual 146, 3) := by decide +kernel
theorem dX4_exchangeGoods_61 : decode cX4_exchangeGoods 61 = .ok (.iadd, 1) := by decide +kernel
theorem dX4_exchangeGoods_62 : decode cX4_exchangeGoods 62 = .ok (.ireturn, 1) := by decide +kernel
set_option maxRecDepth 20000 in
theorem ggX4_numberOfChange_X4_isGood : GoodIn wsX4_numberOfChange wsX4_isGood := goodIn_r _ [6, 7, 67, 68, 69, 70, 71, 72, 73, 74, 75, 76, 77, 78, 79] (by decide +kernel) (by decide +kernel)
set_option maxRecDepth 20000 in
theorem gX4_numberOfChange_X4_isGood : GoodIn wsX4_numberOfChange (wsV RX4 90 RX4 yX4_isGood wsX4_isGood) := goodIn_app (goodIn_of _ (by decide +kernel)) ggX4_numberOfChange_X4_isGood
set_option maxRecDepth 20000 in
theorem ggX4_numberOfChange_X2_isSlot : GoodIn wsX4_numberOfChange wsX2_isSlot := goodIn_r _ [11] (by decide +kernel) (by decide +kernel)
set_option maxRecDepth 20000 in
theorem gX4_numberOfChange_X2_isSlot : GoodIn wsX4_numberOfChange (va_wsS RX4 78 yX2_isSlot wsX2_isSlot) := goodIn_app (goodIn_of _ (by decide +kernel)) ggX4_numberOfChange_X2_isSlot
set_option maxRecDepth 20000 in
theorem ggX4_numberOfChange_X5_isIn : GoodIn wsX4_numberOfChange wsX5_isIn := goodIn_r _ [14] (by decide +kernel) (by decide +kernel)
set_option maxRecDepth 20000 in
theorem gX4_numberOfChange_X5_isIn_n86 : GoodIn wsX4_numberOfChange (wsX5_isIn) := ggX4_numberOfChange_X5_isIn
set_option maxRecDepth 20000 in
theorem ggX4_numberOfChange_X4_canGo : GoodIn wsX4_numberOfChange wsX4_canGo := goodIn_r _ [18, 19, 20, 8, 9, 10, 11, 21, 22, 23, 5, 24, 25, 26, 27, 28, 29, 2, 3, 4, 6, 7, 67, 68, 69, 70, 71, 72, 73, 74, 75, 76, 77, 78, 79] (by decide +kernel) (by decide +kernel)
set_option maxRecDepth 20000 in
theorem gX4_numberOfChange_X4_canGo : GoodIn wsX4_numberOfChange (wsV RX4 142 RX4 yX4_canGo wsX4_canGo) := goodIn_app (goodIn_of _ (by decide +kernel)) ggX4_numberOfChange_X4_canGo
set_option maxRecDepth 20000 in
theorem ggX4_numberOfChange_X4_walkOfGoing : GoodIn wsX4_numberOfChange wsX4_walkOfGoing := goodIn_r _ [33, 19, 20, 25, 34, 35, 10, 36, 37, 38, 39, 40, 41, 2, 3, 4, 5, 6, 7, 67, 68, 69, 70, 71, 72, 73, 74, 75, 76, 77, 78, 79] (by decide +kernel) (by decide +kernel)
set_option maxRecDepth 20000 in
theorem gX4_numberOfChange_X4_walkOfGoing : GoodIn wsX4_numberOfChange (wsV RX4 149 RX4 yX4_walkOfGoing wsX4_walkOfGoing) := goodIn_app (goodIn_of _ (by decide +kernel)) ggX4_numberOfChange_X4_walkOfGoing
set_option maxRecDepth 20000 in
theorem ggX4_numberOfChange_X4_worthOfGoing : GoodIn wsX4_numberOfChange wsX4_worthOfGoing := goodIn_r _ [45, 46, 47, 48, 5, 49, 20, 19, 50, 51, 52, 53, 54, 55, 56, 57, 58, 59, 2, 3, 4, 6, 7, 60, 61, 10, 62, 41, 63, 64, 65, 66, 30, 31, 32, 33, 25, 34, 35, 36, 37, 38, 39, 40, 67, 68, 69, 70, 71, 72, 73, 74, 75, 76, 77, 78, 79] (by decide +kernel) (by decide +kernel)
set_option maxRecDepth 20000 in
theorem gX4_numberOfChange_X4_worthOfGoing : GoodIn wsX4_numberOfChange (wsV RX4 152 RX4 yX4_worthOfGoing wsX4_worthOfGoing) := goodIn_app (goodIn_of _ (by decide +kernel)) ggX4_numberOfChange_X4_worthOfGoing
set_option maxRecDepth 20000 in
theorem ggX4_numberOfChange_X4_savedByGoing : GoodIn wsX4_numberOfChange wsX4_savedByGoing := goodIn_r _ [49, 20, 19, 50, 51, 52, 5, 53, 54, 55, 56, 57, 58, 59, 2, 3, 4, 6, 7, 60, 61, 10, 62, 41, 67, 68, 69, 70, 71, 72, 73, 74, 75, 76, 77, 78, 79] (by decide +kernel) (by decide +kernel)
set_option maxRecDepth 20000 in
theorem gX4_numberOfChange_X4_savedByGoing : GoodIn wsX4_numberOfChange (wsV RX4 155 RX4 yX4_savedByGoing wsX4_savedByGoing) := goodIn_app (goodIn_of _ (by decide +kernel)) ggX4_numberOfChange_X4_savedByGoing
theorem dX4_numberOfChange_0 : decode cX4_numberOfChange 0 = .ok (.aload_n 0, 1) := by decide +kernel
theorem dX4_numberOfChange_1 : decode cX4_numberOfChange 1 = .ok (.iload_n 1, 1) := by decide +kernel
theorem dX4_numberOfChange_2 : decode cX4_numberOfChange 2 = .ok (.invokevirtual 90, 3) := by decide +kernel
theorem dX4_numberOfChange_5 : decode cX4_numberOfChange 5 = .ok (.ifCond .eq 19, 3) := by decide +kernel
theorem dX4_numberOfChange_8 : decode cX4_numberOfChange 8 = .ok (.iload_n 2, 1) := by decide +kernel
theorem dX4_numberOfChange_9 : decode cX4_numberOfChange 9 = .ok (.invokestatic 78, 3) := by decide +kernel
theorem dX4_numberOfChange_12 : decode cX4_numberOfChange 12 = .ok (.ifCond .eq 12, 3) := by decide +kernel
theorem dX4_numberOfChange_15 : decode cX4_numberOfChange 15 = .ok (.iload_n 3, 1) := by decide +kernel
theorem dX4_numberOfChange_16 : decode cX4_numberOfChange 16 = .ok (.iconst 0, 1) := by decide +kernel
theorem dX4_numberOfChange_17 : decode cX4_numberOfChange 17 = .ok (.iconst 2, 1) := by decide +kernel
theorem dX4_numberOfChange_18 : decode cX4_numberOfChange 18 = .ok (.invokestatic 86, 3) := by decide +kernel
theorem dX4_numberOfChange_21 : decode cX4_numberOfChange 21 = .ok (.ifCond .ne 5, 3) := by decide +kernel
theorem dX4_numberOfChange_24 : decode cX4_numberOfChange 24 = .ok (.iconst (-1), 1) := by decide +kernel
theorem dX4_numberOfChange_25 : decode cX4_numberOfChange 25 = .ok (.ireturn, 1) := by decide +kernel
theorem dX4_numberOfChange_26 : decode cX4_numberOfChange 26 = .ok (.aload_n 0, 1) := by decide +kernel
theorem dX4_numberOfChange_27 : decode cX4_numberOfChange 27 = .ok (.iload_n 1, 1) := by decide +kernel
theorem dX4_numberOfChange_28 : decode cX4_numberOfChange 28 = .ok (.iload_n 2, 1) := by decide +kernel
theorem dX4_numberOfChange_29 : decode cX4_numberOfChange 29 = .ok (.invokevirtual 142, 3) := by decide +kernel
theorem dX4_numberOfChange_32 : decode cX4_numberOfChange 32 = .ok (.ifCond .ne 6, 3) := by decide +kernel
theorem dX4_numberOfChange_35 : decode cX4_numberOfChange 35 = .ok (.bipush (-2), 2) := by decide +kernel
theorem dX4_numberOfChange_37 : decode cX4_numberOfChange 37 = .ok (.ireturn, 1) := by decide +kernel
theorem dX4_numberOfChange_38 : decode cX4_numberOfChange 38 = .ok (.iload_n 3, 1) := by decide +kernel
theorem dX4_numberOfChange_39 : decode cX4_numberOfChange 39 = .ok (.iconst 2, 1) := by decide +kernel
theorem dX4_numberOfChange_40 : decode cX4_numberOfChange 40 = .ok (.if_icmp .ne 10, 3) := by decide +kernel
theorem dX4_numberOfChange_43 : decode cX4_numberOfChange 43 = .ok (.aload_n 0, 1) := by decide +kernel
theorem dX4_numberOfChange_44 : decode cX4_numberOfChange 44 = .ok (.iload_n 1, 1) := by decide +kernel
theorem dX4_numberOfChange_45 : decode cX4_numberOfChange 45 = .ok (.iload_n 2, 1) := by decide +kernel
theorem dX4_numberOfChange_46 : decode cX4_numberOfChange 46 = .ok (.invokevirtual 149, 3) := by decide +kernel
theorem dX4_numberOfChange_49 : decode cX4_numberOfChange 49 = .ok (.ireturn, 1) := by decide +kernel
theorem dX4_numberOfChange_50 : decode cX4_numberOfChange 50 = .ok (.ldc 145, 2) := by decide +kernel
theorem dX4_numberOfChange_52 : decode cX4_numberOfChange 52 = .ok (.iload_n 3, 1) := by decide +kernel
theorem dX4_numberOfChange_53 : decode cX4_numberOfChange 53 = .ok (.ifCond .ne 12, 3) := by decide +kernel
theorem dX4_numberOfChange_56 : decode cX4_numberOfChange 56 = .ok (.aload_n 0, 1) := by decide +kernel
theorem dX4_numberOfChange_57 : decode cX4_numberOfChange 57 = .ok (.iload_n 1, 1) := by decide +kernel
theorem dX4_numberOfChange_58 : decode cX4_numberOfChange 58 = .ok (.iload_n 2, 1) := by decide +kernel
theorem dX4_numberOfChange_59 : decode cX4_numberOfChange 59 = .ok (.invokevirtual 152, 3) := by decide +kernel
theorem dX4_numberOfChange_62 : decode cX4_numberOfChange 62 = .ok (.goto 9, 3) := by decide +kernel
theorem dX4_numberOfChange_65 : decode cX4_numberOfChange 65 = .ok (.aload_n 0, 1) := by decide +kernel
theorem dX4_numberOfChange_66 : decode cX4_numberOfChange 66 = .ok (.iload_n 1, 1) := by decide +kernel
theorem dX4_numberOfChange_67 : decode cX4_numberOfChange 67 = .ok (.iload_n 2, 1) := by decide +kernel
theorem dX4_numberOfChange_68 : decode cX4_numberOfChange 68 = .ok (.invokevirtual 155, 3) := by decide +kernel
theorem dX4_numberOfChange_71 : decode cX4_numberOfChange 71 = .ok (.iadd, 1) := by decide +kernel
theorem dX4_numberOfChange_72 : decode cX4_numberOfChange 72 = .ok (.ireturn, 1) := by decide +kernel
set_option maxRecDepth 20000 in
theorem ggX4_numberOfBest_X5_isIn : GoodIn wsX4_numberOfBest wsX5_isIn := goodIn_r _ [3] (by decide +kernel) (by decide +kernel)
set_option maxRecDepth 20000 in
theorem gX4_numberOfBest_X5_isIn_n86 : GoodIn wsX4_numberOfBest (wsX5_isIn) := ggX4_numberOfBest_X5_isIn
set_option maxRecDepth 20000 in
theorem ggX4_numberOfBest_X4_bestGoing : GoodIn wsX4_numberOfBest wsX4_bestGoing := goodIn_r _ [8, 9, 10, 11, 12, 7, 13, 14, 15, 16, 17, 18, 19, 20, 21, 22, 23, 24, 25, 26, 27, 28, 29, 30, 31, 32, 33, 34, 35, 36, 37, 38, 39, 40, 41, 42, 43, 44, 45, 46, 47, 48, 49, 50, 51, 52, 53, 54, 55, 56, 57, 58, 59, 60, 61, 62, 63, 64, 65, 66, 67, 68, 69, 70, 71, 72, 73, 74, 75, 76, 77, 78, 79, 80, 81, 82] (by decide +kernel) (by decide +kernel)
set_option maxRecDepth 20000 in
theorem gX4_numberOfBest_X4_bestGoing : GoodIn wsX4_numberOfBest (wsV RX4 158 RX4 yX4_bestGoing wsX4_bestGoing) := goodIn_app (goodIn_of _ (by decide +kernel)) ggX4_numberOfBest_X4_bestGoing
set_option maxRecDepth 20000 in
theorem ggX4_numberOfBest_X4_worthOfGoing : GoodIn wsX4_numberOfBest wsX4_worthOfGoing := goodIn_r _ [36, 37, 38, 39, 7, 40, 15, 14, 41, 42, 43, 44, 45, 46, 47, 48, 49, 50, 29, 30, 31, 32, 9, 51, 52, 18, 53, 54, 55, 56, 57, 58, 59, 60, 61, 62, 24, 63, 64, 65, 66, 67, 68, 69, 70, 71, 72, 73, 74, 75, 76, 77, 78, 79, 80, 81, 82] (by decide +kernel) (by decide +kernel)
set_option maxRecDepth 20000 in
theorem gX4_numberOfBest_X4_worthOfGoing : GoodIn wsX4_numberOfBest (wsV RX4 152 RX4 yX4_worthOfGoing wsX4_worthOfGoing) := goodIn_app (goodIn_of _ (by decide +kernel)) ggX4_numberOfBest_X4_worthOfGoing
theorem dX4_numberOfBest_0 : decode cX4_numberOfBest 0 = .ok (.iload_n 1, 1) := by decide +kernel
theorem dX4_numberOfBest_1 : decode cX4_numberOfBest 1 = .ok (.iconst 0, 1) := by decide +kernel
theorem dX4_numberOfBest_2 : decode cX4_numberOfBest 2 = .ok (.iconst 2, 1) := by decide +kernel
theorem dX4_numberOfBest_3 : decode cX4_numberOfBest 3 = .ok (.invokestatic 86, 3) := by decide +kernel
theorem dX4_numberOfBest_6 : decode cX4_numberOfBest 6 = .ok (.ifCond .ne 5, 3) := by decide +kernel
theorem dX4_numberOfBest_9 : decode cX4_numberOfBest 9 = .ok (.iconst (-1), 1) := by decide +kernel
theorem dX4_numberOfBest_10 : decode cX4_numberOfBest 10 = .ok (.ireturn, 1) := by decide +kernel
theorem dX4_numberOfBest_11 : decode cX4_numberOfBest 11 = .ok (.aload_n 0, 1) := by decide +kernel
theorem dX4_numberOfBest_12 : decode cX4_numberOfBest 12 = .ok (.invokevirtual 158, 3) := by decide +kernel
theorem dX4_numberOfBest_15 : decode cX4_numberOfBest 15 = .ok (.istore_n 2, 1) := by decide +kernel
theorem dX4_numberOfBest_16 : decode cX4_numberOfBest 16 = .ok (.iload_n 2, 1) := by decide +kernel
theorem dX4_numberOfBest_17 : decode cX4_numberOfBest 17 = .ok (.ifCond .ge 6, 3) := by decide +kernel
theorem dX4_numberOfBest_20 : decode cX4_numberOfBest 20 = .ok (.bipush (-4), 2) := by decide +kernel
theorem dX4_numberOfBest_22 : decode cX4_numberOfBest 22 = .ok (.ireturn, 1) := by decide +kernel
theorem dX4_numberOfBest_23 : decode cX4_numberOfBest 23 = .ok (.iload_n 2, 1) := by decide +kernel
theorem dX4_numberOfBest_24 : decode cX4_numberOfBest 24 = .ok (.bipush 60, 2) := by decide +kernel
theorem dX4_numberOfBest_26 : decode cX4_numberOfBest 26 = .ok (.idiv, 1) := by decide +kernel
theorem dX4_numberOfBest_27 : decode cX4_numberOfBest 27 = .ok (.istore_n 3, 1) := by decide +kernel
theorem dX4_numberOfBest_28 : decode cX4_numberOfBest 28 = .ok (.iload_n 2, 1) := by decide +kernel
theorem dX4_numberOfBest_29 : decode cX4_numberOfBest 29 = .ok (.bipush 60, 2) := by decide +kernel
theorem dX4_numberOfBest_31 : decode cX4_numberOfBest 31 = .ok (.irem, 1) := by decide +kernel
theorem dX4_numberOfBest_32 : decode cX4_numberOfBest 32 = .ok (.istore 4, 2) := by decide +kernel
theorem dX4_numberOfBest_34 : decode cX4_numberOfBest 34 = .ok (.iload_n 1, 1) := by decide +kernel
theorem dX4_numberOfBest_35 : decode cX4_numberOfBest 35 = .ok (.ifCond .ne 5, 3) := by decide +kernel
theorem dX4_numberOfBest_38 : decode cX4_numberOfBest 38 = .ok (.iload_n 3, 1) := by decide +kernel
theorem dX4_numberOfBest_39 : decode cX4_numberOfBest 39 = .ok (.ireturn, 1) := by decide +kernel
theorem dX4_numberOfBest_40 : decode cX4_numberOfBest 40 = .ok (.iload_n 1, 1) := by decide +kernel
theorem dX4_numberOfBest_41 : decode cX4_numberOfBest 41 = .ok (.iconst 1, 1) := by decide +kernel
theorem dX4_numberOfBest_42 : decode cX4_numberOfBest 42 = .ok (.if_icmp .ne 8, 3) := by decide +kernel
theorem dX4_numberOfBest_45 : decode cX4_numberOfBest 45 = .ok (.iload 4, 2) := by decide +kernel
theorem dX4_numberOfBest_47 : decode cX4_numberOfBest 47 = .ok (.goto 10, 3) := by decide +kernel
theorem dX4_numberOfBest_50 : decode cX4_numberOfBest 50 = .ok (.aload_n 0, 1) := by decide +kernel
theorem dX4_numberOfBest_51 : decode cX4_numberOfBest 51 = .ok (.iload_n 3, 1) := by decide +kernel
theorem dX4_numberOfBest_52 : decode cX4_numberOfBest 52 = .ok (.iload 4, 2) := by decide +kernel
theorem dX4_numberOfBest_54 : decode cX4_numberOfBest 54 = .ok (.invokevirtual 152, 3) := by decide +kernel
theorem dX4_numberOfBest_57 : decode cX4_numberOfBest 57 = .ok (.ireturn, 1) := by decide +kernel
set_option maxRecDepth 20000 in
theorem ggX4_doBest_X5_isIn : GoodIn wsX4_doBest wsX5_isIn := goodIn_r _ [3] (by decide +kernel) (by decide +kernel)
set_option maxRecDepth 20000 in
theorem gX4_doBest_X5_isIn_n86 : GoodIn wsX4_doBest (wsX5_isIn) := ggX4_doBest_X5_isIn
set_option maxRecDepth 20000 in
theorem ggX4_doBest_X4_bestGoing : GoodIn wsX4_doBest wsX4_bestGoing := goodIn_r _ [8, 9, 10, 11, 12, 7, 13, 14, 15, 16, 17, 18, 19, 20, 21, 22, 23, 24, 25, 26, 27, 28, 29, 30, 31, 32, 33, 34, 35, 36, 37, 38, 39, 40, 41, 42, 43, 44, 45, 46, 47, 48, 49, 50, 51, 52, 53, 54, 55, 56, 57, 58, 59, 60, 61, 62, 63, 64, 65, 66, 67, 68, 69, 79, 80, 81, 82, 83, 84, 85, 86, 87, 88, 89, 90, 91] (by decide +kernel) (by decide +kernel)
set_option maxRecDepth 20000 in
theorem gX4_doBest_X4_bestGoing : GoodIn wsX4_doBest (wsV RX4 158 RX4 yX4_bestGoing wsX4_bestGoing) := goodIn_app (goodIn_of _ (by decide +kernel)) ggX4_doBest_X4_bestGoing
set_option maxRecDepth 20000 in
theorem ggX4_doBest_X4_goTo : GoodIn wsX4_doBest wsX4_goTo := goodIn_r _ [73, 74, 14, 15, 37, 38, 39, 7, 40, 41, 42, 43, 44, 45, 46, 47, 48, 49, 50, 29, 30, 31, 32, 9, 51, 52, 18, 53, 54, 59, 60, 61, 62, 24, 63, 64, 65, 66, 67, 68, 69, 75, 76, 77, 78, 79, 80, 81, 82, 83, 84, 85, 86, 87, 88, 89, 90, 91, 92, 93, 94, 95, 96, 97, 98] (by decide +kernel) (by decide +kernel)
set_option maxRecDepth 20000 in
theorem gX4_doBest_X4_goTo : GoodIn wsX4_doBest (wsV RX4 146 RX4 yX4_goTo wsX4_goTo) := goodIn_app (goodIn_of _ (by decide +kernel)) ggX4_doBest_X4_goTo
theorem dX4_doBest_0 : decode cX4_doBest 0 = .ok (.iload_n 1, 1) := by decide +kernel
theorem dX4_doBest_1 : decode cX4_doBest 1 = .ok (.iconst 1, 1) := by decide +kernel
theorem dX4_doBest_2 : decode cX4_doBest 2 = .ok (.bipush 10, 2) := by decide +kernel
theorem dX4_doBest_4 : decode cX4_doBest 4 = .ok (.invokestatic 86, 3) := by decide +kernel
theorem dX4_doBest_7 : decode cX4_doBest 7 = .ok (.ifCond .ne 5, 3) := by decide +kernel
theorem dX4_doBest_10 : decode cX4_doBest 10 = .ok (.iconst (-1), 1) := by decide +kernel
theorem dX4_doBest_11 : decode cX4_doBest 11 = .ok (.ireturn, 1) := by decide +kernel
theorem dX4_doBest_12 : decode cX4_doBest 12 = .ok (.iconst 0, 1) := by decide +kernel
theorem dX4_doBest_13 : decode cX4_doBest 13 = .ok (.istore_n 2, 1) := by decide +kernel
theorem dX4_doBest_14 : decode cX4_doBest 14 = .ok (.aload_n 0, 1) := by decide +kernel
theorem dX4_doBest_15 : decode cX4_doBest 15 = .ok (.invokevirtual 158, 3) := by decide +kernel
theorem dX4_doBest_18 : decode cX4_doBest 18 = .ok (.istore_n 3, 1) := by decide +kernel
theorem dX4_doBest_19 : decode cX4_doBest 19 = .ok (.iload_n 2, 1) := by decide +kernel
theorem dX4_doBest_20 : decode cX4_doBest 20 = .ok (.iload_n 1, 1) := by decide +kernel
theorem dX4_doBest_21 : decode cX4_doBest 21 = .ok (.if_icmp .ge 31, 3) := by decide +kernel
theorem dX4_doBest_24 : decode cX4_doBest 24 = .ok (.iload_n 3, 1) := by decide +kernel
theorem dX4_doBest_25 : decode cX4_doBest 25 = .ok (.ifCond .lt 27, 3) := by decide +kernel
theorem dX4_doBest_28 : decode cX4_doBest 28 = .ok (.aload_n 0, 1) := by decide +kernel
theorem dX4_doBest_29 : decode cX4_doBest 29 = .ok (.iload_n 3, 1) := by decide +kernel
theorem dX4_doBest_30 : decode cX4_doBest 30 = .ok (.bipush 60, 2) := by decide +kernel
theorem dX4_doBest_32 : decode cX4_doBest 32 = .ok (.idiv, 1) := by decide +kernel
theorem dX4_doBest_33 : decode cX4_doBest 33 = .ok (.iload_n 3, 1) := by decide +kernel
theorem dX4_doBest_34 : decode cX4_doBest 34 = .ok (.bipush 60, 2) := by decide +kernel
theorem dX4_doBest_36 : decode cX4_doBest 36 = .ok (.irem, 1) := by decide +kernel
theorem dX4_doBest_37 : decode cX4_doBest 37 = .ok (.invokevirtual 146, 3) := by decide +kernel
theorem dX4_doBest_40 : decode cX4_doBest 40 = .ok (.pop, 1) := by decide +kernel
theorem dX4_doBest_41 : decode cX4_doBest 41 = .ok (.iinc 2 1, 3) := by decide +kernel
theorem dX4_doBest_44 : decode cX4_doBest 44 = .ok (.aload_n 0, 1) := by decide +kernel
theorem dX4_doBest_45 : decode cX4_doBest 45 = .ok (.invokevirtual 158, 3) := by decide +kernel
theorem dX4_doBest_48 : decode cX4_doBest 48 = .ok (.istore_n 3, 1) := by decide +kernel
theorem dX4_doBest_49 : decode cX4_doBest 49 = .ok (.goto (-30), 3) := by decide +kernel
theorem dX4_doBest_52 : decode cX4_doBest 52 = .ok (.iload_n 2, 1) := by decide +kernel
theorem dX4_doBest_53 : decode cX4_doBest 53 = .ok (.ifCond .ne 8, 3) := by decide +kernel
theorem dX4_doBest_56 : decode cX4_doBest 56 = .ok (.bipush (-4), 2) := by decide +kernel
theorem dX4_doBest_58 : decode cX4_doBest 58 = .ok (.goto 4, 3) := by decide +kernel
theorem dX4_doBest_61 : decode cX4_doBest 61 = .ok (.iload_n 2, 1) := by decide +kernel
theorem dX4_doBest_62 : decode cX4_doBest 62 = .ok (.ireturn, 1) := by decide +kernel
set_option maxRecDepth 20000 in
theorem ggX4_bestGoing_X4_canGo : GoodIn wsX4_bestGoing wsX4_canGo := goodIn_r _ [6, 7, 8, 9, 10, 11, 12, 13, 14, 15, 5, 16, 17, 18, 19, 20, 21, 22, 23, 24, 25, 1, 63, 64, 65, 66, 67, 68, 69, 70, 71, 72, 73, 74, 75] (by decide +kernel) (by decide +kernel)
set_option maxRecDepth 20000 in
theorem gX4_bestGoing_X4_canGo : GoodIn wsX4_bestGoing (wsV RX4 142 RX4 yX4_canGo wsX4_canGo) := goodIn_app (goodIn_of _ (by decide +kernel)) ggX4_bestGoing_X4_canGo
set_option maxRecDepth 20000 in
theorem ggX4_bestGoing_X4_worthOfGoing : GoodIn wsX4_bestGoing wsX4_worthOfGoing := goodIn_r _ [29, 30, 31, 32, 5, 33, 8, 7, 34, 35, 36, 37, 38, 39, 40, 41, 42, 43, 22, 23, 24, 25, 1, 44, 45, 11, 46, 47, 48, 49, 50, 51, 52, 53, 54, 55, 17, 56, 57, 58, 59, 60, 61, 62, 63, 64, 65, 66, 67, 68, 69, 70, 71, 72, 73, 74, 75] (by decide +kernel) (by decide +kernel)
set_option maxRecDepth 20000 in
theorem gX4_bestGoing_X4_worthOfGoing : GoodIn wsX4_bestGoing (wsV RX4 152 RX4 yX4_worthOfGoing wsX4_worthOfGoing) := goodIn_app (goodIn_of _ (by decide +kernel)) ggX4_bestGoing_X4_worthOfGoing
theorem dX4_bestGoing_0 : decode cX4_bestGoing 0 = .ok (.bipush (-4), 2) := by decide +kernel
theorem dX4_bestGoing_2 : decode cX4_bestGoing 2 = .ok (.istore_n 1, 1) := by decide +kernel
theorem dX4_bestGoing_3 : decode cX4_bestGoing 3 = .ok (.iconst 0, 1) := by decide +kernel
theorem dX4_bestGoing_4 : decode cX4_bestGoing 4 = .ok (.istore_n 2, 1) := by decide +kernel
theorem dX4_bestGoing_5 : decode cX4_bestGoing 5 = .ok (.iconst 0, 1) := by decide +kernel
theorem dX4_bestGoing_6 : decode cX4_bestGoing 6 = .ok (.istore_n 3, 1) := by decide +kernel
theorem dX4_bestGoing_7 : decode cX4_bestGoing 7 = .ok (.iload_n 3, 1) := by decide +kernel
theorem dX4_bestGoing_8 : decode cX4_bestGoing 8 = .ok (.aload_n 0, 1) := by decide +kernel
theorem dX4_bestGoing_9 : decode cX4_bestGoing 9 = .ok (.getfield 59, 3) := by decide +kernel
theorem dX4_bestGoing_12 : decode cX4_bestGoing 12 = .ok (.if_icmp .ge 62, 3) := by decide +kernel
theorem dX4_bestGoing_15 : decode cX4_bestGoing 15 = .ok (.iconst 0, 1) := by decide +kernel
theorem dX4_bestGoing_16 : decode cX4_bestGoing 16 = .ok (.istore 4, 2) := by decide +kernel
theorem dX4_bestGoing_18 : decode cX4_bestGoing 18 = .ok (.iload 4, 2) := by decide +kernel
theorem dX4_bestGoing_20 : decode cX4_bestGoing 20 = .ok (.bipush 60, 2) := by decide +kernel
theorem dX4_bestGoing_22 : decode cX4_bestGoing 22 = .ok (.if_icmp .ge 46, 3) := by decide +kernel
theorem dX4_bestGoing_25 : decode cX4_bestGoing 25 = .ok (.aload_n 0, 1) := by decide +kernel
theorem dX4_bestGoing_26 : decode cX4_bestGoing 26 = .ok (.iload_n 3, 1) := by decide +kernel
theorem dX4_bestGoing_27 : decode cX4_bestGoing 27 = .ok (.iload 4, 2) := by decide +kernel
theorem dX4_bestGoing_29 : decode cX4_bestGoing 29 = .ok (.invokevirtual 142, 3) := by decide +kernel
theorem dX4_bestGoing_32 : decode cX4_bestGoing 32 = .ok (.ifCond .eq 30, 3) := by decide +kernel
theorem dX4_bestGoing_35 : decode cX4_bestGoing 35 = .ok (.aload_n 0, 1) := by decide +kernel
theorem dX4_bestGoing_36 : decode cX4_bestGoing 36 = .ok (.iload_n 3, 1) := by decide +kernel
theorem dX4_bestGoing_37 : decode cX4_bestGoing 37 = .ok (.iload 4, 2) := by decide +kernel
theorem dX4_bestGoing_39 : decode cX4_bestGoing 39 = .ok (.invokevirtual 152, 3) := by decide +kernel
theorem dX4_bestGoing_42 : decode cX4_bestGoing 42 = .ok (.iload_n 2, 1) := by decide +kernel
theorem dX4_bestGoing_43 : decode cX4_bestGoing 43 = .ok (.if_icmp .le 19, 3) := by decide +kernel
theorem dX4_bestGoing_46 : decode cX4_bestGoing 46 = .ok (.aload_n 0, 1) := by decide +kernel
theorem dX4_bestGoing_47 : decode cX4_bestGoing 47 = .ok (.iload_n 3, 1) := by decide +kernel
theorem dX4_bestGoing_48 : decode cX4_bestGoing 48 = .ok (.iload 4, 2) := by decide +kernel
theorem dX4_bestGoing_50 : decode cX4_bestGoing 50 = .ok (.invokevirtual 152, 3) := by decide +kernel
theorem dX4_bestGoing_53 : decode cX4_bestGoing 53 = .ok (.istore_n 2, 1) := by decide +kernel
theorem dX4_bestGoing_54 : decode cX4_bestGoing 54 = .ok (.iload_n 3, 1) := by decide +kernel
theorem dX4_bestGoing_55 : decode cX4_bestGoing 55 = .ok (.bipush 60, 2) := by decide +kernel
theorem dX4_bestGoing_57 : decode cX4_bestGoing 57 = .ok (.imul, 1) := by decide +kernel
theorem dX4_bestGoing_58 : decode cX4_bestGoing 58 = .ok (.iload 4, 2) := by decide +kernel
theorem dX4_bestGoing_60 : decode cX4_bestGoing 60 = .ok (.iadd, 1) := by decide +kernel
theorem dX4_bestGoing_61 : decode cX4_bestGoing 61 = .ok (.istore_n 1, 1) := by decide +kernel
theorem dX4_bestGoing_62 : decode cX4_bestGoing 62 = .ok (.iinc 4 1, 3) := by decide +kernel
theorem dX4_bestGoing_65 : decode cX4_bestGoing 65 = .ok (.goto (-47), 3) := by decide +kernel
theorem dX4_bestGoing_68 : decode cX4_bestGoing 68 = .ok (.iinc 3 1, 3) := by decide +kernel
theorem dX4_bestGoing_71 : decode cX4_bestGoing 71 = .ok (.goto (-64), 3) := by decide +kernel
theorem dX4_bestGoing_74 : decode cX4_bestGoing 74 = .ok (.iload_n 1, 1) := by decide +kernel
theorem dX4_bestGoing_75 : decode cX4_bestGoing 75 = .ok (.ireturn, 1) := by decide +kernel
set_option maxRecDepth 20000 in
theorem ggX4_canGo_X2_isSlot : GoodIn wsX4_canGo wsX2_isSlot := goodIn_r _ [6] (by decide +kernel) (by decide +kernel)
set_option maxRecDepth 20000 in
theorem gX4_canGo_X2_isSlot : GoodIn wsX4_canGo (va_wsS RX4 78 yX2_isSlot wsX2_isSlot) := goodIn_app (goodIn_of _ (by decide +kernel)) ggX4_canGo_X2_isSlot
set_option maxRecDepth 20000 in
theorem ggX4_canGo_X4_bears : GoodIn wsX4_canGo wsX4_bears := goodIn_r _ [11, 12, 13, 14, 5, 15, 16, 22, 23, 24, 25, 26, 27, 28, 29, 30, 31, 32, 33, 34] (by decide +kernel) (by decide +kernel)
set_option maxRecDepth 20000 in
theorem gX4_canGo_X4_bears : GoodIn wsX4_canGo (wsV RX4 103 RX4 yX4_bears wsX4_bears) := goodIn_app (goodIn_of _ (by decide +kernel)) ggX4_canGo_X4_bears
set_option maxRecDepth 20000 in
theorem ggX4_canGo_X4_isGood : GoodIn wsX4_canGo wsX4_isGood := goodIn_r _ [20, 21, 22, 23, 24, 25, 26, 27, 28, 29, 30, 31, 32, 33, 34] (by decide +kernel) (by decide +kernel)
set_option maxRecDepth 20000 in
theorem gX4_canGo_X4_isGood : GoodIn wsX4_canGo (wsV RX4 90 RX4 yX4_isGood wsX4_isGood) := goodIn_app (goodIn_of _ (by decide +kernel)) ggX4_canGo_X4_isGood
theorem dX4_canGo_0 : decode cX4_canGo 0 = .ok (.aload_n 0, 1) := by decide +kernel
theorem dX4_canGo_1 : decode cX4_canGo 1 = .ok (.getfield 21, 3) := by decide +kernel
theorem dX4_canGo_4 : decode cX4_canGo 4 = .ok (.iload_n 1, 1) := by decide +kernel
theorem dX4_canGo_5 : decode cX4_canGo 5 = .ok (.iaload, 1) := by decide +kernel
theorem dX4_canGo_6 : decode cX4_canGo 6 = .ok (.istore_n 3, 1) := by decide +kernel
theorem dX4_canGo_7 : decode cX4_canGo 7 = .ok (.iload_n 3, 1) := by decide +kernel
theorem dX4_canGo_8 : decode cX4_canGo 8 = .ok (.invokestatic 78, 3) := by decide +kernel
theorem dX4_canGo_11 : decode cX4_canGo 11 = .ok (.ifCond .eq 17, 3) := by decide +kernel
theorem dX4_canGo_14 : decode cX4_canGo 14 = .ok (.iload_n 3, 1) := by decide +kernel
theorem dX4_canGo_15 : decode cX4_canGo 15 = .ok (.iload_n 2, 1) := by decide +kernel
theorem dX4_canGo_16 : decode cX4_canGo 16 = .ok (.if_icmp .eq 12, 3) := by decide +kernel
theorem dX4_canGo_19 : decode cX4_canGo 19 = .ok (.aload_n 0, 1) := by decide +kernel
theorem dX4_canGo_20 : decode cX4_canGo 20 = .ok (.iload_n 2, 1) := by decide +kernel
theorem dX4_canGo_21 : decode cX4_canGo 21 = .ok (.iload_n 1, 1) := by decide +kernel
theorem dX4_canGo_22 : decode cX4_canGo 22 = .ok (.invokevirtual 103, 3) := by decide +kernel
theorem dX4_canGo_25 : decode cX4_canGo 25 = .ok (.ifCond .ne 5, 3) := by decide +kernel
theorem dX4_canGo_28 : decode cX4_canGo 28 = .ok (.iconst 0, 1) := by decide +kernel
theorem dX4_canGo_29 : decode cX4_canGo 29 = .ok (.ireturn, 1) := by decide +kernel
theorem dX4_canGo_30 : decode cX4_canGo 30 = .ok (.aload_n 0, 1) := by decide +kernel
theorem dX4_canGo_31 : decode cX4_canGo 31 = .ok (.getfield 38, 3) := by decide +kernel
theorem dX4_canGo_34 : decode cX4_canGo 34 = .ok (.iload_n 2, 1) := by decide +kernel
theorem dX4_canGo_35 : decode cX4_canGo 35 = .ok (.iaload, 1) := by decide +kernel
theorem dX4_canGo_36 : decode cX4_canGo 36 = .ok (.istore 4, 2) := by decide +kernel
theorem dX4_canGo_38 : decode cX4_canGo 38 = .ok (.aload_n 0, 1) := by decide +kernel
theorem dX4_canGo_39 : decode cX4_canGo 39 = .ok (.iload 4, 2) := by decide +kernel
theorem dX4_canGo_41 : decode cX4_canGo 41 = .ok (.invokevirtual 90, 3) := by decide +kernel
theorem dX4_canGo_44 : decode cX4_canGo 44 = .ok (.ifCond .eq 13, 3) := by decide +kernel
theorem dX4_canGo_47 : decode cX4_canGo 47 = .ok (.aload_n 0, 1) := by decide +kernel
theorem dX4_canGo_48 : decode cX4_canGo 48 = .ok (.iload_n 3, 1) := by decide +kernel
theorem dX4_canGo_49 : decode cX4_canGo 49 = .ok (.iload 4, 2) := by decide +kernel
theorem dX4_canGo_51 : decode cX4_canGo 51 = .ok (.invokevirtual 103, 3) := by decide +kernel
theorem dX4_canGo_54 : decode cX4_canGo 54 = .ok (.ifCond .eq 7, 3) := by decide +kernel
theorem dX4_canGo_57 : decode cX4_canGo 57 = .ok (.iconst 1, 1) := by decide +kernel
theorem dX4_canGo_58 : decode cX4_canGo 58 = .ok (.goto 4, 3) := by decide +kernel
theorem dX4_canGo_61 : decode cX4_canGo 61 = .ok (.iconst 0, 1) := by decide +kernel
theorem dX4_canGo_62 : decode cX4_canGo 62 = .ok (.ireturn, 1) := by decide +kernel
set_option maxRecDepth 20000 in
theorem ggX4_savedByGoing_X4_presentSeason : GoodIn wsX4_savedByGoing wsX4_presentSeason := goodIn_r _ [7, 8, 24, 25, 26, 27, 28, 29, 30, 31, 32, 33, 34, 35, 36] (by decide +kernel) (by decide +kernel)
set_option maxRecDepth 20000 in
theorem gX4_savedByGoing_X4_presentSeason : GoodIn wsX4_savedByGoing (wsV RX4 138 RX4 yX4_presentSeason wsX4_presentSeason) := goodIn_app (goodIn_of _ (by decide +kernel)) ggX4_savedByGoing_X4_presentSeason
set_option maxRecDepth 20000 in
theorem ggX4_savedByGoing_X4_demandOf : GoodIn wsX4_savedByGoing wsX4_demandOf := goodIn_r _ [12, 13, 24, 25, 26, 27, 28, 29, 30, 31, 32, 33, 34, 35, 36] (by decide +kernel) (by decide +kernel)
set_option maxRecDepth 20000 in
theorem gX4_savedByGoing_X4_demandOf : GoodIn wsX4_savedByGoing (wsV RX4 96 RX4 yX4_demandOf wsX4_demandOf) := goodIn_app (goodIn_of _ (by decide +kernel)) ggX4_savedByGoing_X4_demandOf
set_option maxRecDepth 20000 in
theorem ggX4_savedByGoing_X4_isGood : GoodIn wsX4_savedByGoing wsX4_isGood := goodIn_r _ [17, 18, 24, 25, 26, 27, 28, 29, 30, 31, 32, 33, 34, 35, 36] (by decide +kernel) (by decide +kernel)
set_option maxRecDepth 20000 in
theorem gX4_savedByGoing_X4_isGood : GoodIn wsX4_savedByGoing (wsV RX4 90 RX4 yX4_isGood wsX4_isGood) := goodIn_app (goodIn_of _ (by decide +kernel)) ggX4_savedByGoing_X4_isGood
set_option maxRecDepth 20000 in
theorem ggX4_savedByGoing_X2_walkTo : GoodIn wsX4_savedByGoing wsX2_walkTo := goodIn_r _ [22, 23] (by decide +kernel) (by decide +kernel)
set_option maxRecDepth 20000 in
theorem gX4_savedByGoing_X2_walkTo : GoodIn wsX4_savedByGoing (va_wsS RX4 111 yX2_walkTo wsX2_walkTo) := goodIn_app (goodIn_of _ (by decide +kernel)) ggX4_savedByGoing_X2_walkTo
theorem dX4_savedByGoing_0 : decode cX4_savedByGoing 0 = .ok (.aload_n 0, 1) := by decide +kernel
theorem dX4_savedByGoing_1 : decode cX4_savedByGoing 1 = .ok (.iload_n 1, 1) := by decide +kernel
theorem dX4_savedByGoing_2 : decode cX4_savedByGoing 2 = .ok (.aload_n 0, 1) := by decide +kernel
theorem dX4_savedByGoing_3 : decode cX4_savedByGoing 3 = .ok (.invokevirtual 138, 3) := by decide +kernel
theorem dX4_savedByGoing_6 : decode cX4_savedByGoing 6 = .ok (.invokevirtual 96, 3) := by decide +kernel
theorem dX4_savedByGoing_9 : decode cX4_savedByGoing 9 = .ok (.istore_n 3, 1) := by decide +kernel
theorem dX4_savedByGoing_10 : decode cX4_savedByGoing 10 = .ok (.aload_n 0, 1) := by decide +kernel
theorem dX4_savedByGoing_11 : decode cX4_savedByGoing 11 = .ok (.getfield 38, 3) := by decide +kernel
theorem dX4_savedByGoing_14 : decode cX4_savedByGoing 14 = .ok (.iload_n 2, 1) := by decide +kernel
theorem dX4_savedByGoing_15 : decode cX4_savedByGoing 15 = .ok (.iaload, 1) := by decide +kernel
theorem dX4_savedByGoing_16 : decode cX4_savedByGoing 16 = .ok (.istore 4, 2) := by decide +kernel
theorem dX4_savedByGoing_18 : decode cX4_savedByGoing 18 = .ok (.aload_n 0, 1) := by decide +kernel
theorem dX4_savedByGoing_19 : decode cX4_savedByGoing 19 = .ok (.iload 4, 2) := by decide +kernel
theorem dX4_savedByGoing_21 : decode cX4_savedByGoing 21 = .ok (.invokevirtual 90, 3) := by decide +kernel
theorem dX4_savedByGoing_24 : decode cX4_savedByGoing 24 = .ok (.ifCond .eq 16, 3) := by decide +kernel
theorem dX4_savedByGoing_27 : decode cX4_savedByGoing 27 = .ok (.iload_n 3, 1) := by decide +kernel
theorem dX4_savedByGoing_28 : decode cX4_savedByGoing 28 = .ok (.aload_n 0, 1) := by decide +kernel
theorem dX4_savedByGoing_29 : decode cX4_savedByGoing 29 = .ok (.iload 4, 2) := by decide +kernel
theorem dX4_savedByGoing_31 : decode cX4_savedByGoing 31 = .ok (.aload_n 0, 1) := by decide +kernel
theorem dX4_savedByGoing_32 : decode cX4_savedByGoing 32 = .ok (.invokevirtual 138, 3) := by decide +kernel
theorem dX4_savedByGoing_35 : decode cX4_savedByGoing 35 = .ok (.invokevirtual 96, 3) := by decide +kernel
theorem dX4_savedByGoing_38 : decode cX4_savedByGoing 38 = .ok (.isub, 1) := by decide +kernel
theorem dX4_savedByGoing_39 : decode cX4_savedByGoing 39 = .ok (.istore_n 3, 1) := by decide +kernel
theorem dX4_savedByGoing_40 : decode cX4_savedByGoing 40 = .ok (.iload_n 3, 1) := by decide +kernel
theorem dX4_savedByGoing_41 : decode cX4_savedByGoing 41 = .ok (.aload_n 0, 1) := by decide +kernel
theorem dX4_savedByGoing_42 : decode cX4_savedByGoing 42 = .ok (.getfield 21, 3) := by decide +kernel
theorem dX4_savedByGoing_45 : decode cX4_savedByGoing 45 = .ok (.iload_n 1, 1) := by decide +kernel
theorem dX4_savedByGoing_46 : decode cX4_savedByGoing 46 = .ok (.iaload, 1) := by decide +kernel
theorem dX4_savedByGoing_47 : decode cX4_savedByGoing 47 = .ok (.invokestatic 111, 3) := by decide +kernel
theorem dX4_savedByGoing_50 : decode cX4_savedByGoing 50 = .ok (.iload_n 2, 1) := by decide +kernel
theorem dX4_savedByGoing_51 : decode cX4_savedByGoing 51 = .ok (.invokestatic 111, 3) := by decide +kernel
theorem dX4_savedByGoing_54 : decode cX4_savedByGoing 54 = .ok (.isub, 1) := by decide +kernel
theorem dX4_savedByGoing_55 : decode cX4_savedByGoing 55 = .ok (.imul, 1) := by decide +kernel
theorem dX4_savedByGoing_56 : decode cX4_savedByGoing 56 = .ok (.ireturn, 1) := by decide +kernel
set_option maxRecDepth 20000 in
theorem ggX4_walkOfGoing_X2_wayBetween : GoodIn wsX4_walkOfGoing wsX2_wayBetween := goodIn_r _ [7, 8, 9, 10, 11, 12] (by decide +kernel) (by decide +kernel)
set_option maxRecDepth 20000 in
theorem gX4_walkOfGoing_X2_wayBetween : GoodIn wsX4_walkOfGoing (va_wsS RX4 161 yX2_wayBetween wsX2_wayBetween) := goodIn_app (goodIn_of _ (by decide +kernel)) ggX4_walkOfGoing_X2_wayBetween
set_option maxRecDepth 20000 in
theorem ggX4_walkOfGoing_X4_isGood : GoodIn wsX4_walkOfGoing wsX4_isGood := goodIn_r _ [17, 18, 19, 20, 21, 22, 23, 24, 25, 26, 27, 28, 29, 30, 31] (by decide +kernel) (by decide +kernel)
set_option maxRecDepth 20000 in
theorem gX4_walkOfGoing_X4_isGood : GoodIn wsX4_walkOfGoing (wsV RX4 90 RX4 yX4_isGood wsX4_isGood) := goodIn_app (goodIn_of _ (by decide +kernel)) ggX4_walkOfGoing_X4_isGood
theorem dX4_walkOfGoing_0 : decode cX4_walkOfGoing 0 = .ok (.aload_n 0, 1) := by decide +kernel
theorem dX4_walkOfGoing_1 : decode cX4_walkOfGoing 1 = .ok (.getfield 21, 3) := by decide +kernel
theorem dX4_walkOfGoing_4 : decode cX4_walkOfGoing 4 = .ok (.iload_n 1, 1) := by decide +kernel
theorem dX4_walkOfGoing_5 : decode cX4_walkOfGoing 5 = .ok (.iaload, 1) := by decide +kernel
theorem dX4_walkOfGoing_6 : decode cX4_walkOfGoing 6 = .ok (.iload_n 2, 1) := by decide +kernel
theorem dX4_walkOfGoing_7 : decode cX4_walkOfGoing 7 = .ok (.invokestatic 161, 3) := by decide +kernel
theorem dX4_walkOfGoing_10 : decode cX4_walkOfGoing 10 = .ok (.istore_n 3, 1) := by decide +kernel
theorem dX4_walkOfGoing_11 : decode cX4_walkOfGoing 11 = .ok (.aload_n 0, 1) := by decide +kernel
theorem dX4_walkOfGoing_12 : decode cX4_walkOfGoing 12 = .ok (.getfield 38, 3) := by decide +kernel
theorem dX4_walkOfGoing_15 : decode cX4_walkOfGoing 15 = .ok (.iload_n 2, 1) := by decide +kernel
theorem dX4_walkOfGoing_16 : decode cX4_walkOfGoing 16 = .ok (.iaload, 1) := by decide +kernel
theorem dX4_walkOfGoing_17 : decode cX4_walkOfGoing 17 = .ok (.istore 4, 2) := by decide +kernel
theorem dX4_walkOfGoing_19 : decode cX4_walkOfGoing 19 = .ok (.aload_n 0, 1) := by decide +kernel
theorem dX4_walkOfGoing_20 : decode cX4_walkOfGoing 20 = .ok (.iload 4, 2) := by decide +kernel
theorem dX4_walkOfGoing_22 : decode cX4_walkOfGoing 22 = .ok (.invokevirtual 90, 3) := by decide +kernel
theorem dX4_walkOfGoing_25 : decode cX4_walkOfGoing 25 = .ok (.ifCond .eq 15, 3) := by decide +kernel
theorem dX4_walkOfGoing_28 : decode cX4_walkOfGoing 28 = .ok (.iload_n 3, 1) := by decide +kernel
theorem dX4_walkOfGoing_29 : decode cX4_walkOfGoing 29 = .ok (.aload_n 0, 1) := by decide +kernel
theorem dX4_walkOfGoing_30 : decode cX4_walkOfGoing 30 = .ok (.getfield 9, 3) := by decide +kernel
theorem dX4_walkOfGoing_33 : decode cX4_walkOfGoing 33 = .ok (.iload 4, 2) := by decide +kernel
theorem dX4_walkOfGoing_35 : decode cX4_walkOfGoing 35 = .ok (.iaload, 1) := by decide +kernel
theorem dX4_walkOfGoing_36 : decode cX4_walkOfGoing 36 = .ok (.iadd, 1) := by decide +kernel
theorem dX4_walkOfGoing_37 : decode cX4_walkOfGoing 37 = .ok (.goto 4, 3) := by decide +kernel
theorem dX4_walkOfGoing_40 : decode cX4_walkOfGoing 40 = .ok (.iconst 0, 1) := by decide +kernel
theorem dX4_walkOfGoing_41 : decode cX4_walkOfGoing 41 = .ok (.istore 5, 2) := by decide +kernel
theorem dX4_walkOfGoing_43 : decode cX4_walkOfGoing 43 = .ok (.iload_n 3, 1) := by decide +kernel
theorem dX4_walkOfGoing_44 : decode cX4_walkOfGoing 44 = .ok (.aload_n 0, 1) := by decide +kernel
theorem dX4_walkOfGoing_45 : decode cX4_walkOfGoing 45 = .ok (.getfield 9, 3) := by decide +kernel
theorem dX4_walkOfGoing_48 : decode cX4_walkOfGoing 48 = .ok (.iload_n 1, 1) := by decide +kernel
theorem dX4_walkOfGoing_49 : decode cX4_walkOfGoing 49 = .ok (.iaload, 1) := by decide +kernel
theorem dX4_walkOfGoing_50 : decode cX4_walkOfGoing 50 = .ok (.iadd, 1) := by decide +kernel
theorem dX4_walkOfGoing_51 : decode cX4_walkOfGoing 51 = .ok (.iload 5, 2) := by decide +kernel
theorem dX4_walkOfGoing_53 : decode cX4_walkOfGoing 53 = .ok (.iadd, 1) := by decide +kernel
theorem dX4_walkOfGoing_54 : decode cX4_walkOfGoing 54 = .ok (.ireturn, 1) := by decide +kernel
set_option maxRecDepth 20000 in
theorem ggX4_worthOfGoing_X4_savedByGoing : GoodIn wsX4_worthOfGoing wsX4_savedByGoing := goodIn_r _ [5, 6, 7, 8, 9, 10, 4, 11, 12, 13, 14, 15, 16, 17, 18, 19, 20, 21, 22, 23, 24, 25, 26, 27, 44, 45, 46, 47, 48, 49, 50, 51, 52, 53, 54, 55, 56] (by decide +kernel) (by decide +kernel)
set_option maxRecDepth 20000 in
theorem gX4_worthOfGoing_X4_savedByGoing : GoodIn wsX4_worthOfGoing (wsV RX4 155 RX4 yX4_savedByGoing wsX4_savedByGoing) := goodIn_app (goodIn_of _ (by decide +kernel)) ggX4_worthOfGoing_X4_savedByGoing
set_option maxRecDepth 20000 in
theorem ggX4_worthOfGoing_X4_weeksLeft : GoodIn wsX4_worthOfGoing wsX4_weeksLeft := goodIn_r _ [31, 12, 44, 45, 46, 47, 48, 49, 50, 51, 52, 53, 54, 55, 56] (by decide +kernel) (by decide +kernel)
set_option maxRecDepth 20000 in
theorem gX4_worthOfGoing_X4_weeksLeft : GoodIn wsX4_worthOfGoing (wsV RX4 164 RX4 yX4_weeksLeft wsX4_weeksLeft) := goodIn_app (goodIn_of _ (by decide +kernel)) ggX4_worthOfGoing_X4_weeksLeft
set_option maxRecDepth 20000 in
theorem ggX4_worthOfGoing_X4_walkOfGoing : GoodIn wsX4_worthOfGoing wsX4_walkOfGoing := goodIn_r _ [35, 7, 6, 36, 37, 38, 25, 39, 40, 41, 42, 43, 27, 18, 19, 20, 4, 21, 22, 44, 45, 46, 47, 48, 49, 50, 51, 52, 53, 54, 55, 56] (by decide +kernel) (by decide +kernel)
set_option maxRecDepth 20000 in
theorem gX4_worthOfGoing_X4_walkOfGoing : GoodIn wsX4_worthOfGoing (wsV RX4 149 RX4 yX4_walkOfGoing wsX4_walkOfGoing) := goodIn_app (goodIn_of _ (by decide +kernel)) ggX4_worthOfGoing_X4_walkOfGoing
theorem dX4_worthOfGoing_0 : decode cX4_worthOfGoing 0 = .ok (.aload_n 0, 1) := by decide +kernel
theorem dX4_worthOfGoing_1 : decode cX4_worthOfGoing 1 = .ok (.iload_n 1, 1) := by decide +kernel
theorem dX4_worthOfGoing_2 : decode cX4_worthOfGoing 2 = .ok (.iload_n 2, 1) := by decide +kernel
theorem dX4_worthOfGoing_3 : decode cX4_worthOfGoing 3 = .ok (.invokevirtual 155, 3) := by decide +kernel
theorem dX4_worthOfGoing_6 : decode cX4_worthOfGoing 6 = .ok (.aload_n 0, 1) := by decide +kernel
theorem dX4_worthOfGoing_7 : decode cX4_worthOfGoing 7 = .ok (.invokevirtual 164, 3) := by decide +kernel
theorem dX4_worthOfGoing_10 : decode cX4_worthOfGoing 10 = .ok (.imul, 1) := by decide +kernel
theorem dX4_worthOfGoing_11 : decode cX4_worthOfGoing 11 = .ok (.aload_n 0, 1) := by decide +kernel
theorem dX4_worthOfGoing_12 : decode cX4_worthOfGoing 12 = .ok (.iload_n 1, 1) := by decide +kernel
theorem dX4_worthOfGoing_13 : decode cX4_worthOfGoing 13 = .ok (.iload_n 2, 1) := by decide +kernel
theorem dX4_worthOfGoing_14 : decode cX4_worthOfGoing 14 = .ok (.invokevirtual 149, 3) := by decide +kernel
theorem dX4_worthOfGoing_17 : decode cX4_worthOfGoing 17 = .ok (.isub, 1) := by decide +kernel
theorem dX4_worthOfGoing_18 : decode cX4_worthOfGoing 18 = .ok (.ireturn, 1) := by decide +kernel
set_option maxRecDepth 20000 in
theorem ggX4_goTo_X4_savedByGoing : GoodIn wsX4_goTo wsX4_savedByGoing := goodIn_r _ [8, 3, 2, 9, 10, 11, 7, 12, 13, 14, 15, 16, 17, 18, 19, 20, 21, 22, 23, 24, 25, 26, 27, 28, 45, 46, 47, 48, 49, 50, 51, 52, 53, 54, 55, 56, 57] (by decide +kernel) (by decide +kernel)
set_option maxRecDepth 20000 in
theorem gX4_goTo_X4_savedByGoing : GoodIn wsX4_goTo (wsV RX4 155 RX4 yX4_savedByGoing wsX4_savedByGoing) := goodIn_app (goodIn_of _ (by decide +kernel)) ggX4_goTo_X4_savedByGoing
set_option maxRecDepth 20000 in
theorem ggX4_goTo_X4_walkOfGoing : GoodIn wsX4_goTo wsX4_walkOfGoing := goodIn_r _ [32, 2, 3, 33, 34, 35, 26, 36, 37, 38, 39, 40, 28, 19, 20, 21, 7, 22, 23, 45, 46, 47, 48, 49, 50, 51, 52, 53, 54, 55, 56, 57] (by decide +kernel) (by decide +kernel)
set_option maxRecDepth 20000 in
theorem gX4_goTo_X4_walkOfGoing : GoodIn wsX4_goTo (wsV RX4 149 RX4 yX4_walkOfGoing wsX4_walkOfGoing) := goodIn_app (goodIn_of _ (by decide +kernel)) ggX4_goTo_X4_walkOfGoing
set_option maxRecDepth 20000 in
theorem ggX4_goTo_X4_isGood : GoodIn wsX4_goTo wsX4_isGood := goodIn_r _ [22, 23, 45, 46, 47, 48, 49, 50, 51, 52, 53, 54, 55, 56, 57] (by decide +kernel) (by decide +kernel)
set_option maxRecDepth 20000 in
theorem gX4_goTo_X4_isGood : GoodIn wsX4_goTo (wsV RX4 90 RX4 yX4_isGood wsX4_isGood) := goodIn_app (goodIn_of _ (by decide +kernel)) ggX4_goTo_X4_isGood
set_option maxRecDepth 20000 in
theorem ggX4_goTo_X4_standIn : GoodIn wsX4_goTo wsX4_standIn := goodIn_r _ [44, 2, 3, 45, 46, 47, 48, 49, 50, 51, 52, 53, 54, 55, 56, 57] (by decide +kernel) (by decide +kernel)
set_option maxRecDepth 20000 in
theorem gX4_goTo_X4_standIn : GoodIn wsX4_goTo (wsV RX4 107 RX4 yX4_standIn wsX4_standIn) := goodIn_app (goodIn_of _ (by decide +kernel)) ggX4_goTo_X4_standIn
theorem dX4_goTo_0 : decode cX4_goTo 0 = .ok (.aload_n 0, 1) := by decide +kernel
theorem dX4_goTo_1 : decode cX4_goTo 1 = .ok (.iload_n 1, 1) := by decide +kernel
theorem dX4_goTo_2 : decode cX4_goTo 2 = .ok (.iload_n 2, 1) := by decide +kernel
theorem dX4_goTo_3 : decode cX4_goTo 3 = .ok (.invokevirtual 155, 3) := by decide +kernel
theorem dX4_goTo_6 : decode cX4_goTo 6 = .ok (.istore_n 3, 1) := by decide +kernel
theorem dX4_goTo_7 : decode cX4_goTo 7 = .ok (.aload_n 0, 1) := by decide +kernel
theorem dX4_goTo_8 : decode cX4_goTo 8 = .ok (.getfield 47, 3) := by decide +kernel
theorem dX4_goTo_11 : decode cX4_goTo 11 = .ok (.dup, 1) := by decide +kernel
theorem dX4_goTo_12 : decode cX4_goTo 12 = .ok (.getfield 167, 3) := by decide +kernel
theorem dX4_goTo_15 : decode cX4_goTo 15 = .ok (.iconst 1, 1) := by decide +kernel
theorem dX4_goTo_16 : decode cX4_goTo 16 = .ok (.iadd, 1) := by decide +kernel
theorem dX4_goTo_17 : decode cX4_goTo 17 = .ok (.putfield 167, 3) := by decide +kernel
theorem dX4_goTo_20 : decode cX4_goTo 20 = .ok (.aload_n 0, 1) := by decide +kernel
theorem dX4_goTo_21 : decode cX4_goTo 21 = .ok (.getfield 47, 3) := by decide +kernel
theorem dX4_goTo_24 : decode cX4_goTo 24 = .ok (.dup, 1) := by decide +kernel
theorem dX4_goTo_25 : decode cX4_goTo 25 = .ok (.getfield 170, 3) := by decide +kernel
theorem dX4_goTo_28 : decode cX4_goTo 28 = .ok (.aload_n 0, 1) := by decide +kernel
theorem dX4_goTo_29 : decode cX4_goTo 29 = .ok (.iload_n 1, 1) := by decide +kernel
theorem dX4_goTo_30 : decode cX4_goTo 30 = .ok (.iload_n 2, 1) := by decide +kernel
theorem dX4_goTo_31 : decode cX4_goTo 31 = .ok (.invokevirtual 149, 3) := by decide +kernel
theorem dX4_goTo_34 : decode cX4_goTo 34 = .ok (.iadd, 1) := by decide +kernel
theorem dX4_goTo_35 : decode cX4_goTo 35 = .ok (.putfield 170, 3) := by decide +kernel
theorem dX4_goTo_38 : decode cX4_goTo 38 = .ok (.aload_n 0, 1) := by decide +kernel
theorem dX4_goTo_39 : decode cX4_goTo 39 = .ok (.getfield 47, 3) := by decide +kernel
theorem dX4_goTo_42 : decode cX4_goTo 42 = .ok (.dup, 1) := by decide +kernel
theorem dX4_goTo_43 : decode cX4_goTo 43 = .ok (.getfield 173, 3) := by decide +kernel
theorem dX4_goTo_46 : decode cX4_goTo 46 = .ok (.iload_n 3, 1) := by decide +kernel
theorem dX4_goTo_47 : decode cX4_goTo 47 = .ok (.iadd, 1) := by decide +kernel
theorem dX4_goTo_48 : decode cX4_goTo 48 = .ok (.putfield 173, 3) := by decide +kernel
theorem dX4_goTo_51 : decode cX4_goTo 51 = .ok (.aload_n 0, 1) := by decide +kernel
theorem dX4_goTo_52 : decode cX4_goTo 52 = .ok (.getfield 21, 3) := by decide +kernel
theorem dX4_goTo_55 : decode cX4_goTo 55 = .ok (.iload_n 1, 1) := by decide +kernel
theorem dX4_goTo_56 : decode cX4_goTo 56 = .ok (.iaload, 1) := by decide +kernel
theorem dX4_goTo_57 : decode cX4_goTo 57 = .ok (.istore 4, 2) := by decide +kernel
theorem dX4_goTo_59 : decode cX4_goTo 59 = .ok (.aload_n 0, 1) := by decide +kernel
theorem dX4_goTo_60 : decode cX4_goTo 60 = .ok (.getfield 38, 3) := by decide +kernel
theorem dX4_goTo_63 : decode cX4_goTo 63 = .ok (.iload_n 2, 1) := by decide +kernel
theorem dX4_goTo_64 : decode cX4_goTo 64 = .ok (.iaload, 1) := by decide +kernel
theorem dX4_goTo_65 : decode cX4_goTo 65 = .ok (.istore 5, 2) := by decide +kernel
theorem dX4_goTo_67 : decode cX4_goTo 67 = .ok (.aload_n 0, 1) := by decide +kernel
theorem dX4_goTo_68 : decode cX4_goTo 68 = .ok (.getfield 38, 3) := by decide +kernel
theorem dX4_goTo_71 : decode cX4_goTo 71 = .ok (.iload 4, 2) := by decide +kernel
theorem dX4_goTo_73 : decode cX4_goTo 73 = .ok (.iconst (-1), 1) := by decide +kernel
theorem dX4_goTo_74 : decode cX4_goTo 74 = .ok (.iastore, 1) := by decide +kernel
theorem dX4_goTo_75 : decode cX4_goTo 75 = .ok (.aload_n 0, 1) := by decide +kernel
theorem dX4_goTo_76 : decode cX4_goTo 76 = .ok (.iload 5, 2) := by decide +kernel
theorem dX4_goTo_78 : decode cX4_goTo 78 = .ok (.invokevirtual 90, 3) := by decide +kernel
theorem dX4_goTo_81 : decode cX4_goTo 81 = .ok (.ifCond .eq 11, 3) := by decide +kernel
theorem dX4_goTo_84 : decode cX4_goTo 84 = .ok (.aload_n 0, 1) := by decide +kernel
theorem dX4_goTo_85 : decode cX4_goTo 85 = .ok (.iload 5, 2) := by decide +kernel
theorem dX4_goTo_87 : decode cX4_goTo 87 = .ok (.iload 4, 2) := by decide +kernel
theorem dX4_goTo_89 : decode cX4_goTo 89 = .ok (.invokevirtual 107, 3) := by decide +kernel
theorem dX4_goTo_92 : decode cX4_goTo 92 = .ok (.aload_n 0, 1) := by decide +kernel
theorem dX4_goTo_93 : decode cX4_goTo 93 = .ok (.iload_n 1, 1) := by decide +kernel
theorem dX4_goTo_94 : decode cX4_goTo 94 = .ok (.iload_n 2, 1) := by decide +kernel
theorem dX4_goTo_95 : decode cX4_goTo 95 = .ok (.invokevirtual 107, 3) := by decide +kernel
theorem dX4_goTo_98 : decode cX4_goTo 98 = .ok (.iload_n 3, 1) := by decide +kernel
theorem dX4_goTo_99 : decode cX4_goTo 99 = .ok (.ireturn, 1) := by decide +kernel
set_option maxRecDepth 20000 in
theorem ggX4_weeklyWalk_X4_isPlaced : GoodIn wsX4_weeklyWalk wsX4_isPlaced := goodIn_r _ [7, 2, 8, 9, 10, 11, 21, 22, 23, 24, 25, 26, 27, 28, 29, 30, 31, 32, 33] (by decide +kernel) (by decide +kernel)
set_option maxRecDepth 20000 in
theorem gX4_weeklyWalk_X4_isPlaced : GoodIn wsX4_weeklyWalk (wsV RX4 100 RX4 yX4_isPlaced wsX4_isPlaced) := goodIn_app (goodIn_of _ (by decide +kernel)) ggX4_weeklyWalk_X4_isPlaced
set_option maxRecDepth 20000 in
theorem ggX4_weeklyWalk_X4_demandOf : GoodIn wsX4_weeklyWalk wsX4_demandOf := goodIn_r _ [15, 16, 21, 22, 23, 24, 25, 26, 27, 28, 29, 30, 31, 32, 33] (by decide +kernel) (by decide +kernel)
set_option maxRecDepth 20000 in
theorem gX4_weeklyWalk_X4_demandOf : GoodIn wsX4_weeklyWalk (wsV RX4 96 RX4 yX4_demandOf wsX4_demandOf) := goodIn_app (goodIn_of _ (by decide +kernel)) ggX4_weeklyWalk_X4_demandOf
set_option maxRecDepth 20000 in
theorem ggX4_weeklyWalk_X2_walkTo : GoodIn wsX4_weeklyWalk wsX2_walkTo := goodIn_r _ [19, 20] (by decide +kernel) (by decide +kernel)
set_option maxRecDepth 20000 in
theorem gX4_weeklyWalk_X2_walkTo : GoodIn wsX4_weeklyWalk (va_wsS RX4 111 yX2_walkTo wsX2_walkTo) := goodIn_app (goodIn_of _ (by decide +kernel)) ggX4_weeklyWalk_X2_walkTo
theorem dX4_weeklyWalk_0 : decode cX4_weeklyWalk 0 = .ok (.iconst 0, 1) := by decide +kernel
theorem dX4_weeklyWalk_1 : decode cX4_weeklyWalk 1 = .ok (.istore_n 2, 1) := by decide +kernel
theorem dX4_weeklyWalk_2 : decode cX4_weeklyWalk 2 = .ok (.iconst 0, 1) := by decide +kernel
theorem dX4_weeklyWalk_3 : decode cX4_weeklyWalk 3 = .ok (.istore_n 3, 1) := by decide +kernel
theorem dX4_weeklyWalk_4 : decode cX4_weeklyWalk 4 = .ok (.iload_n 3, 1) := by decide +kernel
theorem dX4_weeklyWalk_5 : decode cX4_weeklyWalk 5 = .ok (.aload_n 0, 1) := by decide +kernel
theorem dX4_weeklyWalk_6 : decode cX4_weeklyWalk 6 = .ok (.getfield 59, 3) := by decide +kernel
theorem dX4_weeklyWalk_9 : decode cX4_weeklyWalk 9 = .ok (.if_icmp .ge 36, 3) := by decide +kernel
theorem dX4_weeklyWalk_12 : decode cX4_weeklyWalk 12 = .ok (.aload_n 0, 1) := by decide +kernel
theorem dX4_weeklyWalk_13 : decode cX4_weeklyWalk 13 = .ok (.iload_n 3, 1) := by decide +kernel
theorem dX4_weeklyWalk_14 : decode cX4_weeklyWalk 14 = .ok (.invokevirtual 100, 3) := by decide +kernel
theorem dX4_weeklyWalk_17 : decode cX4_weeklyWalk 17 = .ok (.ifCond .eq 22, 3) := by decide +kernel
theorem dX4_weeklyWalk_20 : decode cX4_weeklyWalk 20 = .ok (.iload_n 2, 1) := by decide +kernel
theorem dX4_weeklyWalk_21 : decode cX4_weeklyWalk 21 = .ok (.aload_n 0, 1) := by decide +kernel
theorem dX4_weeklyWalk_22 : decode cX4_weeklyWalk 22 = .ok (.iload_n 3, 1) := by decide +kernel
theorem dX4_weeklyWalk_23 : decode cX4_weeklyWalk 23 = .ok (.iload_n 1, 1) := by decide +kernel
theorem dX4_weeklyWalk_24 : decode cX4_weeklyWalk 24 = .ok (.invokevirtual 96, 3) := by decide +kernel
theorem dX4_weeklyWalk_27 : decode cX4_weeklyWalk 27 = .ok (.aload_n 0, 1) := by decide +kernel
theorem dX4_weeklyWalk_28 : decode cX4_weeklyWalk 28 = .ok (.getfield 21, 3) := by decide +kernel
theorem dX4_weeklyWalk_31 : decode cX4_weeklyWalk 31 = .ok (.iload_n 3, 1) := by decide +kernel
theorem dX4_weeklyWalk_32 : decode cX4_weeklyWalk 32 = .ok (.iaload, 1) := by decide +kernel
theorem dX4_weeklyWalk_33 : decode cX4_weeklyWalk 33 = .ok (.invokestatic 111, 3) := by decide +kernel
theorem dX4_weeklyWalk_36 : decode cX4_weeklyWalk 36 = .ok (.imul, 1) := by decide +kernel
theorem dX4_weeklyWalk_37 : decode cX4_weeklyWalk 37 = .ok (.iadd, 1) := by decide +kernel
theorem dX4_weeklyWalk_38 : decode cX4_weeklyWalk 38 = .ok (.istore_n 2, 1) := by decide +kernel
theorem dX4_weeklyWalk_39 : decode cX4_weeklyWalk 39 = .ok (.iinc 3 1, 3) := by decide +kernel
theorem dX4_weeklyWalk_42 : decode cX4_weeklyWalk 42 = .ok (.goto (-38), 3) := by decide +kernel
theorem dX4_weeklyWalk_45 : decode cX4_weeklyWalk 45 = .ok (.iload_n 2, 1) := by decide +kernel
theorem dX4_weeklyWalk_46 : decode cX4_weeklyWalk 46 = .ok (.ireturn, 1) := by decide +kernel
set_option maxRecDepth 20000 in
theorem ggX4_shortestWalk_X4_isPlaced : GoodIn wsX4_shortestWalk wsX4_isPlaced := goodIn_r _ [7, 2, 8, 9, 10, 11, 34, 35, 36, 37, 38, 39, 40, 41, 42, 43, 44, 45, 46] (by decide +kernel) (by decide +kernel)
set_option maxRecDepth 20000 in
theorem gX4_shortestWalk_X4_isPlaced : GoodIn wsX4_shortestWalk (wsV RX4 100 RX4 yX4_isPlaced wsX4_isPlaced) := goodIn_app (goodIn_of _ (by decide +kernel)) ggX4_shortestWalk_X4_isPlaced
set_option maxRecDepth 20000 in
theorem ggX4_shortestWalk_X4_demandOf : GoodIn wsX4_shortestWalk wsX4_demandOf := goodIn_r _ [15, 16, 34, 35, 36, 37, 38, 39, 40, 41, 42, 43, 44, 45, 46] (by decide +kernel) (by decide +kernel)
set_option maxRecDepth 20000 in
theorem gX4_shortestWalk_X4_demandOf : GoodIn wsX4_shortestWalk (wsV RX4 96 RX4 yX4_demandOf wsX4_demandOf) := goodIn_app (goodIn_of _ (by decide +kernel)) ggX4_shortestWalk_X4_demandOf
set_option maxRecDepth 20000 in
theorem ggX4_shortestWalk_X3_insert : GoodIn wsX4_shortestWalk wsX3_insert := goodIn_r _ [21, 22, 23, 32, 33] (by decide +kernel) (by decide +kernel)
set_option maxRecDepth 20000 in
theorem gX4_shortestWalk_X3_insert : GoodIn wsX4_shortestWalk (wsV RX4 181 RX3 yX3_insert wsX3_insert) := goodIn_app (goodIn_of _ (by decide +kernel)) ggX4_shortestWalk_X3_insert
set_option maxRecDepth 20000 in
theorem ggX4_shortestWalk_X2_walkTo : GoodIn wsX4_shortestWalk wsX2_walkTo := goodIn_r _ [26, 27] (by decide +kernel) (by decide +kernel)
set_option maxRecDepth 20000 in
theorem gX4_shortestWalk_X2_walkTo : GoodIn wsX4_shortestWalk (va_wsS RX4 111 yX2_walkTo wsX2_walkTo) := goodIn_app (goodIn_of _ (by decide +kernel)) ggX4_shortestWalk_X2_walkTo
set_option maxRecDepth 20000 in
theorem ggX4_shortestWalk_X3_valueAt : GoodIn wsX4_shortestWalk wsX3_valueAt := goodIn_r _ [31, 22, 23, 32, 33] (by decide +kernel) (by decide +kernel)
set_option maxRecDepth 20000 in
theorem gX4_shortestWalk_X3_valueAt : GoodIn wsX4_shortestWalk (wsV RX4 185 RX3 yX3_valueAt wsX3_valueAt) := goodIn_app (goodIn_of _ (by decide +kernel)) ggX4_shortestWalk_X3_valueAt
theorem dX4_shortestWalk_0 : decode cX4_shortestWalk 0 = .ok (.aload_n 2, 1) := by decide +kernel
theorem dX4_shortestWalk_1 : decode cX4_shortestWalk 1 = .ok (.iconst 0, 1) := by decide +kernel
theorem dX4_shortestWalk_2 : decode cX4_shortestWalk 2 = .ok (.putfield 176, 3) := by decide +kernel
theorem dX4_shortestWalk_5 : decode cX4_shortestWalk 5 = .ok (.aload_n 3, 1) := by decide +kernel
theorem dX4_shortestWalk_6 : decode cX4_shortestWalk 6 = .ok (.iconst 0, 1) := by decide +kernel
theorem dX4_shortestWalk_7 : decode cX4_shortestWalk 7 = .ok (.putfield 176, 3) := by decide +kernel
theorem dX4_shortestWalk_10 : decode cX4_shortestWalk 10 = .ok (.iconst 0, 1) := by decide +kernel
theorem dX4_shortestWalk_11 : decode cX4_shortestWalk 11 = .ok (.istore 4, 2) := by decide +kernel
theorem dX4_shortestWalk_13 : decode cX4_shortestWalk 13 = .ok (.iload 4, 2) := by decide +kernel
theorem dX4_shortestWalk_15 : decode cX4_shortestWalk 15 = .ok (.aload_n 0, 1) := by decide +kernel
theorem dX4_shortestWalk_16 : decode cX4_shortestWalk 16 = .ok (.getfield 59, 3) := by decide +kernel
theorem dX4_shortestWalk_19 : decode cX4_shortestWalk 19 = .ok (.if_icmp .ge 43, 3) := by decide +kernel
theorem dX4_shortestWalk_22 : decode cX4_shortestWalk 22 = .ok (.aload_n 0, 1) := by decide +kernel
theorem dX4_shortestWalk_23 : decode cX4_shortestWalk 23 = .ok (.iload 4, 2) := by decide +kernel
theorem dX4_shortestWalk_25 : decode cX4_shortestWalk 25 = .ok (.invokevirtual 100, 3) := by decide +kernel
theorem dX4_shortestWalk_28 : decode cX4_shortestWalk 28 = .ok (.ifCond .eq 28, 3) := by decide +kernel
theorem dX4_shortestWalk_31 : decode cX4_shortestWalk 31 = .ok (.aload_n 2, 1) := by decide +kernel
theorem dX4_shortestWalk_32 : decode cX4_shortestWalk 32 = .ok (.aload_n 0, 1) := by decide +kernel
theorem dX4_shortestWalk_33 : decode cX4_shortestWalk 33 = .ok (.iload 4, 2) := by decide +kernel
theorem dX4_shortestWalk_35 : decode cX4_shortestWalk 35 = .ok (.iload_n 1, 1) := by decide +kernel
theorem dX4_shortestWalk_36 : decode cX4_shortestWalk 36 = .ok (.invokevirtual 96, 3) := by decide +kernel
theorem dX4_shortestWalk_39 : decode cX4_shortestWalk 39 = .ok (.invokevirtual 181, 3) := by decide +kernel
theorem dX4_shortestWalk_42 : decode cX4_shortestWalk 42 = .ok (.aload_n 3, 1) := by decide +kernel
theorem dX4_shortestWalk_43 : decode cX4_shortestWalk 43 = .ok (.aload_n 0, 1) := by decide +kernel
theorem dX4_shortestWalk_44 : decode cX4_shortestWalk 44 = .ok (.getfield 21, 3) := by decide +kernel
theorem dX4_shortestWalk_47 : decode cX4_shortestWalk 47 = .ok (.iload 4, 2) := by decide +kernel
theorem dX4_shortestWalk_49 : decode cX4_shortestWalk 49 = .ok (.iaload, 1) := by decide +kernel
theorem dX4_shortestWalk_50 : decode cX4_shortestWalk 50 = .ok (.invokestatic 111, 3) := by decide +kernel
theorem dX4_shortestWalk_53 : decode cX4_shortestWalk 53 = .ok (.invokevirtual 181, 3) := by decide +kernel
theorem dX4_shortestWalk_56 : decode cX4_shortestWalk 56 = .ok (.iinc 4 1, 3) := by decide +kernel
theorem dX4_shortestWalk_59 : decode cX4_shortestWalk 59 = .ok (.goto (-46), 3) := by decide +kernel
theorem dX4_shortestWalk_62 : decode cX4_shortestWalk 62 = .ok (.iconst 0, 1) := by decide +kernel
theorem dX4_shortestWalk_63 : decode cX4_shortestWalk 63 = .ok (.istore 4, 2) := by decide +kernel
theorem dX4_shortestWalk_65 : decode cX4_shortestWalk 65 = .ok (.iconst 0, 1) := by decide +kernel
theorem dX4_shortestWalk_66 : decode cX4_shortestWalk 66 = .ok (.istore 5, 2) := by decide +kernel
theorem dX4_shortestWalk_68 : decode cX4_shortestWalk 68 = .ok (.iload 5, 2) := by decide +kernel
theorem dX4_shortestWalk_70 : decode cX4_shortestWalk 70 = .ok (.aload_n 2, 1) := by decide +kernel
theorem dX4_shortestWalk_71 : decode cX4_shortestWalk 71 = .ok (.getfield 176, 3) := by decide +kernel
theorem dX4_shortestWalk_74 : decode cX4_shortestWalk 74 = .ok (.if_icmp .ge 34, 3) := by decide +kernel
theorem dX4_shortestWalk_77 : decode cX4_shortestWalk 77 = .ok (.iload 4, 2) := by decide +kernel
theorem dX4_shortestWalk_79 : decode cX4_shortestWalk 79 = .ok (.aload_n 2, 1) := by decide +kernel
theorem dX4_shortestWalk_80 : decode cX4_shortestWalk 80 = .ok (.iload 5, 2) := by decide +kernel
theorem dX4_shortestWalk_82 : decode cX4_shortestWalk 82 = .ok (.invokevirtual 185, 3) := by decide +kernel
theorem dX4_shortestWalk_85 : decode cX4_shortestWalk 85 = .ok (.aload_n 3, 1) := by decide +kernel
theorem dX4_shortestWalk_86 : decode cX4_shortestWalk 86 = .ok (.aload_n 3, 1) := by decide +kernel
theorem dX4_shortestWalk_87 : decode cX4_shortestWalk 87 = .ok (.getfield 176, 3) := by decide +kernel
theorem dX4_shortestWalk_90 : decode cX4_shortestWalk 90 = .ok (.iconst 1, 1) := by decide +kernel
theorem dX4_shortestWalk_91 : decode cX4_shortestWalk 91 = .ok (.isub, 1) := by decide +kernel
theorem dX4_shortestWalk_92 : decode cX4_shortestWalk 92 = .ok (.iload 5, 2) := by decide +kernel
theorem dX4_shortestWalk_94 : decode cX4_shortestWalk 94 = .ok (.isub, 1) := by decide +kernel
theorem dX4_shortestWalk_95 : decode cX4_shortestWalk 95 = .ok (.invokevirtual 185, 3) := by decide +kernel
theorem dX4_shortestWalk_98 : decode cX4_shortestWalk 98 = .ok (.imul, 1) := by decide +kernel
theorem dX4_shortestWalk_99 : decode cX4_shortestWalk 99 = .ok (.iadd, 1) := by decide +kernel
theorem dX4_shortestWalk_100 : decode cX4_shortestWalk 100 = .ok (.istore 4, 2) := by decide +kernel
theorem dX4_shortestWalk_102 : decode cX4_shortestWalk 102 = .ok (.iinc 5 1, 3) := by decide +kernel
theorem dX4_shortestWalk_105 : decode cX4_shortestWalk 105 = .ok (.goto (-37), 3) := by decide +kernel
theorem dX4_shortestWalk_108 : decode cX4_shortestWalk 108 = .ok (.iload 4, 2) := by decide +kernel
theorem dX4_shortestWalk_110 : decode cX4_shortestWalk 110 = .ok (.ireturn, 1) := by decide +kernel
set_option maxRecDepth 20000 in
theorem ggX4_numberOfAccount_X4_presentSeason : GoodIn wsX4_numberOfAccount wsX4_presentSeason := goodIn_r _ [7, 8, 32, 33, 34, 35, 36, 37, 38, 39, 40, 41, 42, 43, 44] (by decide +kernel) (by decide +kernel)
set_option maxRecDepth 20000 in
theorem gX4_numberOfAccount_X4_presentSeason : GoodIn wsX4_numberOfAccount (wsV RX4 138 RX4 yX4_presentSeason wsX4_presentSeason) := goodIn_app (goodIn_of _ (by decide +kernel)) ggX4_numberOfAccount_X4_presentSeason
set_option maxRecDepth 20000 in
theorem ggX4_numberOfAccount_X4_weeklyWalk : GoodIn wsX4_numberOfAccount wsX4_weeklyWalk := goodIn_r _ [12, 13, 14, 15, 16, 17, 6, 18, 19, 20, 21, 22, 23, 24, 25, 26, 27, 28, 29, 30, 31, 32, 33, 34, 35, 36, 37, 38, 39, 40, 41, 42, 43, 44] (by decide +kernel) (by decide +kernel)
set_option maxRecDepth 20000 in
theorem gX4_numberOfAccount_X4_weeklyWalk : GoodIn wsX4_numberOfAccount (wsV RX4 188 RX4 yX4_weeklyWalk wsX4_weeklyWalk) := goodIn_app (goodIn_of _ (by decide +kernel)) ggX4_numberOfAccount_X4_weeklyWalk
theorem dX4_numberOfAccount_0 : decode cX4_numberOfAccount 0 = .ok (.iload_n 1, 1) := by decide +kernel
theorem dX4_numberOfAccount_1 : decode cX4_numberOfAccount 1 = .ok (.tableswitch 126 0 7 #[47, 55, 63, 71, 79, 90, 110, 118], 47) := by decide +kernel
theorem dX4_numberOfAccount_48 : decode cX4_numberOfAccount 48 = .ok (.aload_n 0, 1) := by decide +kernel
theorem dX4_numberOfAccount_49 : decode cX4_numberOfAccount 49 = .ok (.getfield 47, 3) := by decide +kernel
theorem dX4_numberOfAccount_52 : decode cX4_numberOfAccount 52 = .ok (.getfield 126, 3) := by decide +kernel
theorem dX4_numberOfAccount_55 : decode cX4_numberOfAccount 55 = .ok (.ireturn, 1) := by decide +kernel
theorem dX4_numberOfAccount_56 : decode cX4_numberOfAccount 56 = .ok (.aload_n 0, 1) := by decide +kernel
theorem dX4_numberOfAccount_57 : decode cX4_numberOfAccount 57 = .ok (.getfield 47, 3) := by decide +kernel
theorem dX4_numberOfAccount_60 : decode cX4_numberOfAccount 60 = .ok (.getfield 135, 3) := by decide +kernel
theorem dX4_numberOfAccount_63 : decode cX4_numberOfAccount 63 = .ok (.ireturn, 1) := by decide +kernel
theorem dX4_numberOfAccount_64 : decode cX4_numberOfAccount 64 = .ok (.aload_n 0, 1) := by decide +kernel
theorem dX4_numberOfAccount_65 : decode cX4_numberOfAccount 65 = .ok (.getfield 47, 3) := by decide +kernel
theorem dX4_numberOfAccount_68 : decode cX4_numberOfAccount 68 = .ok (.getfield 170, 3) := by decide +kernel
theorem dX4_numberOfAccount_71 : decode cX4_numberOfAccount 71 = .ok (.ireturn, 1) := by decide +kernel
theorem dX4_numberOfAccount_72 : decode cX4_numberOfAccount 72 = .ok (.aload_n 0, 1) := by decide +kernel
theorem dX4_numberOfAccount_73 : decode cX4_numberOfAccount 73 = .ok (.getfield 47, 3) := by decide +kernel
theorem dX4_numberOfAccount_76 : decode cX4_numberOfAccount 76 = .ok (.getfield 132, 3) := by decide +kernel
theorem dX4_numberOfAccount_79 : decode cX4_numberOfAccount 79 = .ok (.ireturn, 1) := by decide +kernel
theorem dX4_numberOfAccount_80 : decode cX4_numberOfAccount 80 = .ok (.ldc 145, 2) := by decide +kernel
theorem dX4_numberOfAccount_82 : decode cX4_numberOfAccount 82 = .ok (.aload_n 0, 1) := by decide +kernel
theorem dX4_numberOfAccount_83 : decode cX4_numberOfAccount 83 = .ok (.getfield 47, 3) := by decide +kernel
theorem dX4_numberOfAccount_86 : decode cX4_numberOfAccount 86 = .ok (.getfield 173, 3) := by decide +kernel
theorem dX4_numberOfAccount_89 : decode cX4_numberOfAccount 89 = .ok (.iadd, 1) := by decide +kernel
theorem dX4_numberOfAccount_90 : decode cX4_numberOfAccount 90 = .ok (.ireturn, 1) := by decide +kernel
theorem dX4_numberOfAccount_91 : decode cX4_numberOfAccount 91 = .ok (.ldc 145, 2) := by decide +kernel
theorem dX4_numberOfAccount_93 : decode cX4_numberOfAccount 93 = .ok (.aload_n 0, 1) := by decide +kernel
theorem dX4_numberOfAccount_94 : decode cX4_numberOfAccount 94 = .ok (.aload_n 0, 1) := by decide +kernel
theorem dX4_numberOfAccount_95 : decode cX4_numberOfAccount 95 = .ok (.invokevirtual 138, 3) := by decide +kernel
theorem dX4_numberOfAccount_98 : decode cX4_numberOfAccount 98 = .ok (.invokevirtual 188, 3) := by decide +kernel
theorem dX4_numberOfAccount_101 : decode cX4_numberOfAccount 101 = .ok (.iadd, 1) := by decide +kernel
theorem dX4_numberOfAccount_102 : decode cX4_numberOfAccount 102 = .ok (.aload_n 0, 1) := by decide +kernel
theorem dX4_numberOfAccount_103 : decode cX4_numberOfAccount 103 = .ok (.getfield 47, 3) := by decide +kernel
theorem dX4_numberOfAccount_106 : decode cX4_numberOfAccount 106 = .ok (.getfield 173, 3) := by decide +kernel
theorem dX4_numberOfAccount_109 : decode cX4_numberOfAccount 109 = .ok (.iadd, 1) := by decide +kernel
theorem dX4_numberOfAccount_110 : decode cX4_numberOfAccount 110 = .ok (.ireturn, 1) := by decide +kernel
theorem dX4_numberOfAccount_111 : decode cX4_numberOfAccount 111 = .ok (.aload_n 0, 1) := by decide +kernel
theorem dX4_numberOfAccount_112 : decode cX4_numberOfAccount 112 = .ok (.getfield 47, 3) := by decide +kernel
theorem dX4_numberOfAccount_115 : decode cX4_numberOfAccount 115 = .ok (.getfield 167, 3) := by decide +kernel
theorem dX4_numberOfAccount_118 : decode cX4_numberOfAccount 118 = .ok (.ireturn, 1) := by decide +kernel
theorem dX4_numberOfAccount_119 : decode cX4_numberOfAccount 119 = .ok (.aload_n 0, 1) := by decide +kernel
theorem dX4_numberOfAccount_120 : decode cX4_numberOfAccount 120 = .ok (.getfield 47, 3) := by decide +kernel
theorem dX4_numberOfAccount_123 : decode cX4_numberOfAccount 123 = .ok (.getfield 123, 3) := by decide +kernel
theorem dX4_numberOfAccount_126 : decode cX4_numberOfAccount 126 = .ok (.ireturn, 1) := by decide +kernel
theorem dX4_numberOfAccount_127 : decode cX4_numberOfAccount 127 = .ok (.iconst (-1), 1) := by decide +kernel
theorem dX4_numberOfAccount_128 : decode cX4_numberOfAccount 128 = .ok (.ireturn, 1) := by decide +kernel
set_option maxRecDepth 20000 in
theorem ggX4_numberOfWarehouse_X4_placedGoods : GoodIn wsX4_numberOfWarehouse wsX4_placedGoods := goodIn_r _ [10, 1, 3, 11, 12, 13, 9, 14, 15, 16, 17, 18, 19, 32, 33, 34, 35, 36, 37, 38, 39, 40, 41, 42, 43, 44] (by decide +kernel) (by decide +kernel)
set_option maxRecDepth 20000 in
theorem gX4_numberOfWarehouse_X4_placedGoods : GoodIn wsX4_numberOfWarehouse (wsV RX4 191 RX4 yX4_placedGoods wsX4_placedGoods) := goodIn_app (goodIn_of _ (by decide +kernel)) ggX4_numberOfWarehouse_X4_placedGoods
set_option maxRecDepth 20000 in
theorem ggX4_numberOfWarehouse_X4_presentSeason : GoodIn wsX4_numberOfWarehouse wsX4_presentSeason := goodIn_r _ [23, 2, 32, 33, 34, 35, 36, 37, 38, 39, 40, 41, 42, 43, 44] (by decide +kernel) (by decide +kernel)
set_option maxRecDepth 20000 in
theorem gX4_numberOfWarehouse_X4_presentSeason : GoodIn wsX4_numberOfWarehouse (wsV RX4 138 RX4 yX4_presentSeason wsX4_presentSeason) := goodIn_app (goodIn_of _ (by decide +kernel)) ggX4_numberOfWarehouse_X4_presentSeason
set_option maxRecDepth 20000 in
theorem ggX4_numberOfWarehouse_X4_weeksLeft : GoodIn wsX4_numberOfWarehouse wsX4_weeksLeft := goodIn_r _ [27, 2, 32, 33, 34, 35, 36, 37, 38, 39, 40, 41, 42, 43, 44] (by decide +kernel) (by decide +kernel)
set_option maxRecDepth 20000 in
theorem gX4_numberOfWarehouse_X4_weeksLeft : GoodIn wsX4_numberOfWarehouse (wsV RX4 164 RX4 yX4_weeksLeft wsX4_weeksLeft) := goodIn_app (goodIn_of _ (by decide +kernel)) ggX4_numberOfWarehouse_X4_weeksLeft
set_option maxRecDepth 20000 in
theorem ggX4_numberOfWarehouse_X4_sumOf : GoodIn wsX4_numberOfWarehouse wsX4_sumOf := goodIn_r _ [31, 1, 32, 33, 34, 35, 36, 37, 38, 39, 40, 41, 42, 43, 44] (by decide +kernel) (by decide +kernel)
set_option maxRecDepth 20000 in
theorem gX4_numberOfWarehouse_X4_sumOf : GoodIn wsX4_numberOfWarehouse (wsV RX4 195 RX4 yX4_sumOf wsX4_sumOf) := goodIn_app (goodIn_of _ (by decide +kernel)) ggX4_numberOfWarehouse_X4_sumOf
theorem dX4_numberOfWarehouse_0 : decode cX4_numberOfWarehouse 0 = .ok (.iload_n 1, 1) := by decide +kernel
theorem dX4_numberOfWarehouse_1 : decode cX4_numberOfWarehouse 1 = .ok (.tableswitch 167 0 22 #[107, 112, 118, 123, 128, 133, 142, 151, 167, 167, 167, 167, 167, 167, 167, 167, 167, 167, 167, 167, 157, 157, 157], 107) := by decide +kernel
theorem dX4_numberOfWarehouse_108 : decode cX4_numberOfWarehouse 108 = .ok (.aload_n 0, 1) := by decide +kernel
theorem dX4_numberOfWarehouse_109 : decode cX4_numberOfWarehouse 109 = .ok (.getfield 59, 3) := by decide +kernel
theorem dX4_numberOfWarehouse_112 : decode cX4_numberOfWarehouse 112 = .ok (.ireturn, 1) := by decide +kernel
theorem dX4_numberOfWarehouse_113 : decode cX4_numberOfWarehouse 113 = .ok (.aload_n 0, 1) := by decide +kernel
theorem dX4_numberOfWarehouse_114 : decode cX4_numberOfWarehouse 114 = .ok (.iconst 0, 1) := by decide +kernel
theorem dX4_numberOfWarehouse_115 : decode cX4_numberOfWarehouse 115 = .ok (.invokevirtual 191, 3) := by decide +kernel
theorem dX4_numberOfWarehouse_118 : decode cX4_numberOfWarehouse 118 = .ok (.ireturn, 1) := by decide +kernel
theorem dX4_numberOfWarehouse_119 : decode cX4_numberOfWarehouse 119 = .ok (.aload_n 0, 1) := by decide +kernel
theorem dX4_numberOfWarehouse_120 : decode cX4_numberOfWarehouse 120 = .ok (.getfield 63, 3) := by decide +kernel
theorem dX4_numberOfWarehouse_123 : decode cX4_numberOfWarehouse 123 = .ok (.ireturn, 1) := by decide +kernel
theorem dX4_numberOfWarehouse_124 : decode cX4_numberOfWarehouse 124 = .ok (.aload_n 0, 1) := by decide +kernel
theorem dX4_numberOfWarehouse_125 : decode cX4_numberOfWarehouse 125 = .ok (.invokevirtual 138, 3) := by decide +kernel
theorem dX4_numberOfWarehouse_128 : decode cX4_numberOfWarehouse 128 = .ok (.ireturn, 1) := by decide +kernel
theorem dX4_numberOfWarehouse_129 : decode cX4_numberOfWarehouse 129 = .ok (.aload_n 0, 1) := by decide +kernel
theorem dX4_numberOfWarehouse_130 : decode cX4_numberOfWarehouse 130 = .ok (.invokevirtual 164, 3) := by decide +kernel
theorem dX4_numberOfWarehouse_133 : decode cX4_numberOfWarehouse 133 = .ok (.ireturn, 1) := by decide +kernel
theorem dX4_numberOfWarehouse_134 : decode cX4_numberOfWarehouse 134 = .ok (.aload_n 0, 1) := by decide +kernel
theorem dX4_numberOfWarehouse_135 : decode cX4_numberOfWarehouse 135 = .ok (.aload_n 0, 1) := by decide +kernel
theorem dX4_numberOfWarehouse_136 : decode cX4_numberOfWarehouse 136 = .ok (.getfield 24, 3) := by decide +kernel
theorem dX4_numberOfWarehouse_139 : decode cX4_numberOfWarehouse 139 = .ok (.invokevirtual 195, 3) := by decide +kernel
theorem dX4_numberOfWarehouse_142 : decode cX4_numberOfWarehouse 142 = .ok (.ireturn, 1) := by decide +kernel
theorem dX4_numberOfWarehouse_143 : decode cX4_numberOfWarehouse 143 = .ok (.aload_n 0, 1) := by decide +kernel
theorem dX4_numberOfWarehouse_144 : decode cX4_numberOfWarehouse 144 = .ok (.aload_n 0, 1) := by decide +kernel
theorem dX4_numberOfWarehouse_145 : decode cX4_numberOfWarehouse 145 = .ok (.getfield 27, 3) := by decide +kernel
theorem dX4_numberOfWarehouse_148 : decode cX4_numberOfWarehouse 148 = .ok (.invokevirtual 195, 3) := by decide +kernel
theorem dX4_numberOfWarehouse_151 : decode cX4_numberOfWarehouse 151 = .ok (.ireturn, 1) := by decide +kernel
theorem dX4_numberOfWarehouse_152 : decode cX4_numberOfWarehouse 152 = .ok (.aload_n 0, 1) := by decide +kernel
theorem dX4_numberOfWarehouse_153 : decode cX4_numberOfWarehouse 153 = .ok (.iconst 1, 1) := by decide +kernel
theorem dX4_numberOfWarehouse_154 : decode cX4_numberOfWarehouse 154 = .ok (.invokevirtual 191, 3) := by decide +kernel
theorem dX4_numberOfWarehouse_157 : decode cX4_numberOfWarehouse 157 = .ok (.ireturn, 1) := by decide +kernel
theorem dX4_numberOfWarehouse_158 : decode cX4_numberOfWarehouse 158 = .ok (.aload_n 0, 1) := by decide +kernel
theorem dX4_numberOfWarehouse_159 : decode cX4_numberOfWarehouse 159 = .ok (.getfield 41, 3) := by decide +kernel
theorem dX4_numberOfWarehouse_162 : decode cX4_numberOfWarehouse 162 = .ok (.iload_n 1, 1) := by decide +kernel
theorem dX4_numberOfWarehouse_163 : decode cX4_numberOfWarehouse 163 = .ok (.bipush 20, 2) := by decide +kernel
theorem dX4_numberOfWarehouse_165 : decode cX4_numberOfWarehouse 165 = .ok (.isub, 1) := by decide +kernel
theorem dX4_numberOfWarehouse_166 : decode cX4_numberOfWarehouse 166 = .ok (.iaload, 1) := by decide +kernel
theorem dX4_numberOfWarehouse_167 : decode cX4_numberOfWarehouse 167 = .ok (.ireturn, 1) := by decide +kernel
theorem dX4_numberOfWarehouse_168 : decode cX4_numberOfWarehouse 168 = .ok (.iconst (-1), 1) := by decide +kernel
theorem dX4_numberOfWarehouse_169 : decode cX4_numberOfWarehouse 169 = .ok (.ireturn, 1) := by decide +kernel
set_option maxRecDepth 20000 in
theorem ggX4_placedGoods_X4_isPlaced : GoodIn wsX4_placedGoods wsX4_isPlaced := goodIn_r _ [7, 8, 9, 10, 11, 12, 13, 14, 15, 16, 17, 18, 19, 20, 21, 22, 23, 24, 25] (by decide +kernel) (by decide +kernel)
set_option maxRecDepth 20000 in
theorem gX4_placedGoods_X4_isPlaced : GoodIn wsX4_placedGoods (wsV RX4 100 RX4 yX4_isPlaced wsX4_isPlaced) := goodIn_app (goodIn_of _ (by decide +kernel)) ggX4_placedGoods_X4_isPlaced
theorem dX4_placedGoods_0 : decode cX4_placedGoods 0 = .ok (.iconst 0, 1) := by decide +kernel
theorem dX4_placedGoods_1 : decode cX4_placedGoods 1 = .ok (.istore_n 2, 1) := by decide +kernel
theorem dX4_placedGoods_2 : decode cX4_placedGoods 2 = .ok (.iconst 0, 1) := by decide +kernel
theorem dX4_placedGoods_3 : decode cX4_placedGoods 3 = .ok (.istore_n 3, 1) := by decide +kernel
theorem dX4_placedGoods_4 : decode cX4_placedGoods 4 = .ok (.iload_n 3, 1) := by decide +kernel
theorem dX4_placedGoods_5 : decode cX4_placedGoods 5 = .ok (.aload_n 0, 1) := by decide +kernel
theorem dX4_placedGoods_6 : decode cX4_placedGoods 6 = .ok (.getfield 59, 3) := by decide +kernel
theorem dX4_placedGoods_9 : decode cX4_placedGoods 9 = .ok (.if_icmp .ge 33, 3) := by decide +kernel
theorem dX4_placedGoods_12 : decode cX4_placedGoods 12 = .ok (.aload_n 0, 1) := by decide +kernel
theorem dX4_placedGoods_13 : decode cX4_placedGoods 13 = .ok (.iload_n 3, 1) := by decide +kernel
theorem dX4_placedGoods_14 : decode cX4_placedGoods 14 = .ok (.invokevirtual 100, 3) := by decide +kernel
theorem dX4_placedGoods_17 : decode cX4_placedGoods 17 = .ok (.ifCond .eq 19, 3) := by decide +kernel
theorem dX4_placedGoods_20 : decode cX4_placedGoods 20 = .ok (.iload_n 1, 1) := by decide +kernel
theorem dX4_placedGoods_21 : decode cX4_placedGoods 21 = .ok (.ifCond .eq 12, 3) := by decide +kernel
theorem dX4_placedGoods_24 : decode cX4_placedGoods 24 = .ok (.aload_n 0, 1) := by decide +kernel
theorem dX4_placedGoods_25 : decode cX4_placedGoods 25 = .ok (.getfield 24, 3) := by decide +kernel
theorem dX4_placedGoods_28 : decode cX4_placedGoods 28 = .ok (.iload_n 3, 1) := by decide +kernel
theorem dX4_placedGoods_29 : decode cX4_placedGoods 29 = .ok (.iaload, 1) := by decide +kernel
theorem dX4_placedGoods_30 : decode cX4_placedGoods 30 = .ok (.ifCond .ne 6, 3) := by decide +kernel
theorem dX4_placedGoods_33 : decode cX4_placedGoods 33 = .ok (.iinc 2 1, 3) := by decide +kernel
theorem dX4_placedGoods_36 : decode cX4_placedGoods 36 = .ok (.iinc 3 1, 3) := by decide +kernel
theorem dX4_placedGoods_39 : decode cX4_placedGoods 39 = .ok (.goto (-35), 3) := by decide +kernel
theorem dX4_placedGoods_42 : decode cX4_placedGoods 42 = .ok (.iload_n 2, 1) := by decide +kernel
theorem dX4_placedGoods_43 : decode cX4_placedGoods 43 = .ok (.ireturn, 1) := by decide +kernel
theorem dX4_sumOf_0 : decode cX4_sumOf 0 = .ok (.iconst 0, 1) := by decide +kernel
theorem dX4_sumOf_1 : decode cX4_sumOf 1 = .ok (.istore_n 2, 1) := by decide +kernel
theorem dX4_sumOf_2 : decode cX4_sumOf 2 = .ok (.iconst 0, 1) := by decide +kernel
theorem dX4_sumOf_3 : decode cX4_sumOf 3 = .ok (.istore_n 3, 1) := by decide +kernel
theorem dX4_sumOf_4 : decode cX4_sumOf 4 = .ok (.iload_n 3, 1) := by decide +kernel
theorem dX4_sumOf_5 : decode cX4_sumOf 5 = .ok (.aload_n 0, 1) := by decide +kernel
theorem dX4_sumOf_6 : decode cX4_sumOf 6 = .ok (.getfield 59, 3) := by decide +kernel
theorem dX4_sumOf_9 : decode cX4_sumOf 9 = .ok (.if_icmp .ge 21, 3) := by decide +kernel
theorem dX4_sumOf_12 : decode cX4_sumOf 12 = .ok (.iload_n 3, 1) := by decide +kernel
theorem dX4_sumOf_13 : decode cX4_sumOf 13 = .ok (.aload_n 1, 1) := by decide +kernel
theorem dX4_sumOf_14 : decode cX4_sumOf 14 = .ok (.arraylength, 1) := by decide +kernel
theorem dX4_sumOf_15 : decode cX4_sumOf 15 = .ok (.if_icmp .ge 15, 3) := by decide +kernel
theorem dX4_sumOf_18 : decode cX4_sumOf 18 = .ok (.iload_n 2, 1) := by decide +kernel
theorem dX4_sumOf_19 : decode cX4_sumOf 19 = .ok (.aload_n 1, 1) := by decide +kernel
theorem dX4_sumOf_20 : decode cX4_sumOf 20 = .ok (.iload_n 3, 1) := by decide +kernel
theorem dX4_sumOf_21 : decode cX4_sumOf 21 = .ok (.iaload, 1) := by decide +kernel
theorem dX4_sumOf_22 : decode cX4_sumOf 22 = .ok (.iadd, 1) := by decide +kernel
theorem dX4_sumOf_23 : decode cX4_sumOf 23 = .ok (.istore_n 2, 1) := by decide +kernel
theorem dX4_sumOf_24 : decode cX4_sumOf 24 = .ok (.iinc 3 1, 3) := by decide +kernel
theorem dX4_sumOf_27 : decode cX4_sumOf 27 = .ok (.goto (-23), 3) := by decide +kernel
theorem dX4_sumOf_30 : decode cX4_sumOf 30 = .ok (.iload_n 2, 1) := by decide +kernel
theorem dX4_sumOf_31 : decode cX4_sumOf 31 = .ok (.ireturn, 1) := by decide +kernel
set_option maxRecDepth 20000 in
theorem ggX4_changeSetting_X5_isIn : GoodIn wsX4_changeSetting wsX5_isIn := goodIn_r _ [6] (by decide +kernel) (by decide +kernel)
set_option maxRecDepth 20000 in
theorem gX4_changeSetting_X5_isIn_n86 : GoodIn wsX4_changeSetting (wsX5_isIn) := ggX4_changeSetting_X5_isIn
theorem dX4_changeSetting_0 : decode cX4_changeSetting 0 = .ok (.iload_n 1, 1) := by decide +kernel
theorem dX4_changeSetting_1 : decode cX4_changeSetting 1 = .ok (.iconst 0, 1) := by decide +kernel
theorem dX4_changeSetting_2 : decode cX4_changeSetting 2 = .ok (.iconst 2, 1) := by decide +kernel
theorem dX4_changeSetting_3 : decode cX4_changeSetting 3 = .ok (.invokestatic 86, 3) := by decide +kernel
theorem dX4_changeSetting_6 : decode cX4_changeSetting 6 = .ok (.ifCond .eq 20, 3) := by decide +kernel
theorem dX4_changeSetting_9 : decode cX4_changeSetting 9 = .ok (.iload_n 2, 1) := by decide +kernel
theorem dX4_changeSetting_10 : decode cX4_changeSetting 10 = .ok (.getstatic 199, 3) := by decide +kernel
theorem dX4_changeSetting_13 : decode cX4_changeSetting 13 = .ok (.iload_n 1, 1) := by decide +kernel
theorem dX4_changeSetting_14 : decode cX4_changeSetting 14 = .ok (.iaload, 1) := by decide +kernel
theorem dX4_changeSetting_15 : decode cX4_changeSetting 15 = .ok (.getstatic 202, 3) := by decide +kernel
theorem dX4_changeSetting_18 : decode cX4_changeSetting 18 = .ok (.iload_n 1, 1) := by decide +kernel
theorem dX4_changeSetting_19 : decode cX4_changeSetting 19 = .ok (.iaload, 1) := by decide +kernel
theorem dX4_changeSetting_20 : decode cX4_changeSetting 20 = .ok (.invokestatic 86, 3) := by decide +kernel
theorem dX4_changeSetting_23 : decode cX4_changeSetting 23 = .ok (.ifCond .ne 5, 3) := by decide +kernel
theorem dX4_changeSetting_26 : decode cX4_changeSetting 26 = .ok (.iconst (-1), 1) := by decide +kernel
theorem dX4_changeSetting_27 : decode cX4_changeSetting 27 = .ok (.ireturn, 1) := by decide +kernel
theorem dX4_changeSetting_28 : decode cX4_changeSetting 28 = .ok (.aload_n 0, 1) := by decide +kernel
theorem dX4_changeSetting_29 : decode cX4_changeSetting 29 = .ok (.getfield 41, 3) := by decide +kernel
theorem dX4_changeSetting_32 : decode cX4_changeSetting 32 = .ok (.iload_n 1, 1) := by decide +kernel
theorem dX4_changeSetting_33 : decode cX4_changeSetting 33 = .ok (.iaload, 1) := by decide +kernel
theorem dX4_changeSetting_34 : decode cX4_changeSetting 34 = .ok (.istore_n 3, 1) := by decide +kernel
theorem dX4_changeSetting_35 : decode cX4_changeSetting 35 = .ok (.aload_n 0, 1) := by decide +kernel
theorem dX4_changeSetting_36 : decode cX4_changeSetting 36 = .ok (.getfield 41, 3) := by decide +kernel
theorem dX4_changeSetting_39 : decode cX4_changeSetting 39 = .ok (.iload_n 1, 1) := by decide +kernel
theorem dX4_changeSetting_40 : decode cX4_changeSetting 40 = .ok (.iload_n 2, 1) := by decide +kernel
theorem dX4_changeSetting_41 : decode cX4_changeSetting 41 = .ok (.iastore, 1) := by decide +kernel
theorem dX4_changeSetting_42 : decode cX4_changeSetting 42 = .ok (.iload_n 3, 1) := by decide +kernel
theorem dX4_changeSetting_43 : decode cX4_changeSetting 43 = .ok (.ireturn, 1) := by decide +kernel
end
section
set_option maxRecDepth 20000 in
theorem ggX5_init_X1_init : GoodIn wsX5_init wsX1_init := goodIn_r _ [20, 21, 2, 3, 22, 23, 59, 60, 61, 62, 63, 64] (by decide +kernel) (by decide +kernel)
set_option maxRecDepth 20000 in
theorem gX5_init_X1_init_n17 : GoodIn wsX5_init (wsX1_init) := ggX5_init_X1_init
set_option maxRecDepth 20000 in
theorem ggX5_init_X3_init : GoodIn wsX5_init wsX3_init := goodIn_r _ [25, 26, 2, 3, 27, 28, 65, 66] (by decide +kernel) (by decide +kernel)
set_option maxRecDepth 20000 in
theorem gX5_init_X3_init_n24 : GoodIn wsX5_init (wsX3_init) := ggX5_init_X3_init
set_option maxRecDepth 20000 in
theorem ggX5_init_X4_init : GoodIn wsX5_init wsX4_init := goodIn_r _ [31, 32, 2, 3, 27, 33, 34, 35, 36, 37, 38, 39, 40, 41, 42, 43, 44, 45, 46, 47, 48, 49, 67, 68, 69, 70, 71, 72, 73, 74, 75, 76, 77, 78, 79, 80, 81, 82, 83, 84, 85, 86] (by decide +kernel) (by decide +kernel)
set_option maxRecDepth 20000 in
theorem gX5_init_X4_init : GoodIn wsX5_init (wsX4_init) := ggX5_init_X4_init
theorem dX5_init_0 : decode cX5_init 0 = .ok (.aload_n 0, 1) := by decide +kernel
theorem dX5_init_1 : decode cX5_init 1 = .ok (.invokespecial 1, 3) := by decide +kernel
theorem dX5_init_4 : decode cX5_init 4 = .ok (.aload_n 0, 1) := by decide +kernel
theorem dX5_init_5 : decode cX5_init 5 = .ok (.iconst 4, 1) := by decide +kernel
theorem dX5_init_6 : decode cX5_init 6 = .ok (.anewarray 9, 3) := by decide +kernel
theorem dX5_init_9 : decode cX5_init 9 = .ok (.putfield 11, 3) := by decide +kernel
theorem dX5_init_12 : decode cX5_init 12 = .ok (.aload_n 0, 1) := by decide +kernel
theorem dX5_init_13 : decode cX5_init 13 = .ok (.new 15, 3) := by decide +kernel
theorem dX5_init_16 : decode cX5_init 16 = .ok (.dup, 1) := by decide +kernel
theorem dX5_init_17 : decode cX5_init 17 = .ok (.invokespecial 17, 3) := by decide +kernel
theorem dX5_init_20 : decode cX5_init 20 = .ok (.putfield 18, 3) := by decide +kernel
theorem dX5_init_23 : decode cX5_init 23 = .ok (.aload_n 0, 1) := by decide +kernel
theorem dX5_init_24 : decode cX5_init 24 = .ok (.new 22, 3) := by decide +kernel
theorem dX5_init_27 : decode cX5_init 27 = .ok (.dup, 1) := by decide +kernel
theorem dX5_init_28 : decode cX5_init 28 = .ok (.invokespecial 24, 3) := by decide +kernel
theorem dX5_init_31 : decode cX5_init 31 = .ok (.putfield 25, 3) := by decide +kernel
theorem dX5_init_34 : decode cX5_init 34 = .ok (.aload_n 0, 1) := by decide +kernel
theorem dX5_init_35 : decode cX5_init 35 = .ok (.new 22, 3) := by decide +kernel
theorem dX5_init_38 : decode cX5_init 38 = .ok (.dup, 1) := by decide +kernel
theorem dX5_init_39 : decode cX5_init 39 = .ok (.invokespecial 24, 3) := by decide +kernel
theorem dX5_init_42 : decode cX5_init 42 = .ok (.putfield 29, 3) := by decide +kernel
theorem dX5_init_45 : decode cX5_init 45 = .ok (.aload_n 0, 1) := by decide +kernel
theorem dX5_init_46 : decode cX5_init 46 = .ok (.new 9, 3) := by decide +kernel
theorem dX5_init_49 : decode cX5_init 49 = .ok (.dup, 1) := by decide +kernel
theorem dX5_init_50 : decode cX5_init 50 = .ok (.invokespecial 32, 3) := by decide +kernel
theorem dX5_init_53 : decode cX5_init 53 = .ok (.putfield 33, 3) := by decide +kernel
theorem dX5_init_56 : decode cX5_init 56 = .ok (.aload_n 0, 1) := by decide +kernel
theorem dX5_init_57 : decode cX5_init 57 = .ok (.new 9, 3) := by decide +kernel
theorem dX5_init_60 : decode cX5_init 60 = .ok (.dup, 1) := by decide +kernel
theorem dX5_init_61 : decode cX5_init 61 = .ok (.invokespecial 32, 3) := by decide +kernel
theorem dX5_init_64 : decode cX5_init 64 = .ok (.putfield 37, 3) := by decide +kernel
theorem dX5_init_67 : decode cX5_init 67 = .ok (.iconst 0, 1) := by decide +kernel
theorem dX5_init_68 : decode cX5_init 68 = .ok (.istore_n 1, 1) := by decide +kernel
theorem dX5_init_69 : decode cX5_init 69 = .ok (.iload_n 1, 1) := by decide +kernel
theorem dX5_init_70 : decode cX5_init 70 = .ok (.iconst 4, 1) := by decide +kernel
theorem dX5_init_71 : decode cX5_init 71 = .ok (.if_icmp .ge 22, 3) := by decide +kernel
theorem dX5_init_74 : decode cX5_init 74 = .ok (.aload_n 0, 1) := by decide +kernel
theorem dX5_init_75 : decode cX5_init 75 = .ok (.getfield 11, 3) := by decide +kernel
theorem dX5_init_78 : decode cX5_init 78 = .ok (.iload_n 1, 1) := by decide +kernel
theorem dX5_init_79 : decode cX5_init 79 = .ok (.new 9, 3) := by decide +kernel
theorem dX5_init_82 : decode cX5_init 82 = .ok (.dup, 1) := by decide +kernel
theorem dX5_init_83 : decode cX5_init 83 = .ok (.invokespecial 32, 3) := by decide +kernel
theorem dX5_init_86 : decode cX5_init 86 = .ok (.aastore, 1) := by decide +kernel
theorem dX5_init_87 : decode cX5_init 87 = .ok (.iinc 1 1, 3) := by decide +kernel
theorem dX5_init_90 : decode cX5_init 90 = .ok (.goto (-21), 3) := by decide +kernel
theorem dX5_init_93 : decode cX5_init 93 = .ok (.return_, 1) := by decide +kernel
set_option maxRecDepth 20000 in
theorem ggX5_good_X5_startTrial : GoodIn wsX5_good wsX5_startTrial := goodIn_r _ [6, 1, 7, 8, 9, 10, 11, 12, 13, 14, 15, 16, 17, 18, 19, 20, 21, 22, 23, 24, 25, 26, 27, 28, 29, 30, 31, 32, 33, 34, 35, 36, 37, 38, 39, 40, 41, 42, 43, 44, 45, 46, 47, 48, 69, 70, 71, 72, 73, 74, 75, 76, 77, 78, 79, 80, 81, 82, 83, 84, 85, 86, 87, 88, 89, 90, 91, 92, 93, 94, 95, 96, 97] (by decide +kernel) (by decide +kernel)
set_option maxRecDepth 20000 in
theorem gX5_good_X5_startTrial : GoodIn wsX5_good (wsV RX5 40 RX5 yX5_startTrial wsX5_startTrial) := goodIn_app (goodIn_of _ (by decide +kernel)) ggX5_good_X5_startTrial
set_option maxRecDepth 20000 in
theorem ggX5_good_X4_addGood : GoodIn wsX5_good wsX4_addGood := goodIn_r _ [52, 24, 13, 14, 16, 53, 5, 54, 78, 79, 80, 81, 82, 83, 84, 85, 86, 87, 88, 89, 90] (by decide +kernel) (by decide +kernel)
set_option maxRecDepth 20000 in
theorem gX5_good_X4_addGood : GoodIn wsX5_good (wsV RX5 43 RX4 yX4_addGood wsX4_addGood) := goodIn_app (goodIn_of _ (by decide +kernel)) ggX5_good_X4_addGood
set_option maxRecDepth 20000 in
theorem ggX5_good_X5_endTrial : GoodIn wsX5_good wsX5_endTrial := goodIn_r _ [58, 59, 60, 61, 5, 62, 63, 64, 7, 1, 65, 66, 67, 68, 69, 70, 71, 72, 73, 74, 75, 76, 77] (by decide +kernel) (by decide +kernel)
set_option maxRecDepth 20000 in
theorem gX5_good_X5_endTrial : GoodIn wsX5_good (wsV RX5 47 RX5 yX5_endTrial wsX5_endTrial) := goodIn_app (goodIn_of _ (by decide +kernel)) ggX5_good_X5_endTrial
theorem dX5_good_0 : decode cX5_good 0 = .ok (.aload_n 0, 1) := by decide +kernel
theorem dX5_good_1 : decode cX5_good 1 = .ok (.invokevirtual 40, 3) := by decide +kernel
theorem dX5_good_4 : decode cX5_good 4 = .ok (.aload_n 0, 1) := by decide +kernel
theorem dX5_good_5 : decode cX5_good 5 = .ok (.aload_n 0, 1) := by decide +kernel
theorem dX5_good_6 : decode cX5_good 6 = .ok (.getfield 37, 3) := by decide +kernel
theorem dX5_good_9 : decode cX5_good 9 = .ok (.iload_n 1, 1) := by decide +kernel
theorem dX5_good_10 : decode cX5_good 10 = .ok (.iload_n 2, 1) := by decide +kernel
theorem dX5_good_11 : decode cX5_good 11 = .ok (.invokevirtual 43, 3) := by decide +kernel
theorem dX5_good_14 : decode cX5_good 14 = .ok (.invokevirtual 47, 3) := by decide +kernel
theorem dX5_good_17 : decode cX5_good 17 = .ok (.ireturn, 1) := by decide +kernel
set_option maxRecDepth 20000 in
theorem ggX5_demand_X5_startTrial : GoodIn wsX5_demand wsX5_startTrial := goodIn_r _ [6, 1, 7, 8, 9, 10, 11, 12, 13, 14, 15, 16, 17, 18, 19, 20, 21, 22, 23, 24, 25, 26, 27, 28, 29, 30, 31, 32, 33, 34, 35, 36, 37, 38, 39, 40, 41, 42, 43, 44, 45, 46, 47, 48, 79, 80, 81, 82, 83, 84, 85, 86, 87, 88, 89, 90, 91, 92, 93, 94, 95, 96, 97, 98, 99, 100, 101, 102, 103, 104, 105, 106, 107] (by decide +kernel) (by decide +kernel)
set_option maxRecDepth 20000 in
theorem gX5_demand_X5_startTrial : GoodIn wsX5_demand (wsV RX5 40 RX5 yX5_startTrial wsX5_startTrial) := goodIn_app (goodIn_of _ (by decide +kernel)) ggX5_demand_X5_startTrial
set_option maxRecDepth 20000 in
theorem ggX5_demand_X4_changeDemand : GoodIn wsX5_demand wsX4_changeDemand := goodIn_r _ [52, 15, 53, 54, 55, 11, 56, 24, 57, 5, 58, 59, 60, 61, 62, 63, 64, 88, 89, 90, 91, 92, 93, 94, 95, 96, 97, 98, 99, 100] (by decide +kernel) (by decide +kernel)
set_option maxRecDepth 20000 in
theorem gX5_demand_X4_changeDemand : GoodIn wsX5_demand (wsV RX5 51 RX4 yX4_changeDemand wsX4_changeDemand) := goodIn_app (goodIn_of _ (by decide +kernel)) ggX5_demand_X4_changeDemand
set_option maxRecDepth 20000 in
theorem ggX5_demand_X5_endTrial : GoodIn wsX5_demand wsX5_endTrial := goodIn_r _ [68, 69, 70, 71, 5, 72, 73, 74, 7, 1, 75, 76, 77, 78, 79, 80, 81, 82, 83, 84, 85, 86, 87] (by decide +kernel) (by decide +kernel)
set_option maxRecDepth 20000 in
theorem gX5_demand_X5_endTrial : GoodIn wsX5_demand (wsV RX5 47 RX5 yX5_endTrial wsX5_endTrial) := goodIn_app (goodIn_of _ (by decide +kernel)) ggX5_demand_X5_endTrial
theorem dX5_demand_0 : decode cX5_demand 0 = .ok (.aload_n 0, 1) := by decide +kernel
theorem dX5_demand_1 : decode cX5_demand 1 = .ok (.invokevirtual 40, 3) := by decide +kernel
theorem dX5_demand_4 : decode cX5_demand 4 = .ok (.aload_n 0, 1) := by decide +kernel
theorem dX5_demand_5 : decode cX5_demand 5 = .ok (.aload_n 0, 1) := by decide +kernel
theorem dX5_demand_6 : decode cX5_demand 6 = .ok (.getfield 37, 3) := by decide +kernel
theorem dX5_demand_9 : decode cX5_demand 9 = .ok (.iload_n 1, 1) := by decide +kernel
theorem dX5_demand_10 : decode cX5_demand 10 = .ok (.iload_n 2, 1) := by decide +kernel
theorem dX5_demand_11 : decode cX5_demand 11 = .ok (.iload_n 3, 1) := by decide +kernel
theorem dX5_demand_12 : decode cX5_demand 12 = .ok (.invokevirtual 51, 3) := by decide +kernel
theorem dX5_demand_15 : decode cX5_demand 15 = .ok (.invokevirtual 47, 3) := by decide +kernel
theorem dX5_demand_18 : decode cX5_demand 18 = .ok (.ireturn, 1) := by decide +kernel
set_option maxRecDepth 20000 in
theorem ggX5_deliver_X5_startTrial : GoodIn wsX5_deliver wsX5_startTrial := goodIn_r _ [6, 1, 7, 8, 9, 10, 11, 12, 13, 14, 15, 16, 17, 18, 19, 20, 21, 22, 23, 24, 25, 26, 27, 28, 29, 30, 31, 32, 33, 34, 35, 36, 37, 38, 39, 40, 41, 42, 43, 44, 45, 46, 47, 48, 74, 75, 76, 77, 78, 79, 80, 81, 82, 83, 84, 85, 86, 87, 88, 89, 90, 91, 92, 93, 94, 95, 96, 97, 98, 99, 100, 101, 102] (by decide +kernel) (by decide +kernel)
set_option maxRecDepth 20000 in
theorem gX5_deliver_X5_startTrial : GoodIn wsX5_deliver (wsV RX5 40 RX5 yX5_startTrial wsX5_startTrial) := goodIn_app (goodIn_of _ (by decide +kernel)) ggX5_deliver_X5_startTrial
set_option maxRecDepth 20000 in
theorem ggX5_deliver_X4_addToStore : GoodIn wsX5_deliver wsX4_addToStore := goodIn_r _ [52, 18, 53, 54, 55, 56, 11, 57, 24, 58, 5, 59, 83, 84, 85, 86, 87, 88, 89, 90, 91, 92, 93, 94, 95] (by decide +kernel) (by decide +kernel)
set_option maxRecDepth 20000 in
theorem gX5_deliver_X4_addToStore : GoodIn wsX5_deliver (wsV RX5 55 RX4 yX4_addToStore wsX4_addToStore) := goodIn_app (goodIn_of _ (by decide +kernel)) ggX5_deliver_X4_addToStore
set_option maxRecDepth 20000 in
theorem ggX5_deliver_X5_endTrial : GoodIn wsX5_deliver wsX5_endTrial := goodIn_r _ [63, 64, 65, 66, 5, 67, 68, 69, 7, 1, 70, 71, 72, 73, 74, 75, 76, 77, 78, 79, 80, 81, 82] (by decide +kernel) (by decide +kernel)
set_option maxRecDepth 20000 in
theorem gX5_deliver_X5_endTrial : GoodIn wsX5_deliver (wsV RX5 47 RX5 yX5_endTrial wsX5_endTrial) := goodIn_app (goodIn_of _ (by decide +kernel)) ggX5_deliver_X5_endTrial
theorem dX5_deliver_0 : decode cX5_deliver 0 = .ok (.aload_n 0, 1) := by decide +kernel
theorem dX5_deliver_1 : decode cX5_deliver 1 = .ok (.invokevirtual 40, 3) := by decide +kernel
theorem dX5_deliver_4 : decode cX5_deliver 4 = .ok (.aload_n 0, 1) := by decide +kernel
theorem dX5_deliver_5 : decode cX5_deliver 5 = .ok (.aload_n 0, 1) := by decide +kernel
theorem dX5_deliver_6 : decode cX5_deliver 6 = .ok (.getfield 37, 3) := by decide +kernel
theorem dX5_deliver_9 : decode cX5_deliver 9 = .ok (.iload_n 1, 1) := by decide +kernel
theorem dX5_deliver_10 : decode cX5_deliver 10 = .ok (.iload_n 2, 1) := by decide +kernel
theorem dX5_deliver_11 : decode cX5_deliver 11 = .ok (.invokevirtual 55, 3) := by decide +kernel
theorem dX5_deliver_14 : decode cX5_deliver 14 = .ok (.invokevirtual 47, 3) := by decide +kernel
theorem dX5_deliver_17 : decode cX5_deliver 17 = .ok (.ireturn, 1) := by decide +kernel
set_option maxRecDepth 20000 in
theorem ggX5_place_X5_startTrial : GoodIn wsX5_place wsX5_startTrial := goodIn_r _ [6, 1, 7, 8, 9, 10, 11, 12, 13, 14, 15, 16, 17, 18, 19, 20, 21, 22, 23, 24, 25, 26, 27, 28, 29, 30, 31, 32, 33, 34, 35, 36, 37, 38, 39, 40, 41, 42, 43, 44, 45, 46, 47, 48, 95, 96, 97, 98, 99, 100, 101, 102, 103, 104, 105, 106, 107, 108, 109, 110, 111, 112, 113, 114, 115, 116, 117, 118, 119, 120, 121, 122, 123] (by decide +kernel) (by decide +kernel)
set_option maxRecDepth 20000 in
theorem gX5_place_X5_startTrial : GoodIn wsX5_place (wsV RX5 40 RX5 yX5_startTrial wsX5_startTrial) := goodIn_app (goodIn_of _ (by decide +kernel)) ggX5_place_X5_startTrial
set_option maxRecDepth 20000 in
theorem ggX5_place_X4_putIntoSlot : GoodIn wsX5_place wsX4_putIntoSlot := goodIn_r _ [52, 21, 53, 54, 55, 11, 56, 24, 57, 58, 59, 60, 61, 62, 63, 64, 16, 65, 66, 67, 68, 13, 69, 70, 71, 72, 73, 74, 75, 76, 77, 78, 79, 80, 104, 105, 106, 107, 108, 109, 110, 111, 112, 113, 114, 115, 116] (by decide +kernel) (by decide +kernel)
set_option maxRecDepth 20000 in
theorem gX5_place_X4_putIntoSlot : GoodIn wsX5_place (wsV RX5 58 RX4 yX4_putIntoSlot wsX4_putIntoSlot) := goodIn_app (goodIn_of _ (by decide +kernel)) ggX5_place_X4_putIntoSlot
set_option maxRecDepth 20000 in
theorem ggX5_place_X5_endTrial : GoodIn wsX5_place wsX5_endTrial := goodIn_r _ [84, 85, 86, 87, 5, 88, 89, 90, 7, 1, 91, 92, 93, 94, 95, 96, 97, 98, 99, 100, 101, 102, 103] (by decide +kernel) (by decide +kernel)
set_option maxRecDepth 20000 in
theorem gX5_place_X5_endTrial : GoodIn wsX5_place (wsV RX5 47 RX5 yX5_endTrial wsX5_endTrial) := goodIn_app (goodIn_of _ (by decide +kernel)) ggX5_place_X5_endTrial
theorem dX5_place_0 : decode cX5_place 0 = .ok (.aload_n 0, 1) := by decide +kernel
theorem dX5_place_1 : decode cX5_place 1 = .ok (.invokevirtual 40, 3) := by decide +kernel
theorem dX5_place_4 : decode cX5_place 4 = .ok (.aload_n 0, 1) := by decide +kernel
theorem dX5_place_5 : decode cX5_place 5 = .ok (.aload_n 0, 1) := by decide +kernel
theorem dX5_place_6 : decode cX5_place 6 = .ok (.getfield 37, 3) := by decide +kernel
theorem dX5_place_9 : decode cX5_place 9 = .ok (.iload_n 1, 1) := by decide +kernel
theorem dX5_place_10 : decode cX5_place 10 = .ok (.iload_n 2, 1) := by decide +kernel
theorem dX5_place_11 : decode cX5_place 11 = .ok (.invokevirtual 58, 3) := by decide +kernel
theorem dX5_place_14 : decode cX5_place 14 = .ok (.invokevirtual 47, 3) := by decide +kernel
theorem dX5_place_17 : decode cX5_place 17 = .ok (.ireturn, 1) := by decide +kernel
set_option maxRecDepth 20000 in
theorem ggX5_take_X5_startTrial : GoodIn wsX5_take wsX5_startTrial := goodIn_r _ [6, 1, 7, 8, 9, 10, 11, 12, 13, 14, 15, 16, 17, 18, 19, 20, 21, 22, 23, 24, 25, 26, 27, 28, 29, 30, 31, 32, 33, 34, 35, 36, 37, 38, 39, 40, 41, 42, 43, 44, 45, 46, 47, 48, 79, 80, 81, 82, 83, 84, 85, 86, 87, 88, 89, 90, 91, 92, 93, 94, 95, 96, 97, 98, 99, 100, 101, 102, 103, 104, 105, 106, 107] (by decide +kernel) (by decide +kernel)
set_option maxRecDepth 20000 in
theorem gX5_take_X5_startTrial : GoodIn wsX5_take (wsV RX5 40 RX5 yX5_startTrial wsX5_startTrial) := goodIn_app (goodIn_of _ (by decide +kernel)) ggX5_take_X5_startTrial
set_option maxRecDepth 20000 in
theorem ggX5_take_X4_takeOutOfSlot : GoodIn wsX5_take wsX4_takeOutOfSlot := goodIn_r _ [52, 17, 18, 21, 16, 53, 54, 55, 11, 56, 24, 57, 58, 59, 60, 61, 62, 63, 64, 88, 89, 90, 91, 92, 93, 94, 95, 96, 97, 98, 99, 100] (by decide +kernel) (by decide +kernel)
set_option maxRecDepth 20000 in
theorem gX5_take_X4_takeOutOfSlot : GoodIn wsX5_take (wsV RX5 61 RX4 yX4_takeOutOfSlot wsX4_takeOutOfSlot) := goodIn_app (goodIn_of _ (by decide +kernel)) ggX5_take_X4_takeOutOfSlot
set_option maxRecDepth 20000 in
theorem ggX5_take_X5_endTrial : GoodIn wsX5_take wsX5_endTrial := goodIn_r _ [68, 69, 70, 71, 5, 72, 73, 74, 7, 1, 75, 76, 77, 78, 79, 80, 81, 82, 83, 84, 85, 86, 87] (by decide +kernel) (by decide +kernel)
set_option maxRecDepth 20000 in
theorem gX5_take_X5_endTrial : GoodIn wsX5_take (wsV RX5 47 RX5 yX5_endTrial wsX5_endTrial) := goodIn_app (goodIn_of _ (by decide +kernel)) ggX5_take_X5_endTrial
theorem dX5_take_0 : decode cX5_take 0 = .ok (.aload_n 0, 1) := by decide +kernel
theorem dX5_take_1 : decode cX5_take 1 = .ok (.invokevirtual 40, 3) := by decide +kernel
theorem dX5_take_4 : decode cX5_take 4 = .ok (.aload_n 0, 1) := by decide +kernel
theorem dX5_take_5 : decode cX5_take 5 = .ok (.aload_n 0, 1) := by decide +kernel
theorem dX5_take_6 : decode cX5_take 6 = .ok (.getfield 37, 3) := by decide +kernel
theorem dX5_take_9 : decode cX5_take 9 = .ok (.iload_n 1, 1) := by decide +kernel
theorem dX5_take_10 : decode cX5_take 10 = .ok (.invokevirtual 61, 3) := by decide +kernel
theorem dX5_take_13 : decode cX5_take 13 = .ok (.invokevirtual 47, 3) := by decide +kernel
theorem dX5_take_16 : decode cX5_take 16 = .ok (.ireturn, 1) := by decide +kernel
set_option maxRecDepth 20000 in
theorem ggX5_goodOf_X4_numberOfGood : GoodIn wsX5_goodOf wsX4_numberOfGood := goodIn_r _ [6, 7, 8, 9, 10, 11, 12, 13, 14, 15, 16, 5, 17, 18, 19, 20, 21, 22, 23, 24, 25, 26, 27, 28, 29, 30, 31, 32, 33, 34, 35, 36, 37, 38, 48, 49, 50, 51, 52, 53, 54, 55, 56, 57, 58, 59, 60] (by decide +kernel) (by decide +kernel)
set_option maxRecDepth 20000 in
theorem gX5_goodOf_X4_numberOfGood : GoodIn wsX5_goodOf (wsV RX5 64 RX4 yX4_numberOfGood wsX4_numberOfGood) := goodIn_app (goodIn_of _ (by decide +kernel)) ggX5_goodOf_X4_numberOfGood
theorem dX5_goodOf_0 : decode cX5_goodOf 0 = .ok (.aload_n 0, 1) := by decide +kernel
theorem dX5_goodOf_1 : decode cX5_goodOf 1 = .ok (.getfield 33, 3) := by decide +kernel
theorem dX5_goodOf_4 : decode cX5_goodOf 4 = .ok (.iload_n 1, 1) := by decide +kernel
theorem dX5_goodOf_5 : decode cX5_goodOf 5 = .ok (.iload_n 2, 1) := by decide +kernel
theorem dX5_goodOf_6 : decode cX5_goodOf 6 = .ok (.invokevirtual 64, 3) := by decide +kernel
theorem dX5_goodOf_9 : decode cX5_goodOf 9 = .ok (.ireturn, 1) := by decide +kernel
set_option maxRecDepth 20000 in
theorem ggX5_slotOf_X4_numberOfSlot : GoodIn wsX5_slotOf wsX4_numberOfSlot := goodIn_r _ [6, 7, 8, 9, 10, 11, 12, 13, 14, 5, 15, 16, 17, 18, 19, 20, 21, 22, 23, 24, 34, 35, 36, 37, 38, 39, 40, 41, 42, 43, 44, 45, 46] (by decide +kernel) (by decide +kernel)
set_option maxRecDepth 20000 in
theorem gX5_slotOf_X4_numberOfSlot : GoodIn wsX5_slotOf (wsV RX5 67 RX4 yX4_numberOfSlot wsX4_numberOfSlot) := goodIn_app (goodIn_of _ (by decide +kernel)) ggX5_slotOf_X4_numberOfSlot
theorem dX5_slotOf_0 : decode cX5_slotOf 0 = .ok (.aload_n 0, 1) := by decide +kernel
theorem dX5_slotOf_1 : decode cX5_slotOf 1 = .ok (.getfield 33, 3) := by decide +kernel
theorem dX5_slotOf_4 : decode cX5_slotOf 4 = .ok (.iload_n 1, 1) := by decide +kernel
theorem dX5_slotOf_5 : decode cX5_slotOf 5 = .ok (.iload_n 2, 1) := by decide +kernel
theorem dX5_slotOf_6 : decode cX5_slotOf 6 = .ok (.invokevirtual 67, 3) := by decide +kernel
theorem dX5_slotOf_9 : decode cX5_slotOf 9 = .ok (.ireturn, 1) := by decide +kernel
set_option maxRecDepth 20000 in
theorem ggX5_nearest_X4_nearestFreeSlot : GoodIn wsX5_nearest wsX4_nearestFreeSlot := goodIn_r _ [6, 7, 8, 9, 10, 5, 11, 12, 13, 14, 15, 16, 17, 18, 19, 20, 21, 22, 23, 24, 25, 26, 36, 37, 38, 39, 40, 41, 42, 43, 44, 45, 46, 47, 48] (by decide +kernel) (by decide +kernel)
set_option maxRecDepth 20000 in
theorem gX5_nearest_X4_nearestFreeSlot : GoodIn wsX5_nearest (wsV RX5 70 RX4 yX4_nearestFreeSlot wsX4_nearestFreeSlot) := goodIn_app (goodIn_of _ (by decide +kernel)) ggX5_nearest_X4_nearestFreeSlot
theorem dX5_nearest_0 : decode cX5_nearest 0 = .ok (.aload_n 0, 1) := by decide +kernel
theorem dX5_nearest_1 : decode cX5_nearest 1 = .ok (.getfield 33, 3) := by decide +kernel
theorem dX5_nearest_4 : decode cX5_nearest 4 = .ok (.iload_n 1, 1) := by decide +kernel
theorem dX5_nearest_5 : decode cX5_nearest 5 = .ok (.invokevirtual 70, 3) := by decide +kernel
theorem dX5_nearest_8 : decode cX5_nearest 8 = .ok (.ireturn, 1) := by decide +kernel
set_option maxRecDepth 20000 in
theorem ggX5_pick_X5_startTrial : GoodIn wsX5_pick wsX5_startTrial := goodIn_r _ [6, 1, 7, 8, 9, 10, 11, 12, 13, 14, 15, 16, 17, 18, 19, 20, 21, 22, 23, 24, 25, 26, 27, 28, 29, 30, 31, 32, 33, 34, 35, 36, 37, 38, 39, 40, 41, 42, 43, 44, 45, 46, 47, 48, 97, 98, 99, 100, 101, 102, 103, 104, 105, 106, 107, 108, 109, 110, 111, 112, 113, 114, 115, 116, 117, 118, 119, 120, 121, 122, 123, 124, 125] (by decide +kernel) (by decide +kernel)
set_option maxRecDepth 20000 in
theorem gX5_pick_X5_startTrial : GoodIn wsX5_pick (wsV RX5 40 RX5 yX5_startTrial wsX5_startTrial) := goodIn_app (goodIn_of _ (by decide +kernel)) ggX5_pick_X5_startTrial
set_option maxRecDepth 20000 in
theorem ggX5_pick_X4_pickUnits : GoodIn wsX5_pick wsX4_pickUnits := goodIn_r _ [52, 17, 22, 16, 20, 19, 23, 53, 54, 55, 11, 56, 24, 57, 5, 58, 59, 60, 61, 62, 63, 64, 65, 66, 67, 68, 69, 70, 14, 18, 29, 30, 31, 32, 71, 72, 73, 74, 13, 75, 76, 77, 78, 79, 80, 81, 82, 106, 107, 108, 109, 110, 111, 112, 113, 114, 115, 116, 117, 118, 119, 120, 121, 122, 123, 124, 125] (by decide +kernel) (by decide +kernel)
set_option maxRecDepth 20000 in
theorem gX5_pick_X4_pickUnits : GoodIn wsX5_pick (wsV RX5 73 RX4 yX4_pickUnits wsX4_pickUnits) := goodIn_app (goodIn_of _ (by decide +kernel)) ggX5_pick_X4_pickUnits
set_option maxRecDepth 20000 in
theorem ggX5_pick_X5_endTrial : GoodIn wsX5_pick wsX5_endTrial := goodIn_r _ [86, 87, 88, 89, 5, 90, 91, 92, 7, 1, 93, 94, 95, 96, 97, 98, 99, 100, 101, 102, 103, 104, 105] (by decide +kernel) (by decide +kernel)
set_option maxRecDepth 20000 in
theorem gX5_pick_X5_endTrial : GoodIn wsX5_pick (wsV RX5 47 RX5 yX5_endTrial wsX5_endTrial) := goodIn_app (goodIn_of _ (by decide +kernel)) ggX5_pick_X5_endTrial
theorem dX5_pick_0 : decode cX5_pick 0 = .ok (.aload_n 0, 1) := by decide +kernel
theorem dX5_pick_1 : decode cX5_pick 1 = .ok (.invokevirtual 40, 3) := by decide +kernel
theorem dX5_pick_4 : decode cX5_pick 4 = .ok (.aload_n 0, 1) := by decide +kernel
theorem dX5_pick_5 : decode cX5_pick 5 = .ok (.aload_n 0, 1) := by decide +kernel
theorem dX5_pick_6 : decode cX5_pick 6 = .ok (.getfield 37, 3) := by decide +kernel
theorem dX5_pick_9 : decode cX5_pick 9 = .ok (.iload_n 1, 1) := by decide +kernel
theorem dX5_pick_10 : decode cX5_pick 10 = .ok (.iload_n 2, 1) := by decide +kernel
theorem dX5_pick_11 : decode cX5_pick 11 = .ok (.invokevirtual 73, 3) := by decide +kernel
theorem dX5_pick_14 : decode cX5_pick 14 = .ok (.invokevirtual 47, 3) := by decide +kernel
theorem dX5_pick_17 : decode cX5_pick 17 = .ok (.ireturn, 1) := by decide +kernel
set_option maxRecDepth 20000 in
theorem ggX5_refill_X5_startTrial : GoodIn wsX5_refill wsX5_startTrial := goodIn_r _ [6, 1, 7, 8, 9, 10, 11, 12, 13, 14, 15, 16, 17, 18, 19, 20, 21, 22, 23, 24, 25, 26, 27, 28, 29, 30, 31, 32, 33, 34, 35, 36, 37, 38, 39, 40, 41, 42, 43, 44, 45, 46, 47, 48, 95, 96, 97, 98, 99, 100, 101, 102, 103, 104, 105, 106, 107, 108, 109, 110, 111, 112, 113, 114, 115, 116, 117, 118, 119, 120, 121, 122, 123] (by decide +kernel) (by decide +kernel)
set_option maxRecDepth 20000 in
theorem gX5_refill_X5_startTrial : GoodIn wsX5_refill (wsV RX5 40 RX5 yX5_startTrial wsX5_startTrial) := goodIn_app (goodIn_of _ (by decide +kernel)) ggX5_refill_X5_startTrial
set_option maxRecDepth 20000 in
theorem ggX5_refill_X4_refillSlot : GoodIn wsX5_refill wsX4_refillSlot := goodIn_r _ [52, 53, 54, 55, 11, 56, 24, 57, 58, 59, 60, 16, 61, 62, 63, 64, 65, 66, 67, 68, 14, 17, 18, 29, 30, 31, 32, 69, 70, 71, 72, 13, 22, 23, 73, 74, 75, 76, 77, 78, 79, 80, 104, 105, 106, 107, 108, 109, 110, 111, 112, 113, 114, 115, 116, 117, 118, 119, 120, 121, 122, 123] (by decide +kernel) (by decide +kernel)
set_option maxRecDepth 20000 in
theorem gX5_refill_X4_refillSlot : GoodIn wsX5_refill (wsV RX5 76 RX4 yX4_refillSlot wsX4_refillSlot) := goodIn_app (goodIn_of _ (by decide +kernel)) ggX5_refill_X4_refillSlot
set_option maxRecDepth 20000 in
theorem ggX5_refill_X5_endTrial : GoodIn wsX5_refill wsX5_endTrial := goodIn_r _ [84, 85, 86, 87, 5, 88, 89, 90, 7, 1, 91, 92, 93, 94, 95, 96, 97, 98, 99, 100, 101, 102, 103] (by decide +kernel) (by decide +kernel)
set_option maxRecDepth 20000 in
theorem gX5_refill_X5_endTrial : GoodIn wsX5_refill (wsV RX5 47 RX5 yX5_endTrial wsX5_endTrial) := goodIn_app (goodIn_of _ (by decide +kernel)) ggX5_refill_X5_endTrial
theorem dX5_refill_0 : decode cX5_refill 0 = .ok (.aload_n 0, 1) := by decide +kernel
theorem dX5_refill_1 : decode cX5_refill 1 = .ok (.invokevirtual 40, 3) := by decide +kernel
theorem dX5_refill_4 : decode cX5_refill 4 = .ok (.aload_n 0, 1) := by decide +kernel
theorem dX5_refill_5 : decode cX5_refill 5 = .ok (.aload_n 0, 1) := by decide +kernel
theorem dX5_refill_6 : decode cX5_refill 6 = .ok (.getfield 37, 3) := by decide +kernel
theorem dX5_refill_9 : decode cX5_refill 9 = .ok (.iload_n 1, 1) := by decide +kernel
theorem dX5_refill_10 : decode cX5_refill 10 = .ok (.invokevirtual 76, 3) := by decide +kernel
theorem dX5_refill_13 : decode cX5_refill 13 = .ok (.invokevirtual 47, 3) := by decide +kernel
theorem dX5_refill_16 : decode cX5_refill 16 = .ok (.ireturn, 1) := by decide +kernel
set_option maxRecDepth 20000 in
theorem ggX5_endWeek_X5_startTrial : GoodIn wsX5_endWeek wsX5_startTrial := goodIn_r _ [6, 1, 7, 8, 9, 10, 11, 12, 13, 14, 15, 16, 17, 18, 19, 20, 21, 22, 23, 24, 25, 26, 27, 28, 29, 30, 31, 32, 33, 34, 35, 36, 37, 38, 39, 40, 41, 42, 43, 44, 45, 46, 47, 48, 75, 76, 77, 78, 79, 80, 81, 82, 83, 84, 85, 86, 87, 88, 89, 90, 91, 92, 93, 94, 95, 96, 97, 98, 99, 100, 101, 102, 103] (by decide +kernel) (by decide +kernel)
set_option maxRecDepth 20000 in
theorem gX5_endWeek_X5_startTrial : GoodIn wsX5_endWeek (wsV RX5 40 RX5 yX5_startTrial wsX5_startTrial) := goodIn_app (goodIn_of _ (by decide +kernel)) ggX5_endWeek_X5_startTrial
set_option maxRecDepth 20000 in
theorem ggX5_endWeek_X4_finishWeek : GoodIn wsX5_endWeek wsX4_finishWeek := goodIn_r _ [52, 25, 24, 19, 15, 29, 30, 31, 32, 53, 54, 55, 11, 56, 57, 58, 59, 60, 84, 85, 86, 87, 88, 89, 90, 91, 92, 93, 94, 95, 96] (by decide +kernel) (by decide +kernel)
set_option maxRecDepth 20000 in
theorem gX5_endWeek_X4_finishWeek : GoodIn wsX5_endWeek (wsV RX5 79 RX4 yX4_finishWeek wsX4_finishWeek) := goodIn_app (goodIn_of _ (by decide +kernel)) ggX5_endWeek_X4_finishWeek
set_option maxRecDepth 20000 in
theorem ggX5_endWeek_X5_endTrial : GoodIn wsX5_endWeek wsX5_endTrial := goodIn_r _ [64, 65, 66, 67, 5, 68, 69, 70, 7, 1, 71, 72, 73, 74, 75, 76, 77, 78, 79, 80, 81, 82, 83] (by decide +kernel) (by decide +kernel)
set_option maxRecDepth 20000 in
theorem gX5_endWeek_X5_endTrial : GoodIn wsX5_endWeek (wsV RX5 47 RX5 yX5_endTrial wsX5_endTrial) := goodIn_app (goodIn_of _ (by decide +kernel)) ggX5_endWeek_X5_endTrial
theorem dX5_endWeek_0 : decode cX5_endWeek 0 = .ok (.aload_n 0, 1) := by decide +kernel
theorem dX5_endWeek_1 : decode cX5_endWeek 1 = .ok (.invokevirtual 40, 3) := by decide +kernel
theorem dX5_endWeek_4 : decode cX5_endWeek 4 = .ok (.aload_n 0, 1) := by decide +kernel
theorem dX5_endWeek_5 : decode cX5_endWeek 5 = .ok (.aload_n 0, 1) := by decide +kernel
theorem dX5_endWeek_6 : decode cX5_endWeek 6 = .ok (.getfield 37, 3) := by decide +kernel
theorem dX5_endWeek_9 : decode cX5_endWeek 9 = .ok (.invokevirtual 79, 3) := by decide +kernel
theorem dX5_endWeek_12 : decode cX5_endWeek 12 = .ok (.invokevirtual 47, 3) := by decide +kernel
theorem dX5_endWeek_15 : decode cX5_endWeek 15 = .ok (.ireturn, 1) := by decide +kernel
set_option maxRecDepth 20000 in
theorem ggX5_move_X5_startTrial : GoodIn wsX5_move wsX5_startTrial := goodIn_r _ [6, 1, 7, 8, 9, 10, 11, 12, 13, 14, 15, 16, 17, 18, 19, 20, 21, 22, 23, 24, 25, 26, 27, 28, 29, 30, 31, 32, 33, 34, 35, 36, 37, 38, 39, 40, 41, 42, 43, 44, 45, 46, 47, 48, 122, 123, 124, 125, 126, 127, 128, 129, 130, 131, 132, 133, 134, 135, 136, 137, 138, 139, 140, 141, 142, 143, 144, 145, 146, 147, 148, 149, 150] (by decide +kernel) (by decide +kernel)
set_option maxRecDepth 20000 in
theorem gX5_move_X5_startTrial : GoodIn wsX5_move (wsV RX5 40 RX5 yX5_startTrial wsX5_startTrial) := goodIn_app (goodIn_of _ (by decide +kernel)) ggX5_move_X5_startTrial
set_option maxRecDepth 20000 in
theorem ggX5_move_X4_moveGood : GoodIn wsX5_move wsX4_moveGood := goodIn_r _ [52, 21, 53, 54, 55, 56, 11, 57, 24, 58, 59, 60, 61, 62, 63, 64, 65, 16, 66, 67, 68, 69, 13, 70, 71, 72, 73, 74, 75, 76, 77, 23, 78, 79, 80, 81, 82, 83, 84, 85, 25, 86, 87, 88, 89, 15, 90, 91, 92, 93, 94, 95, 96, 97, 98, 99, 100, 101, 102, 31, 103, 104, 105, 106, 107, 131, 132, 133, 134, 135, 136, 137, 138, 139, 140, 141, 142, 143, 144, 145, 146, 147, 148, 149, 150] (by decide +kernel) (by decide +kernel)
set_option maxRecDepth 20000 in
theorem gX5_move_X4_moveGood : GoodIn wsX5_move (wsV RX5 83 RX4 yX4_moveGood wsX4_moveGood) := goodIn_app (goodIn_of _ (by decide +kernel)) ggX5_move_X4_moveGood
set_option maxRecDepth 20000 in
theorem ggX5_move_X5_endTrial : GoodIn wsX5_move wsX5_endTrial := goodIn_r _ [111, 112, 113, 114, 5, 115, 116, 117, 7, 1, 118, 119, 120, 121, 122, 123, 124, 125, 126, 127, 128, 129, 130] (by decide +kernel) (by decide +kernel)
set_option maxRecDepth 20000 in
theorem gX5_move_X5_endTrial : GoodIn wsX5_move (wsV RX5 47 RX5 yX5_endTrial wsX5_endTrial) := goodIn_app (goodIn_of _ (by decide +kernel)) ggX5_move_X5_endTrial
theorem dX5_move_0 : decode cX5_move 0 = .ok (.aload_n 0, 1) := by decide +kernel
theorem dX5_move_1 : decode cX5_move 1 = .ok (.invokevirtual 40, 3) := by decide +kernel
theorem dX5_move_4 : decode cX5_move 4 = .ok (.aload_n 0, 1) := by decide +kernel
theorem dX5_move_5 : decode cX5_move 5 = .ok (.aload_n 0, 1) := by decide +kernel
theorem dX5_move_6 : decode cX5_move 6 = .ok (.getfield 37, 3) := by decide +kernel
theorem dX5_move_9 : decode cX5_move 9 = .ok (.iload_n 1, 1) := by decide +kernel
theorem dX5_move_10 : decode cX5_move 10 = .ok (.iload_n 2, 1) := by decide +kernel
theorem dX5_move_11 : decode cX5_move 11 = .ok (.invokevirtual 83, 3) := by decide +kernel
theorem dX5_move_14 : decode cX5_move 14 = .ok (.invokevirtual 47, 3) := by decide +kernel
theorem dX5_move_17 : decode cX5_move 17 = .ok (.ireturn, 1) := by decide +kernel
set_option maxRecDepth 20000 in
theorem ggX5_exchange_X5_startTrial : GoodIn wsX5_exchange wsX5_startTrial := goodIn_r _ [6, 1, 7, 8, 9, 10, 11, 12, 13, 14, 15, 16, 17, 18, 19, 20, 21, 22, 23, 24, 25, 26, 27, 28, 29, 30, 31, 32, 33, 34, 35, 36, 37, 38, 39, 40, 41, 42, 43, 44, 45, 46, 47, 48, 126, 127, 128, 129, 130, 131, 132, 133, 134, 135, 136, 137, 138, 139, 140, 141, 142, 143, 144, 145, 146, 147, 148, 149, 150, 151, 152, 153, 154] (by decide +kernel) (by decide +kernel)
set_option maxRecDepth 20000 in
theorem gX5_exchange_X5_startTrial : GoodIn wsX5_exchange (wsV RX5 40 RX5 yX5_startTrial wsX5_startTrial) := goodIn_app (goodIn_of _ (by decide +kernel)) ggX5_exchange_X5_startTrial
set_option maxRecDepth 20000 in
theorem ggX5_exchange_X4_exchangeGoods : GoodIn wsX5_exchange wsX4_exchangeGoods := goodIn_r _ [52, 16, 53, 54, 55, 56, 11, 57, 24, 58, 59, 60, 61, 62, 63, 64, 65, 66, 67, 68, 69, 21, 70, 71, 72, 73, 13, 74, 75, 76, 77, 78, 79, 80, 81, 23, 82, 83, 84, 85, 86, 87, 88, 89, 25, 90, 91, 92, 93, 15, 94, 95, 96, 97, 98, 99, 100, 101, 102, 103, 104, 105, 106, 31, 107, 108, 109, 110, 111, 135, 136, 137, 138, 139, 140, 141, 142, 143, 144, 145, 146, 147, 148, 149, 150, 151, 152, 153, 154] (by decide +kernel) (by decide +kernel)
set_option maxRecDepth 20000 in
theorem gX5_exchange_X4_exchangeGoods : GoodIn wsX5_exchange (wsV RX5 86 RX4 yX4_exchangeGoods wsX4_exchangeGoods) := goodIn_app (goodIn_of _ (by decide +kernel)) ggX5_exchange_X4_exchangeGoods
set_option maxRecDepth 20000 in
theorem ggX5_exchange_X5_endTrial : GoodIn wsX5_exchange wsX5_endTrial := goodIn_r _ [115, 116, 117, 118, 5, 119, 120, 121, 7, 1, 122, 123, 124, 125, 126, 127, 128, 129, 130, 131, 132, 133, 134] (by decide +kernel) (by decide +kernel)
set_option maxRecDepth 20000 in
theorem gX5_exchange_X5_endTrial : GoodIn wsX5_exchange (wsV RX5 47 RX5 yX5_endTrial wsX5_endTrial) := goodIn_app (goodIn_of _ (by decide +kernel)) ggX5_exchange_X5_endTrial
theorem dX5_exchange_0 : decode cX5_exchange 0 = .ok (.aload_n 0, 1) := by decide +kernel
theorem dX5_exchange_1 : decode cX5_exchange 1 = .ok (.invokevirtual 40, 3) := by decide +kernel
theorem dX5_exchange_4 : decode cX5_exchange 4 = .ok (.aload_n 0, 1) := by decide +kernel
theorem dX5_exchange_5 : decode cX5_exchange 5 = .ok (.aload_n 0, 1) := by decide +kernel
theorem dX5_exchange_6 : decode cX5_exchange 6 = .ok (.getfield 37, 3) := by decide +kernel
theorem dX5_exchange_9 : decode cX5_exchange 9 = .ok (.iload_n 1, 1) := by decide +kernel
theorem dX5_exchange_10 : decode cX5_exchange 10 = .ok (.iload_n 2, 1) := by decide +kernel
theorem dX5_exchange_11 : decode cX5_exchange 11 = .ok (.invokevirtual 86, 3) := by decide +kernel
theorem dX5_exchange_14 : decode cX5_exchange 14 = .ok (.invokevirtual 47, 3) := by decide +kernel
theorem dX5_exchange_17 : decode cX5_exchange 17 = .ok (.ireturn, 1) := by decide +kernel
set_option maxRecDepth 20000 in
theorem ggX5_worth_X4_numberOfChange : GoodIn wsX5_worth wsX4_numberOfChange := goodIn_r _ [6, 7, 8, 9, 10, 5, 11, 12, 13, 14, 15, 16, 17, 18, 19, 20, 21, 22, 23, 24, 25, 26, 27, 28, 29, 30, 31, 32, 33, 34, 35, 36, 37, 38, 39, 40, 41, 42, 43, 44, 45, 46, 47, 48, 49, 50, 51, 52, 53, 54, 55, 56, 57, 58, 59, 60, 61, 62, 63, 64, 65, 66, 67, 68, 69, 70, 71, 81, 82, 83, 84, 85, 86, 87, 88, 89, 90, 91, 92, 93] (by decide +kernel) (by decide +kernel)
set_option maxRecDepth 20000 in
theorem gX5_worth_X4_numberOfChange : GoodIn wsX5_worth (wsV RX5 89 RX4 yX4_numberOfChange wsX4_numberOfChange) := goodIn_app (goodIn_of _ (by decide +kernel)) ggX5_worth_X4_numberOfChange
theorem dX5_worth_0 : decode cX5_worth 0 = .ok (.aload_n 0, 1) := by decide +kernel
theorem dX5_worth_1 : decode cX5_worth 1 = .ok (.getfield 33, 3) := by decide +kernel
theorem dX5_worth_4 : decode cX5_worth 4 = .ok (.iload_n 1, 1) := by decide +kernel
theorem dX5_worth_5 : decode cX5_worth 5 = .ok (.iload_n 2, 1) := by decide +kernel
theorem dX5_worth_6 : decode cX5_worth 6 = .ok (.iload_n 3, 1) := by decide +kernel
theorem dX5_worth_7 : decode cX5_worth 7 = .ok (.invokevirtual 89, 3) := by decide +kernel
theorem dX5_worth_10 : decode cX5_worth 10 = .ok (.ireturn, 1) := by decide +kernel
set_option maxRecDepth 20000 in
theorem ggX5_best_X4_numberOfBest : GoodIn wsX5_best wsX4_numberOfBest := goodIn_r _ [6, 7, 8, 9, 10, 11, 12, 5, 13, 14, 15, 16, 17, 18, 19, 20, 21, 22, 23, 24, 25, 26, 27, 28, 29, 30, 31, 32, 33, 34, 35, 36, 37, 38, 39, 40, 41, 42, 43, 44, 45, 46, 47, 48, 49, 50, 51, 52, 53, 54, 55, 56, 57, 58, 59, 60, 61, 62, 63, 64, 65, 66, 67, 68, 69, 70, 71, 72, 73, 74, 84, 85, 86, 87, 88, 89, 90, 91, 92, 93, 94, 95, 96] (by decide +kernel) (by decide +kernel)
set_option maxRecDepth 20000 in
theorem gX5_best_X4_numberOfBest : GoodIn wsX5_best (wsV RX5 92 RX4 yX4_numberOfBest wsX4_numberOfBest) := goodIn_app (goodIn_of _ (by decide +kernel)) ggX5_best_X4_numberOfBest
theorem dX5_best_0 : decode cX5_best 0 = .ok (.aload_n 0, 1) := by decide +kernel
theorem dX5_best_1 : decode cX5_best 1 = .ok (.getfield 33, 3) := by decide +kernel
theorem dX5_best_4 : decode cX5_best 4 = .ok (.iload_n 1, 1) := by decide +kernel
theorem dX5_best_5 : decode cX5_best 5 = .ok (.invokevirtual 92, 3) := by decide +kernel
theorem dX5_best_8 : decode cX5_best 8 = .ok (.ireturn, 1) := by decide +kernel
set_option maxRecDepth 20000 in
theorem ggX5_improve_X5_startTrial : GoodIn wsX5_improve wsX5_startTrial := goodIn_r _ [6, 1, 7, 8, 9, 10, 11, 12, 13, 14, 15, 16, 17, 18, 19, 20, 21, 22, 23, 24, 25, 26, 27, 28, 29, 30, 31, 32, 33, 34, 35, 36, 37, 38, 39, 40, 41, 42, 43, 44, 45, 46, 47, 48, 135, 136, 137, 138, 139, 140, 141, 142, 143, 144, 145, 146, 147, 148, 149, 150, 151, 152, 153, 154, 155, 156, 157, 158, 159, 160, 161, 162, 163] (by decide +kernel) (by decide +kernel)
set_option maxRecDepth 20000 in
theorem gX5_improve_X5_startTrial : GoodIn wsX5_improve (wsV RX5 40 RX5 yX5_startTrial wsX5_startTrial) := goodIn_app (goodIn_of _ (by decide +kernel)) ggX5_improve_X5_startTrial
set_option maxRecDepth 20000 in
theorem ggX5_improve_X4_doBest : GoodIn wsX5_improve wsX4_doBest := goodIn_r _ [52, 53, 5, 54, 55, 56, 57, 11, 58, 24, 59, 60, 61, 62, 16, 21, 63, 64, 65, 66, 67, 68, 69, 70, 13, 71, 72, 73, 74, 75, 76, 77, 78, 79, 80, 81, 82, 83, 84, 85, 86, 87, 88, 89, 90, 25, 91, 92, 93, 94, 15, 95, 96, 97, 98, 99, 100, 101, 102, 103, 104, 105, 106, 107, 108, 109, 110, 111, 31, 112, 113, 114, 115, 116, 23, 117, 118, 119, 120, 144, 145, 146, 147, 148, 149, 150, 151, 152, 153, 154, 155, 156, 157, 158, 159, 160, 161, 162, 163] (by decide +kernel) (by decide +kernel)
set_option maxRecDepth 20000 in
theorem gX5_improve_X4_doBest : GoodIn wsX5_improve (wsV RX5 95 RX4 yX4_doBest wsX4_doBest) := goodIn_app (goodIn_of _ (by decide +kernel)) ggX5_improve_X4_doBest
set_option maxRecDepth 20000 in
theorem ggX5_improve_X5_endTrial : GoodIn wsX5_improve wsX5_endTrial := goodIn_r _ [124, 125, 126, 127, 5, 128, 129, 130, 7, 1, 131, 132, 133, 134, 135, 136, 137, 138, 139, 140, 141, 142, 143] (by decide +kernel) (by decide +kernel)
set_option maxRecDepth 20000 in
theorem gX5_improve_X5_endTrial : GoodIn wsX5_improve (wsV RX5 47 RX5 yX5_endTrial wsX5_endTrial) := goodIn_app (goodIn_of _ (by decide +kernel)) ggX5_improve_X5_endTrial
theorem dX5_improve_0 : decode cX5_improve 0 = .ok (.aload_n 0, 1) := by decide +kernel
theorem dX5_improve_1 : decode cX5_improve 1 = .ok (.invokevirtual 40, 3) := by decide +kernel
theorem dX5_improve_4 : decode cX5_improve 4 = .ok (.aload_n 0, 1) := by decide +kernel
theorem dX5_improve_5 : decode cX5_improve 5 = .ok (.aload_n 0, 1) := by decide +kernel
theorem dX5_improve_6 : decode cX5_improve 6 = .ok (.getfield 37, 3) := by decide +kernel
theorem dX5_improve_9 : decode cX5_improve 9 = .ok (.iload_n 1, 1) := by decide +kernel
theorem dX5_improve_10 : decode cX5_improve 10 = .ok (.invokevirtual 95, 3) := by decide +kernel
theorem dX5_improve_13 : decode cX5_improve 13 = .ok (.invokevirtual 47, 3) := by decide +kernel
theorem dX5_improve_16 : decode cX5_improve 16 = .ok (.ireturn, 1) := by decide +kernel
set_option maxRecDepth 20000 in
theorem ggX5_weekly_X5_isSeason : GoodIn wsX5_weekly wsX5_isSeason := goodIn_r _ [5] (by decide +kernel) (by decide +kernel)
set_option maxRecDepth 20000 in
theorem gX5_weekly_X5_isSeason : GoodIn wsX5_weekly (va_wsS RX5 98 yX5_isSeason wsX5_isSeason) := goodIn_app (goodIn_of _ (by decide +kernel)) ggX5_weekly_X5_isSeason
set_option maxRecDepth 20000 in
theorem ggX5_weekly_X4_weeklyWalk : GoodIn wsX5_weekly wsX4_weeklyWalk := goodIn_r _ [10, 11, 12, 13, 14, 15, 9, 16, 17, 18, 19, 20, 21, 22, 23, 24, 25, 26, 27, 28, 29, 39, 40, 41, 42, 43, 44, 45, 46, 47, 48, 49, 50, 51] (by decide +kernel) (by decide +kernel)
set_option maxRecDepth 20000 in
theorem gX5_weekly_X4_weeklyWalk : GoodIn wsX5_weekly (wsV RX5 102 RX4 yX4_weeklyWalk wsX4_weeklyWalk) := goodIn_app (goodIn_of _ (by decide +kernel)) ggX5_weekly_X4_weeklyWalk
theorem dX5_weekly_0 : decode cX5_weekly 0 = .ok (.iload_n 1, 1) := by decide +kernel
theorem dX5_weekly_1 : decode cX5_weekly 1 = .ok (.invokestatic 98, 3) := by decide +kernel
theorem dX5_weekly_4 : decode cX5_weekly 4 = .ok (.ifCond .eq 14, 3) := by decide +kernel
theorem dX5_weekly_7 : decode cX5_weekly 7 = .ok (.aload_n 0, 1) := by decide +kernel
theorem dX5_weekly_8 : decode cX5_weekly 8 = .ok (.getfield 33, 3) := by decide +kernel
theorem dX5_weekly_11 : decode cX5_weekly 11 = .ok (.iload_n 1, 1) := by decide +kernel
theorem dX5_weekly_12 : decode cX5_weekly 12 = .ok (.invokevirtual 102, 3) := by decide +kernel
theorem dX5_weekly_15 : decode cX5_weekly 15 = .ok (.goto 4, 3) := by decide +kernel
theorem dX5_weekly_18 : decode cX5_weekly 18 = .ok (.iconst (-1), 1) := by decide +kernel
theorem dX5_weekly_19 : decode cX5_weekly 19 = .ok (.ireturn, 1) := by decide +kernel
set_option maxRecDepth 20000 in
theorem ggX5_atBest_X5_isSeason : GoodIn wsX5_atBest wsX5_isSeason := goodIn_r _ [7] (by decide +kernel) (by decide +kernel)
set_option maxRecDepth 20000 in
theorem gX5_atBest_X5_isSeason : GoodIn wsX5_atBest (va_wsS RX5 98 yX5_isSeason wsX5_isSeason) := goodIn_app (goodIn_of _ (by decide +kernel)) ggX5_atBest_X5_isSeason
set_option maxRecDepth 20000 in
theorem ggX5_atBest_X4_shortestWalk : GoodIn wsX5_atBest wsX4_shortestWalk := goodIn_r _ [12, 13, 14, 15, 16, 17, 11, 18, 19, 20, 21, 22, 23, 24, 25, 26, 27, 28, 29, 30, 31, 32, 33, 34, 35, 36, 37, 38, 39, 40, 41, 42, 52, 53, 54, 55, 56, 57, 58, 59, 60, 61, 62, 63, 64, 65, 66] (by decide +kernel) (by decide +kernel)
set_option maxRecDepth 20000 in
theorem gX5_atBest_X4_shortestWalk : GoodIn wsX5_atBest (wsV RX5 105 RX4 yX4_shortestWalk wsX4_shortestWalk) := goodIn_app (goodIn_of _ (by decide +kernel)) ggX5_atBest_X4_shortestWalk
theorem dX5_atBest_0 : decode cX5_atBest 0 = .ok (.iload_n 1, 1) := by decide +kernel
theorem dX5_atBest_1 : decode cX5_atBest 1 = .ok (.invokestatic 98, 3) := by decide +kernel
theorem dX5_atBest_4 : decode cX5_atBest 4 = .ok (.ifCond .eq 22, 3) := by decide +kernel
theorem dX5_atBest_7 : decode cX5_atBest 7 = .ok (.aload_n 0, 1) := by decide +kernel
theorem dX5_atBest_8 : decode cX5_atBest 8 = .ok (.getfield 33, 3) := by decide +kernel
theorem dX5_atBest_11 : decode cX5_atBest 11 = .ok (.iload_n 1, 1) := by decide +kernel
theorem dX5_atBest_12 : decode cX5_atBest 12 = .ok (.aload_n 0, 1) := by decide +kernel
theorem dX5_atBest_13 : decode cX5_atBest 13 = .ok (.getfield 25, 3) := by decide +kernel
theorem dX5_atBest_16 : decode cX5_atBest 16 = .ok (.aload_n 0, 1) := by decide +kernel
theorem dX5_atBest_17 : decode cX5_atBest 17 = .ok (.getfield 29, 3) := by decide +kernel
theorem dX5_atBest_20 : decode cX5_atBest 20 = .ok (.invokevirtual 105, 3) := by decide +kernel
theorem dX5_atBest_23 : decode cX5_atBest 23 = .ok (.goto 4, 3) := by decide +kernel
theorem dX5_atBest_26 : decode cX5_atBest 26 = .ok (.iconst (-1), 1) := by decide +kernel
theorem dX5_atBest_27 : decode cX5_atBest 27 = .ok (.ireturn, 1) := by decide +kernel
set_option maxRecDepth 20000 in
theorem ggX5_account_X4_numberOfAccount : GoodIn wsX5_account wsX4_numberOfAccount := goodIn_r _ [6, 7, 8, 9, 10, 11, 5, 12, 13, 14, 15, 16, 17, 18, 19, 20, 21, 22, 23, 24, 25, 26, 27, 28, 29, 30, 31, 32, 33, 34, 35, 36, 46, 47, 48, 49, 50, 51, 52, 53, 54, 55, 56, 57, 58, 59, 60, 61, 62, 63, 64, 65] (by decide +kernel) (by decide +kernel)
set_option maxRecDepth 20000 in
theorem gX5_account_X4_numberOfAccount : GoodIn wsX5_account (wsV RX5 109 RX4 yX4_numberOfAccount wsX4_numberOfAccount) := goodIn_app (goodIn_of _ (by decide +kernel)) ggX5_account_X4_numberOfAccount
theorem dX5_account_0 : decode cX5_account 0 = .ok (.aload_n 0, 1) := by decide +kernel
theorem dX5_account_1 : decode cX5_account 1 = .ok (.getfield 33, 3) := by decide +kernel
theorem dX5_account_4 : decode cX5_account 4 = .ok (.iload_n 1, 1) := by decide +kernel
theorem dX5_account_5 : decode cX5_account 5 = .ok (.invokevirtual 109, 3) := by decide +kernel
theorem dX5_account_8 : decode cX5_account 8 = .ok (.ireturn, 1) := by decide +kernel
set_option maxRecDepth 20000 in
theorem ggX5_count_X4_numberOfWarehouse : GoodIn wsX5_count wsX4_numberOfWarehouse := goodIn_r _ [8, 9, 10, 11, 12, 13, 14, 15, 16, 7, 17, 18, 19, 20, 21, 22, 23, 24, 25, 26, 27, 28, 29, 30, 31, 32, 33, 34, 35, 36, 37, 38, 54, 55, 56, 57, 58, 59, 60, 61, 62, 63, 64, 65, 66] (by decide +kernel) (by decide +kernel)
set_option maxRecDepth 20000 in
theorem gX5_count_X4_numberOfWarehouse : GoodIn wsX5_count (wsV RX5 119 RX4 yX4_numberOfWarehouse wsX4_numberOfWarehouse) := goodIn_app (goodIn_of _ (by decide +kernel)) ggX5_count_X4_numberOfWarehouse
theorem dX5_count_0 : decode cX5_count 0 = .ok (.iload_n 1, 1) := by decide +kernel
theorem dX5_count_1 : decode cX5_count 1 = .ok (.bipush 8, 2) := by decide +kernel
theorem dX5_count_3 : decode cX5_count 3 = .ok (.if_icmp .ne 8, 3) := by decide +kernel
theorem dX5_count_6 : decode cX5_count 6 = .ok (.aload_n 0, 1) := by decide +kernel
theorem dX5_count_7 : decode cX5_count 7 = .ok (.getfield 112, 3) := by decide +kernel
theorem dX5_count_10 : decode cX5_count 10 = .ok (.ireturn, 1) := by decide +kernel
theorem dX5_count_11 : decode cX5_count 11 = .ok (.iload_n 1, 1) := by decide +kernel
theorem dX5_count_12 : decode cX5_count 12 = .ok (.bipush 9, 2) := by decide +kernel
theorem dX5_count_14 : decode cX5_count 14 = .ok (.if_icmp .ne 11, 3) := by decide +kernel
theorem dX5_count_17 : decode cX5_count 17 = .ok (.aload_n 0, 1) := by decide +kernel
theorem dX5_count_18 : decode cX5_count 18 = .ok (.getfield 18, 3) := by decide +kernel
theorem dX5_count_21 : decode cX5_count 21 = .ok (.getfield 116, 3) := by decide +kernel
theorem dX5_count_24 : decode cX5_count 24 = .ok (.ireturn, 1) := by decide +kernel
theorem dX5_count_25 : decode cX5_count 25 = .ok (.aload_n 0, 1) := by decide +kernel
theorem dX5_count_26 : decode cX5_count 26 = .ok (.getfield 33, 3) := by decide +kernel
theorem dX5_count_29 : decode cX5_count 29 = .ok (.iload_n 1, 1) := by decide +kernel
theorem dX5_count_30 : decode cX5_count 30 = .ok (.invokevirtual 119, 3) := by decide +kernel
theorem dX5_count_33 : decode cX5_count 33 = .ok (.ireturn, 1) := by decide +kernel
set_option maxRecDepth 20000 in
theorem ggX5_set_X5_startTrial : GoodIn wsX5_set wsX5_startTrial := goodIn_r _ [6, 1, 7, 8, 9, 10, 11, 12, 13, 14, 15, 16, 17, 18, 19, 20, 21, 22, 23, 24, 25, 26, 27, 28, 29, 30, 31, 32, 33, 34, 35, 36, 37, 38, 39, 40, 41, 42, 43, 44, 45, 46, 47, 48, 71, 72, 73, 74, 75, 76, 77, 78, 79, 80, 81, 82, 83, 84, 85, 86, 87, 88, 89, 90, 91, 92, 93, 94, 95, 96, 97, 98, 99] (by decide +kernel) (by decide +kernel)
set_option maxRecDepth 20000 in
theorem gX5_set_X5_startTrial : GoodIn wsX5_set (wsV RX5 40 RX5 yX5_startTrial wsX5_startTrial) := goodIn_app (goodIn_of _ (by decide +kernel)) ggX5_set_X5_startTrial
set_option maxRecDepth 20000 in
theorem ggX5_set_X4_changeSetting : GoodIn wsX5_set wsX4_changeSetting := goodIn_r _ [52, 53, 54, 22, 55, 5, 56, 80, 81, 82, 83, 84, 85, 86, 87, 88, 89, 90, 91, 92] (by decide +kernel) (by decide +kernel)
set_option maxRecDepth 20000 in
theorem gX5_set_X4_changeSetting : GoodIn wsX5_set (wsV RX5 122 RX4 yX4_changeSetting wsX4_changeSetting) := goodIn_app (goodIn_of _ (by decide +kernel)) ggX5_set_X4_changeSetting
set_option maxRecDepth 20000 in
theorem ggX5_set_X5_endTrial : GoodIn wsX5_set wsX5_endTrial := goodIn_r _ [60, 61, 62, 63, 5, 64, 65, 66, 7, 1, 67, 68, 69, 70, 71, 72, 73, 74, 75, 76, 77, 78, 79] (by decide +kernel) (by decide +kernel)
set_option maxRecDepth 20000 in
theorem gX5_set_X5_endTrial : GoodIn wsX5_set (wsV RX5 47 RX5 yX5_endTrial wsX5_endTrial) := goodIn_app (goodIn_of _ (by decide +kernel)) ggX5_set_X5_endTrial
theorem dX5_set_0 : decode cX5_set 0 = .ok (.aload_n 0, 1) := by decide +kernel
theorem dX5_set_1 : decode cX5_set 1 = .ok (.invokevirtual 40, 3) := by decide +kernel
theorem dX5_set_4 : decode cX5_set 4 = .ok (.aload_n 0, 1) := by decide +kernel
theorem dX5_set_5 : decode cX5_set 5 = .ok (.aload_n 0, 1) := by decide +kernel
theorem dX5_set_6 : decode cX5_set 6 = .ok (.getfield 37, 3) := by decide +kernel
theorem dX5_set_9 : decode cX5_set 9 = .ok (.iload_n 1, 1) := by decide +kernel
theorem dX5_set_10 : decode cX5_set 10 = .ok (.iload_n 2, 1) := by decide +kernel
theorem dX5_set_11 : decode cX5_set 11 = .ok (.invokevirtual 122, 3) := by decide +kernel
theorem dX5_set_14 : decode cX5_set 14 = .ok (.invokevirtual 47, 3) := by decide +kernel
theorem dX5_set_17 : decode cX5_set 17 = .ok (.ireturn, 1) := by decide +kernel
theorem dX5_undo_0 : decode cX5_undo 0 = .ok (.aload_n 0, 1) := by decide +kernel
theorem dX5_undo_1 : decode cX5_undo 1 = .ok (.getfield 112, 3) := by decide +kernel
theorem dX5_undo_4 : decode cX5_undo 4 = .ok (.iconst 1, 1) := by decide +kernel
theorem dX5_undo_5 : decode cX5_undo 5 = .ok (.if_icmp .ge 6, 3) := by decide +kernel
theorem dX5_undo_8 : decode cX5_undo 8 = .ok (.bipush (-2), 2) := by decide +kernel
theorem dX5_undo_10 : decode cX5_undo 10 = .ok (.ireturn, 1) := by decide +kernel
theorem dX5_undo_11 : decode cX5_undo 11 = .ok (.aload_n 0, 1) := by decide +kernel
theorem dX5_undo_12 : decode cX5_undo 12 = .ok (.dup, 1) := by decide +kernel
theorem dX5_undo_13 : decode cX5_undo 13 = .ok (.getfield 112, 3) := by decide +kernel
theorem dX5_undo_16 : decode cX5_undo 16 = .ok (.iconst 1, 1) := by decide +kernel
theorem dX5_undo_17 : decode cX5_undo 17 = .ok (.isub, 1) := by decide +kernel
theorem dX5_undo_18 : decode cX5_undo 18 = .ok (.putfield 112, 3) := by decide +kernel
theorem dX5_undo_21 : decode cX5_undo 21 = .ok (.aload_n 0, 1) := by decide +kernel
theorem dX5_undo_22 : decode cX5_undo 22 = .ok (.getfield 33, 3) := by decide +kernel
theorem dX5_undo_25 : decode cX5_undo 25 = .ok (.astore_n 1, 1) := by decide +kernel
theorem dX5_undo_26 : decode cX5_undo 26 = .ok (.aload_n 0, 1) := by decide +kernel
theorem dX5_undo_27 : decode cX5_undo 27 = .ok (.aload_n 0, 1) := by decide +kernel
theorem dX5_undo_28 : decode cX5_undo 28 = .ok (.getfield 11, 3) := by decide +kernel
theorem dX5_undo_31 : decode cX5_undo 31 = .ok (.aload_n 0, 1) := by decide +kernel
theorem dX5_undo_32 : decode cX5_undo 32 = .ok (.getfield 112, 3) := by decide +kernel
theorem dX5_undo_35 : decode cX5_undo 35 = .ok (.aaload, 1) := by decide +kernel
theorem dX5_undo_36 : decode cX5_undo 36 = .ok (.putfield 33, 3) := by decide +kernel
theorem dX5_undo_39 : decode cX5_undo 39 = .ok (.aload_n 0, 1) := by decide +kernel
theorem dX5_undo_40 : decode cX5_undo 40 = .ok (.getfield 11, 3) := by decide +kernel
theorem dX5_undo_43 : decode cX5_undo 43 = .ok (.aload_n 0, 1) := by decide +kernel
theorem dX5_undo_44 : decode cX5_undo 44 = .ok (.getfield 112, 3) := by decide +kernel
theorem dX5_undo_47 : decode cX5_undo 47 = .ok (.aload_n 1, 1) := by decide +kernel
theorem dX5_undo_48 : decode cX5_undo 48 = .ok (.aastore, 1) := by decide +kernel
theorem dX5_undo_49 : decode cX5_undo 49 = .ok (.aload_n 0, 1) := by decide +kernel
theorem dX5_undo_50 : decode cX5_undo 50 = .ok (.getfield 112, 3) := by decide +kernel
theorem dX5_undo_53 : decode cX5_undo 53 = .ok (.ireturn, 1) := by decide +kernel
set_option maxRecDepth 20000 in
theorem ggX5_type_X1_append : GoodIn wsX5_type wsX1_append := goodIn_r _ [6, 7, 8, 9, 10, 11, 21, 22, 23, 24, 25, 26] (by decide +kernel) (by decide +kernel)
set_option maxRecDepth 20000 in
theorem gX5_type_X1_append : GoodIn wsX5_type (wsV RX5 125 RX1 yX1_append wsX1_append) := goodIn_app (goodIn_of _ (by decide +kernel)) ggX5_type_X1_append
theorem dX5_type_0 : decode cX5_type 0 = .ok (.aload_n 0, 1) := by decide +kernel
theorem dX5_type_1 : decode cX5_type 1 = .ok (.getfield 18, 3) := by decide +kernel
theorem dX5_type_4 : decode cX5_type 4 = .ok (.iload_n 1, 1) := by decide +kernel
theorem dX5_type_5 : decode cX5_type 5 = .ok (.invokevirtual 125, 3) := by decide +kernel
theorem dX5_type_8 : decode cX5_type 8 = .ok (.ireturn, 1) := by decide +kernel
set_option maxRecDepth 20000 in
theorem ggX5_fault_X5_tryText : GoodIn wsX5_fault wsX5_tryText := goodIn_r _ [7, 8, 1, 2, 9, 10, 11, 6, 12, 13, 14, 15, 16, 17, 18, 19, 20, 21, 22, 23, 24, 25, 26, 27, 28, 29, 30, 31, 32, 33, 34, 35, 36, 37, 38, 39, 40, 41, 42, 43, 44, 45, 46, 47, 48, 49, 50, 51, 52, 53, 54, 55, 56, 57, 58, 59, 60, 61, 62, 63, 64, 65, 66, 67, 68, 69, 70, 71, 72, 73, 74, 75, 76, 77, 78, 79, 80, 81, 82, 83, 84, 85, 86, 87, 88, 89, 90, 91, 92, 93, 94, 95, 96, 97, 98, 99, 100, 101, 102, 103, 104, 105, 106, 107, 108, 109, 110, 111, 112, 113, 114, 115, 116, 117, 118, 119, 120, 121, 122, 123, 124, 125, 126, 127, 128, 129, 130, 131, 132, 133, 134, 135, 136, 137, 138, 139, 140, 141, 142, 143, 144, 145, 146, 147, 148, 149, 150, 151, 152, 153, 154, 155, 156, 157, 158, 159, 160, 161, 162, 163, 164, 165, 166, 167, 168, 169, 170, 171, 172, 173, 174, 175, 176, 177, 178, 179, 180, 181, 182, 183, 184, 185, 186, 187, 188, 189, 190, 191, 192, 193, 194, 195, 196, 197, 198, 199, 200, 201, 202, 203, 204, 205, 206, 207, 208, 209, 210, 211, 212, 213, 214, 215, 216, 217, 218, 219, 220, 221, 222, 223, 224, 225, 226, 227, 228, 229, 230, 231] (by decide +kernel) (by decide +kernel)
set_option maxRecDepth 20000 in
theorem gX5_fault_X5_tryText : GoodIn wsX5_fault (wsV RX5 128 RX5 yX5_tryText wsX5_tryText) := goodIn_app (goodIn_of _ (by decide +kernel)) ggX5_fault_X5_tryText
theorem dX5_fault_0 : decode cX5_fault 0 = .ok (.iload_n 1, 1) := by decide +kernel
theorem dX5_fault_1 : decode cX5_fault 1 = .ok (.ifCond .eq 10, 3) := by decide +kernel
theorem dX5_fault_4 : decode cX5_fault 4 = .ok (.iload_n 1, 1) := by decide +kernel
theorem dX5_fault_5 : decode cX5_fault 5 = .ok (.iconst 1, 1) := by decide +kernel
theorem dX5_fault_6 : decode cX5_fault 6 = .ok (.if_icmp .eq 5, 3) := by decide +kernel
theorem dX5_fault_9 : decode cX5_fault 9 = .ok (.iconst (-1), 1) := by decide +kernel
theorem dX5_fault_10 : decode cX5_fault 10 = .ok (.ireturn, 1) := by decide +kernel
theorem dX5_fault_11 : decode cX5_fault 11 = .ok (.aload_n 0, 1) := by decide +kernel
theorem dX5_fault_12 : decode cX5_fault 12 = .ok (.invokevirtual 128, 3) := by decide +kernel
theorem dX5_fault_15 : decode cX5_fault 15 = .ok (.pop, 1) := by decide +kernel
theorem dX5_fault_16 : decode cX5_fault 16 = .ok (.aload_n 0, 1) := by decide +kernel
theorem dX5_fault_17 : decode cX5_fault 17 = .ok (.getfield 131, 3) := by decide +kernel
theorem dX5_fault_20 : decode cX5_fault 20 = .ok (.ifCond .ne 6, 3) := by decide +kernel
theorem dX5_fault_23 : decode cX5_fault 23 = .ok (.bipush (-4), 2) := by decide +kernel
theorem dX5_fault_25 : decode cX5_fault 25 = .ok (.ireturn, 1) := by decide +kernel
theorem dX5_fault_26 : decode cX5_fault 26 = .ok (.iload_n 1, 1) := by decide +kernel
theorem dX5_fault_27 : decode cX5_fault 27 = .ok (.ifCond .ne 10, 3) := by decide +kernel
theorem dX5_fault_30 : decode cX5_fault 30 = .ok (.aload_n 0, 1) := by decide +kernel
theorem dX5_fault_31 : decode cX5_fault 31 = .ok (.getfield 134, 3) := by decide +kernel
theorem dX5_fault_34 : decode cX5_fault 34 = .ok (.goto 7, 3) := by decide +kernel
theorem dX5_fault_37 : decode cX5_fault 37 = .ok (.aload_n 0, 1) := by decide +kernel
theorem dX5_fault_38 : decode cX5_fault 38 = .ok (.getfield 131, 3) := by decide +kernel
theorem dX5_fault_41 : decode cX5_fault 41 = .ok (.ireturn, 1) := by decide +kernel
set_option maxRecDepth 20000 in
theorem ggX5_play_X5_tryText : GoodIn wsX5_play wsX5_tryText := goodIn_r _ [6, 7, 1, 8, 9, 10, 11, 5, 12, 13, 14, 15, 16, 17, 18, 19, 20, 21, 22, 23, 24, 25, 26, 27, 28, 29, 30, 31, 32, 33, 34, 35, 36, 37, 38, 39, 40, 41, 42, 43, 44, 45, 46, 47, 48, 49, 50, 51, 52, 53, 54, 55, 56, 57, 58, 59, 60, 61, 62, 63, 64, 65, 66, 67, 68, 69, 70, 71, 72, 73, 74, 75, 76, 77, 78, 79, 80, 81, 82, 83, 84, 85, 86, 87, 88, 89, 90, 91, 92, 93, 94, 95, 96, 97, 98, 99, 100, 101, 102, 103, 104, 105, 106, 107, 108, 109, 110, 111, 112, 113, 114, 115, 116, 117, 118, 119, 120, 121, 122, 123, 124, 125, 126, 127, 128, 129, 130, 131, 132, 133, 134, 135, 136, 137, 138, 139, 140, 141, 142, 143, 144, 145, 146, 147, 148, 149, 150, 151, 152, 153, 154, 155, 156, 157, 158, 159, 160, 161, 162, 163, 164, 165, 166, 167, 168, 169, 170, 171, 172, 173, 174, 175, 176, 177, 178, 179, 180, 181, 182, 183, 184, 185, 186, 187, 188, 189, 190, 191, 192, 193, 194, 195, 196, 211, 212, 213, 214, 215, 216, 217, 218, 219, 220, 221, 222, 223, 224, 225, 226, 227, 228, 229, 230, 231, 232, 233, 234, 235, 236, 237, 238, 239, 240, 241, 242, 243, 244, 245] (by decide +kernel) (by decide +kernel)
set_option maxRecDepth 20000 in
theorem gX5_play_X5_tryText : GoodIn wsX5_play (wsV RX5 128 RX5 yX5_tryText wsX5_tryText) := goodIn_app (goodIn_of _ (by decide +kernel)) ggX5_play_X5_tryText
set_option maxRecDepth 20000 in
theorem ggX5_play_X5_endTrial : GoodIn wsX5_play wsX5_endTrial := goodIn_r _ [200, 201, 202, 203, 5, 204, 205, 206, 14, 13, 207, 208, 209, 210, 211, 212, 213, 214, 215, 216, 217, 218, 219] (by decide +kernel) (by decide +kernel)
set_option maxRecDepth 20000 in
theorem gX5_play_X5_endTrial : GoodIn wsX5_play (wsV RX5 47 RX5 yX5_endTrial wsX5_endTrial) := goodIn_app (goodIn_of _ (by decide +kernel)) ggX5_play_X5_endTrial
theorem dX5_play_0 : decode cX5_play 0 = .ok (.aload_n 0, 1) := by decide +kernel
theorem dX5_play_1 : decode cX5_play 1 = .ok (.invokevirtual 128, 3) := by decide +kernel
theorem dX5_play_4 : decode cX5_play 4 = .ok (.istore_n 1, 1) := by decide +kernel
theorem dX5_play_5 : decode cX5_play 5 = .ok (.aload_n 0, 1) := by decide +kernel
theorem dX5_play_6 : decode cX5_play 6 = .ok (.aload_n 0, 1) := by decide +kernel
theorem dX5_play_7 : decode cX5_play 7 = .ok (.getfield 131, 3) := by decide +kernel
theorem dX5_play_10 : decode cX5_play 10 = .ok (.ifCond .ne 7, 3) := by decide +kernel
theorem dX5_play_13 : decode cX5_play 13 = .ok (.iload_n 1, 1) := by decide +kernel
theorem dX5_play_14 : decode cX5_play 14 = .ok (.goto 5, 3) := by decide +kernel
theorem dX5_play_17 : decode cX5_play 17 = .ok (.bipush (-2), 2) := by decide +kernel
theorem dX5_play_19 : decode cX5_play 19 = .ok (.invokevirtual 47, 3) := by decide +kernel
theorem dX5_play_22 : decode cX5_play 22 = .ok (.ireturn, 1) := by decide +kernel
set_option maxRecDepth 20000 in
theorem ggX5_startTrial_X4_copyFrom : GoodIn wsX5_startTrial wsX4_copyFrom := goodIn_r _ [7, 8, 9, 10, 11, 12, 13, 14, 15, 16, 17, 18, 19, 20, 21, 22, 6, 23, 24, 25, 26, 27, 28, 29, 30, 31, 32, 33, 34, 35, 36, 37, 38, 39, 40, 41, 42, 43, 53, 54, 55, 56, 57, 58, 59, 60, 61, 62, 63, 64, 65, 66, 67, 68, 69, 70, 71, 72] (by decide +kernel) (by decide +kernel)
set_option maxRecDepth 20000 in
theorem gX5_startTrial_X4_copyFrom : GoodIn wsX5_startTrial (wsV RX5 137 RX4 yX4_copyFrom wsX4_copyFrom) := goodIn_app (goodIn_of _ (by decide +kernel)) ggX5_startTrial_X4_copyFrom
theorem dX5_startTrial_0 : decode cX5_startTrial 0 = .ok (.aload_n 0, 1) := by decide +kernel
theorem dX5_startTrial_1 : decode cX5_startTrial 1 = .ok (.getfield 37, 3) := by decide +kernel
theorem dX5_startTrial_4 : decode cX5_startTrial 4 = .ok (.aload_n 0, 1) := by decide +kernel
theorem dX5_startTrial_5 : decode cX5_startTrial 5 = .ok (.getfield 33, 3) := by decide +kernel
theorem dX5_startTrial_8 : decode cX5_startTrial 8 = .ok (.invokevirtual 137, 3) := by decide +kernel
theorem dX5_startTrial_11 : decode cX5_startTrial 11 = .ok (.return_, 1) := by decide +kernel
set_option maxRecDepth 20000 in
theorem ggX5_endTrial_X5_keepTrial : GoodIn wsX5_endTrial wsX5_keepTrial := goodIn_r _ [5, 6, 7, 8, 9, 10, 11, 12, 4, 13, 14, 15, 16, 17, 18, 19, 20, 21, 22] (by decide +kernel) (by decide +kernel)
set_option maxRecDepth 20000 in
theorem gX5_endTrial_X5_keepTrial : GoodIn wsX5_endTrial (wsV RX5 141 RX5 yX5_keepTrial wsX5_keepTrial) := goodIn_app (goodIn_of _ (by decide +kernel)) ggX5_endTrial_X5_keepTrial
theorem dX5_endTrial_0 : decode cX5_endTrial 0 = .ok (.iload_n 1, 1) := by decide +kernel
theorem dX5_endTrial_1 : decode cX5_endTrial 1 = .ok (.ifCond .lt 7, 3) := by decide +kernel
theorem dX5_endTrial_4 : decode cX5_endTrial 4 = .ok (.aload_n 0, 1) := by decide +kernel
theorem dX5_endTrial_5 : decode cX5_endTrial 5 = .ok (.invokevirtual 141, 3) := by decide +kernel
theorem dX5_endTrial_8 : decode cX5_endTrial 8 = .ok (.iload_n 1, 1) := by decide +kernel
theorem dX5_endTrial_9 : decode cX5_endTrial 9 = .ok (.ireturn, 1) := by decide +kernel
set_option maxRecDepth 20000 in
theorem ggX5_keepTrial_X5_dropOldestState : GoodIn wsX5_keepTrial wsX5_dropOldestState := goodIn_r _ [9, 2, 1, 10, 11, 12, 13, 14, 15, 16, 17, 18] (by decide +kernel) (by decide +kernel)
set_option maxRecDepth 20000 in
theorem gX5_keepTrial_X5_dropOldestState : GoodIn wsX5_keepTrial (wsV RX5 144 RX5 yX5_dropOldestState wsX5_dropOldestState) := goodIn_app (goodIn_of _ (by decide +kernel)) ggX5_keepTrial_X5_dropOldestState
theorem dX5_keepTrial_0 : decode cX5_keepTrial 0 = .ok (.aload_n 0, 1) := by decide +kernel
theorem dX5_keepTrial_1 : decode cX5_keepTrial 1 = .ok (.getfield 112, 3) := by decide +kernel
theorem dX5_keepTrial_4 : decode cX5_keepTrial 4 = .ok (.iconst 4, 1) := by decide +kernel
theorem dX5_keepTrial_5 : decode cX5_keepTrial 5 = .ok (.if_icmp .lt 7, 3) := by decide +kernel
theorem dX5_keepTrial_8 : decode cX5_keepTrial 8 = .ok (.aload_n 0, 1) := by decide +kernel
theorem dX5_keepTrial_9 : decode cX5_keepTrial 9 = .ok (.invokevirtual 144, 3) := by decide +kernel
theorem dX5_keepTrial_12 : decode cX5_keepTrial 12 = .ok (.aload_n 0, 1) := by decide +kernel
theorem dX5_keepTrial_13 : decode cX5_keepTrial 13 = .ok (.getfield 11, 3) := by decide +kernel
theorem dX5_keepTrial_16 : decode cX5_keepTrial 16 = .ok (.aload_n 0, 1) := by decide +kernel
theorem dX5_keepTrial_17 : decode cX5_keepTrial 17 = .ok (.getfield 112, 3) := by decide +kernel
theorem dX5_keepTrial_20 : decode cX5_keepTrial 20 = .ok (.aaload, 1) := by decide +kernel
theorem dX5_keepTrial_21 : decode cX5_keepTrial 21 = .ok (.astore_n 1, 1) := by decide +kernel
theorem dX5_keepTrial_22 : decode cX5_keepTrial 22 = .ok (.aload_n 0, 1) := by decide +kernel
theorem dX5_keepTrial_23 : decode cX5_keepTrial 23 = .ok (.getfield 11, 3) := by decide +kernel
theorem dX5_keepTrial_26 : decode cX5_keepTrial 26 = .ok (.aload_n 0, 1) := by decide +kernel
theorem dX5_keepTrial_27 : decode cX5_keepTrial 27 = .ok (.getfield 112, 3) := by decide +kernel
theorem dX5_keepTrial_30 : decode cX5_keepTrial 30 = .ok (.aload_n 0, 1) := by decide +kernel
theorem dX5_keepTrial_31 : decode cX5_keepTrial 31 = .ok (.getfield 33, 3) := by decide +kernel
theorem dX5_keepTrial_34 : decode cX5_keepTrial 34 = .ok (.aastore, 1) := by decide +kernel
theorem dX5_keepTrial_35 : decode cX5_keepTrial 35 = .ok (.aload_n 0, 1) := by decide +kernel
theorem dX5_keepTrial_36 : decode cX5_keepTrial 36 = .ok (.aload_n 0, 1) := by decide +kernel
theorem dX5_keepTrial_37 : decode cX5_keepTrial 37 = .ok (.getfield 37, 3) := by decide +kernel
theorem dX5_keepTrial_40 : decode cX5_keepTrial 40 = .ok (.putfield 33, 3) := by decide +kernel
theorem dX5_keepTrial_43 : decode cX5_keepTrial 43 = .ok (.aload_n 0, 1) := by decide +kernel
theorem dX5_keepTrial_44 : decode cX5_keepTrial 44 = .ok (.aload_n 1, 1) := by decide +kernel
theorem dX5_keepTrial_45 : decode cX5_keepTrial 45 = .ok (.putfield 37, 3) := by decide +kernel
theorem dX5_keepTrial_48 : decode cX5_keepTrial 48 = .ok (.aload_n 0, 1) := by decide +kernel
theorem dX5_keepTrial_49 : decode cX5_keepTrial 49 = .ok (.dup, 1) := by decide +kernel
theorem dX5_keepTrial_50 : decode cX5_keepTrial 50 = .ok (.getfield 112, 3) := by decide +kernel
theorem dX5_keepTrial_53 : decode cX5_keepTrial 53 = .ok (.iconst 1, 1) := by decide +kernel
theorem dX5_keepTrial_54 : decode cX5_keepTrial 54 = .ok (.iadd, 1) := by decide +kernel
theorem dX5_keepTrial_55 : decode cX5_keepTrial 55 = .ok (.putfield 112, 3) := by decide +kernel
theorem dX5_keepTrial_58 : decode cX5_keepTrial 58 = .ok (.return_, 1) := by decide +kernel
theorem dX5_dropOldestState_0 : decode cX5_dropOldestState 0 = .ok (.aload_n 0, 1) := by decide +kernel
theorem dX5_dropOldestState_1 : decode cX5_dropOldestState 1 = .ok (.getfield 11, 3) := by decide +kernel
theorem dX5_dropOldestState_4 : decode cX5_dropOldestState 4 = .ok (.iconst 0, 1) := by decide +kernel
theorem dX5_dropOldestState_5 : decode cX5_dropOldestState 5 = .ok (.aaload, 1) := by decide +kernel
theorem dX5_dropOldestState_6 : decode cX5_dropOldestState 6 = .ok (.astore_n 1, 1) := by decide +kernel
theorem dX5_dropOldestState_7 : decode cX5_dropOldestState 7 = .ok (.iconst 1, 1) := by decide +kernel
theorem dX5_dropOldestState_8 : decode cX5_dropOldestState 8 = .ok (.istore_n 2, 1) := by decide +kernel
theorem dX5_dropOldestState_9 : decode cX5_dropOldestState 9 = .ok (.iload_n 2, 1) := by decide +kernel
theorem dX5_dropOldestState_10 : decode cX5_dropOldestState 10 = .ok (.iconst 4, 1) := by decide +kernel
theorem dX5_dropOldestState_11 : decode cX5_dropOldestState 11 = .ok (.if_icmp .ge 23, 3) := by decide +kernel
theorem dX5_dropOldestState_14 : decode cX5_dropOldestState 14 = .ok (.aload_n 0, 1) := by decide +kernel
theorem dX5_dropOldestState_15 : decode cX5_dropOldestState 15 = .ok (.getfield 11, 3) := by decide +kernel
theorem dX5_dropOldestState_18 : decode cX5_dropOldestState 18 = .ok (.iload_n 2, 1) := by decide +kernel
theorem dX5_dropOldestState_19 : decode cX5_dropOldestState 19 = .ok (.iconst 1, 1) := by decide +kernel
theorem dX5_dropOldestState_20 : decode cX5_dropOldestState 20 = .ok (.isub, 1) := by decide +kernel
theorem dX5_dropOldestState_21 : decode cX5_dropOldestState 21 = .ok (.aload_n 0, 1) := by decide +kernel
theorem dX5_dropOldestState_22 : decode cX5_dropOldestState 22 = .ok (.getfield 11, 3) := by decide +kernel
theorem dX5_dropOldestState_25 : decode cX5_dropOldestState 25 = .ok (.iload_n 2, 1) := by decide +kernel
theorem dX5_dropOldestState_26 : decode cX5_dropOldestState 26 = .ok (.aaload, 1) := by decide +kernel
theorem dX5_dropOldestState_27 : decode cX5_dropOldestState 27 = .ok (.aastore, 1) := by decide +kernel
theorem dX5_dropOldestState_28 : decode cX5_dropOldestState 28 = .ok (.iinc 2 1, 3) := by decide +kernel
theorem dX5_dropOldestState_31 : decode cX5_dropOldestState 31 = .ok (.goto (-22), 3) := by decide +kernel
theorem dX5_dropOldestState_34 : decode cX5_dropOldestState 34 = .ok (.aload_n 0, 1) := by decide +kernel
theorem dX5_dropOldestState_35 : decode cX5_dropOldestState 35 = .ok (.getfield 11, 3) := by decide +kernel
theorem dX5_dropOldestState_38 : decode cX5_dropOldestState 38 = .ok (.iconst 3, 1) := by decide +kernel
theorem dX5_dropOldestState_39 : decode cX5_dropOldestState 39 = .ok (.aload_n 1, 1) := by decide +kernel
theorem dX5_dropOldestState_40 : decode cX5_dropOldestState 40 = .ok (.aastore, 1) := by decide +kernel
theorem dX5_dropOldestState_41 : decode cX5_dropOldestState 41 = .ok (.aload_n 0, 1) := by decide +kernel
theorem dX5_dropOldestState_42 : decode cX5_dropOldestState 42 = .ok (.iconst 3, 1) := by decide +kernel
theorem dX5_dropOldestState_43 : decode cX5_dropOldestState 43 = .ok (.putfield 112, 3) := by decide +kernel
theorem dX5_dropOldestState_46 : decode cX5_dropOldestState 46 = .ok (.return_, 1) := by decide +kernel
set_option maxRecDepth 20000 in
theorem ggX5_tryText_X5_startTrial : GoodIn wsX5_tryText wsX5_startTrial := goodIn_r _ [8, 9, 10, 11, 12, 13, 14, 15, 16, 17, 18, 19, 20, 21, 22, 23, 24, 25, 26, 27, 28, 29, 30, 31, 32, 33, 34, 35, 36, 37, 38, 39, 40, 41, 42, 43, 44, 45, 46, 47, 48, 49, 50, 51, 193, 194, 195, 196, 197, 198, 199, 200, 201, 208, 209, 210, 211, 212, 213, 214, 215, 216, 217, 218, 219, 220, 221, 222, 223, 224, 225, 226, 227] (by decide +kernel) (by decide +kernel)
set_option maxRecDepth 20000 in
theorem gX5_tryText_X5_startTrial : GoodIn wsX5_tryText (wsV RX5 40 RX5 yX5_startTrial wsX5_startTrial) := goodIn_app (goodIn_of _ (by decide +kernel)) ggX5_tryText_X5_startTrial
set_option maxRecDepth 20000 in
theorem ggX5_tryText_X1_startReading : GoodIn wsX5_tryText wsX1_startReading := goodIn_r _ [56, 57, 202, 203, 204, 205, 206, 207] (by decide +kernel) (by decide +kernel)
set_option maxRecDepth 20000 in
theorem gX5_tryText_X1_startReading : GoodIn wsX5_tryText (wsV RX5 147 RX1 yX1_startReading wsX1_startReading) := goodIn_app (goodIn_of _ (by decide +kernel)) ggX5_tryText_X1_startReading
set_option maxRecDepth 20000 in
theorem ggX5_tryText_X1_isAtEnd : GoodIn wsX5_tryText wsX1_isAtEnd := goodIn_r _ [61, 57, 62, 202, 203, 204, 205, 206, 207] (by decide +kernel) (by decide +kernel)
set_option maxRecDepth 20000 in
theorem gX5_tryText_X1_isAtEnd : GoodIn wsX5_tryText (wsV RX5 150 RX1 yX1_isAtEnd wsX1_isAtEnd) := goodIn_app (goodIn_of _ (by decide +kernel)) ggX5_tryText_X1_isAtEnd
set_option maxRecDepth 20000 in
theorem ggX5_tryText_X1_readOrder : GoodIn wsX5_tryText wsX1_readOrder := goodIn_r _ [66, 67, 57, 68, 69, 70, 71, 55, 72, 62, 73, 74, 75, 76, 77, 78, 79, 80, 81, 82, 83, 84, 85, 86, 87, 88, 89, 202, 203, 204, 205, 206, 207] (by decide +kernel) (by decide +kernel)
set_option maxRecDepth 20000 in
theorem gX5_tryText_X1_readOrder : GoodIn wsX5_tryText (wsV RX5 157 RX1 yX1_readOrder wsX1_readOrder) := goodIn_app (goodIn_of _ (by decide +kernel)) ggX5_tryText_X1_readOrder
set_option maxRecDepth 20000 in
theorem ggX5_tryText_X5_hasGoodsAndSlots : GoodIn wsX5_tryText wsX5_hasGoodsAndSlots := goodIn_r _ [93, 9, 94, 95, 96, 14, 97, 27, 98, 99, 100, 101, 193, 194, 195, 196, 197, 198, 199, 200, 201, 208, 209, 210, 211, 212, 213, 214, 215, 216, 217, 218, 219, 220] (by decide +kernel) (by decide +kernel)
set_option maxRecDepth 20000 in
theorem gX5_tryText_X5_hasGoodsAndSlots : GoodIn wsX5_tryText (wsV RX5 169 RX5 yX5_hasGoodsAndSlots wsX5_hasGoodsAndSlots) := goodIn_app (goodIn_of _ (by decide +kernel)) ggX5_tryText_X5_hasGoodsAndSlots
set_option maxRecDepth 20000 in
theorem ggX5_tryText_X5_doOrder : GoodIn wsX5_tryText wsX5_doOrder := goodIn_r _ [105, 9, 106, 107, 108, 14, 109, 20, 25, 19, 23, 22, 26, 110, 95, 96, 97, 27, 111, 7, 112, 113, 114, 115, 116, 117, 99, 100, 101, 118, 119, 120, 121, 17, 21, 32, 33, 34, 35, 122, 123, 124, 125, 16, 126, 127, 128, 129, 130, 131, 132, 133, 134, 135, 136, 137, 138, 139, 140, 141, 24, 142, 143, 144, 145, 146, 147, 148, 149, 150, 151, 152, 153, 154, 155, 156, 157, 158, 159, 160, 161, 162, 163, 164, 165, 166, 28, 167, 168, 169, 170, 18, 171, 172, 173, 174, 175, 176, 177, 178, 179, 180, 181, 182, 183, 184, 185, 186, 187, 188, 189, 190, 191, 192, 193, 194, 195, 196, 197, 198, 199, 200, 201, 208, 209, 210, 211, 212, 213, 214, 215, 216, 217, 218, 219, 220, 221, 222, 223, 224, 225, 226, 227] (by decide +kernel) (by decide +kernel)
set_option maxRecDepth 20000 in
theorem gX5_tryText_X5_doOrder : GoodIn wsX5_tryText (wsV RX5 173 RX5 yX5_doOrder wsX5_doOrder) := goodIn_app (goodIn_of _ (by decide +kernel)) ggX5_tryText_X5_doOrder
theorem dX5_tryText_0 : decode cX5_tryText 0 = .ok (.aload_n 0, 1) := by decide +kernel
theorem dX5_tryText_1 : decode cX5_tryText 1 = .ok (.invokevirtual 40, 3) := by decide +kernel
theorem dX5_tryText_4 : decode cX5_tryText 4 = .ok (.aload_n 0, 1) := by decide +kernel
theorem dX5_tryText_5 : decode cX5_tryText 5 = .ok (.getfield 18, 3) := by decide +kernel
theorem dX5_tryText_8 : decode cX5_tryText 8 = .ok (.invokevirtual 147, 3) := by decide +kernel
theorem dX5_tryText_11 : decode cX5_tryText 11 = .ok (.aload_n 0, 1) := by decide +kernel
theorem dX5_tryText_12 : decode cX5_tryText 12 = .ok (.iconst 0, 1) := by decide +kernel
theorem dX5_tryText_13 : decode cX5_tryText 13 = .ok (.putfield 131, 3) := by decide +kernel
theorem dX5_tryText_16 : decode cX5_tryText 16 = .ok (.iconst 0, 1) := by decide +kernel
theorem dX5_tryText_17 : decode cX5_tryText 17 = .ok (.istore_n 1, 1) := by decide +kernel
theorem dX5_tryText_18 : decode cX5_tryText 18 = .ok (.iload_n 1, 1) := by decide +kernel
theorem dX5_tryText_19 : decode cX5_tryText 19 = .ok (.bipush 60, 2) := by decide +kernel
theorem dX5_tryText_21 : decode cX5_tryText 21 = .ok (.if_icmp .ge 126, 3) := by decide +kernel
theorem dX5_tryText_24 : decode cX5_tryText 24 = .ok (.aload_n 0, 1) := by decide +kernel
theorem dX5_tryText_25 : decode cX5_tryText 25 = .ok (.getfield 18, 3) := by decide +kernel
theorem dX5_tryText_28 : decode cX5_tryText 28 = .ok (.invokevirtual 150, 3) := by decide +kernel
theorem dX5_tryText_31 : decode cX5_tryText 31 = .ok (.ifCond .ne 116, 3) := by decide +kernel
theorem dX5_tryText_34 : decode cX5_tryText 34 = .ok (.aload_n 0, 1) := by decide +kernel
theorem dX5_tryText_35 : decode cX5_tryText 35 = .ok (.aload_n 0, 1) := by decide +kernel
theorem dX5_tryText_36 : decode cX5_tryText 36 = .ok (.getfield 18, 3) := by decide +kernel
theorem dX5_tryText_39 : decode cX5_tryText 39 = .ok (.getfield 154, 3) := by decide +kernel
theorem dX5_tryText_42 : decode cX5_tryText 42 = .ok (.putfield 134, 3) := by decide +kernel
theorem dX5_tryText_45 : decode cX5_tryText 45 = .ok (.aload_n 0, 1) := by decide +kernel
theorem dX5_tryText_46 : decode cX5_tryText 46 = .ok (.getfield 18, 3) := by decide +kernel
theorem dX5_tryText_49 : decode cX5_tryText 49 = .ok (.invokevirtual 157, 3) := by decide +kernel
theorem dX5_tryText_52 : decode cX5_tryText 52 = .ok (.ifCond .ne 11, 3) := by decide +kernel
theorem dX5_tryText_55 : decode cX5_tryText 55 = .ok (.aload_n 0, 1) := by decide +kernel
theorem dX5_tryText_56 : decode cX5_tryText 56 = .ok (.iconst 1, 1) := by decide +kernel
theorem dX5_tryText_57 : decode cX5_tryText 57 = .ok (.putfield 131, 3) := by decide +kernel
theorem dX5_tryText_60 : decode cX5_tryText 60 = .ok (.goto 72, 3) := by decide +kernel
theorem dX5_tryText_63 : decode cX5_tryText 63 = .ok (.aload_n 0, 1) := by decide +kernel
theorem dX5_tryText_64 : decode cX5_tryText 64 = .ok (.aload_n 0, 1) := by decide +kernel
theorem dX5_tryText_65 : decode cX5_tryText 65 = .ok (.getfield 18, 3) := by decide +kernel
theorem dX5_tryText_68 : decode cX5_tryText 68 = .ok (.getfield 160, 3) := by decide +kernel
theorem dX5_tryText_71 : decode cX5_tryText 71 = .ok (.aload_n 0, 1) := by decide +kernel
theorem dX5_tryText_72 : decode cX5_tryText 72 = .ok (.getfield 18, 3) := by decide +kernel
theorem dX5_tryText_75 : decode cX5_tryText 75 = .ok (.getfield 163, 3) := by decide +kernel
theorem dX5_tryText_78 : decode cX5_tryText 78 = .ok (.aload_n 0, 1) := by decide +kernel
theorem dX5_tryText_79 : decode cX5_tryText 79 = .ok (.getfield 18, 3) := by decide +kernel
theorem dX5_tryText_82 : decode cX5_tryText 82 = .ok (.getfield 166, 3) := by decide +kernel
theorem dX5_tryText_85 : decode cX5_tryText 85 = .ok (.invokevirtual 169, 3) := by decide +kernel
theorem dX5_tryText_88 : decode cX5_tryText 88 = .ok (.ifCond .ne 11, 3) := by decide +kernel
theorem dX5_tryText_91 : decode cX5_tryText 91 = .ok (.aload_n 0, 1) := by decide +kernel
theorem dX5_tryText_92 : decode cX5_tryText 92 = .ok (.iconst 2, 1) := by decide +kernel
theorem dX5_tryText_93 : decode cX5_tryText 93 = .ok (.putfield 131, 3) := by decide +kernel
theorem dX5_tryText_96 : decode cX5_tryText 96 = .ok (.goto 36, 3) := by decide +kernel
theorem dX5_tryText_99 : decode cX5_tryText 99 = .ok (.aload_n 0, 1) := by decide +kernel
theorem dX5_tryText_100 : decode cX5_tryText 100 = .ok (.aload_n 0, 1) := by decide +kernel
theorem dX5_tryText_101 : decode cX5_tryText 101 = .ok (.getfield 18, 3) := by decide +kernel
theorem dX5_tryText_104 : decode cX5_tryText 104 = .ok (.getfield 160, 3) := by decide +kernel
theorem dX5_tryText_107 : decode cX5_tryText 107 = .ok (.aload_n 0, 1) := by decide +kernel
theorem dX5_tryText_108 : decode cX5_tryText 108 = .ok (.getfield 18, 3) := by decide +kernel
theorem dX5_tryText_111 : decode cX5_tryText 111 = .ok (.getfield 163, 3) := by decide +kernel
theorem dX5_tryText_114 : decode cX5_tryText 114 = .ok (.aload_n 0, 1) := by decide +kernel
theorem dX5_tryText_115 : decode cX5_tryText 115 = .ok (.getfield 18, 3) := by decide +kernel
theorem dX5_tryText_118 : decode cX5_tryText 118 = .ok (.getfield 166, 3) := by decide +kernel
theorem dX5_tryText_121 : decode cX5_tryText 121 = .ok (.invokevirtual 173, 3) := by decide +kernel
theorem dX5_tryText_124 : decode cX5_tryText 124 = .ok (.ifCond .ge 8, 3) := by decide +kernel
theorem dX5_tryText_127 : decode cX5_tryText 127 = .ok (.aload_n 0, 1) := by decide +kernel
theorem dX5_tryText_128 : decode cX5_tryText 128 = .ok (.iconst 3, 1) := by decide +kernel
theorem dX5_tryText_129 : decode cX5_tryText 129 = .ok (.putfield 131, 3) := by decide +kernel
theorem dX5_tryText_132 : decode cX5_tryText 132 = .ok (.aload_n 0, 1) := by decide +kernel
theorem dX5_tryText_133 : decode cX5_tryText 133 = .ok (.getfield 131, 3) := by decide +kernel
theorem dX5_tryText_136 : decode cX5_tryText 136 = .ok (.ifCond .eq 5, 3) := by decide +kernel
theorem dX5_tryText_139 : decode cX5_tryText 139 = .ok (.iload_n 1, 1) := by decide +kernel
theorem dX5_tryText_140 : decode cX5_tryText 140 = .ok (.ireturn, 1) := by decide +kernel
theorem dX5_tryText_141 : decode cX5_tryText 141 = .ok (.iinc 1 1, 3) := by decide +kernel
theorem dX5_tryText_144 : decode cX5_tryText 144 = .ok (.goto (-126), 3) := by decide +kernel
theorem dX5_tryText_147 : decode cX5_tryText 147 = .ok (.iload_n 1, 1) := by decide +kernel
theorem dX5_tryText_148 : decode cX5_tryText 148 = .ok (.ireturn, 1) := by decide +kernel
set_option maxRecDepth 20000 in
theorem ggX5_hasGoodsAndSlots_X4_isGood : GoodIn wsX5_hasGoodsAndSlots wsX4_isGood := goodIn_r _ [6, 7, 21, 22, 23, 24, 25, 26, 27, 28, 29, 30, 31, 32, 33] (by decide +kernel) (by decide +kernel)
set_option maxRecDepth 20000 in
theorem gX5_hasGoodsAndSlots_X4_isGood : GoodIn wsX5_hasGoodsAndSlots (wsV RX5 176 RX4 yX4_isGood wsX4_isGood) := goodIn_app (goodIn_of _ (by decide +kernel)) ggX5_hasGoodsAndSlots_X4_isGood
set_option maxRecDepth 20000 in
theorem ggX5_hasGoodsAndSlots_X2_isSlot : GoodIn wsX5_hasGoodsAndSlots wsX2_isSlot := goodIn_r _ [11] (by decide +kernel) (by decide +kernel)
set_option maxRecDepth 20000 in
theorem gX5_hasGoodsAndSlots_X2_isSlot : GoodIn wsX5_hasGoodsAndSlots (va_wsS RX5 179 yX2_isSlot wsX2_isSlot) := goodIn_app (goodIn_of _ (by decide +kernel)) ggX5_hasGoodsAndSlots_X2_isSlot
theorem dX5_hasGoodsAndSlots_0 : decode cX5_hasGoodsAndSlots 0 = .ok (.iload_n 1, 1) := by decide +kernel
theorem dX5_hasGoodsAndSlots_1 : decode cX5_hasGoodsAndSlots 1 = .ok (.lookupswitch 89 #[(109, 37), (119, 35), (120, 61)], 35) := by decide +kernel
theorem dX5_hasGoodsAndSlots_36 : decode cX5_hasGoodsAndSlots 36 = .ok (.iconst 1, 1) := by decide +kernel
theorem dX5_hasGoodsAndSlots_37 : decode cX5_hasGoodsAndSlots 37 = .ok (.ireturn, 1) := by decide +kernel
theorem dX5_hasGoodsAndSlots_38 : decode cX5_hasGoodsAndSlots 38 = .ok (.aload_n 0, 1) := by decide +kernel
theorem dX5_hasGoodsAndSlots_39 : decode cX5_hasGoodsAndSlots 39 = .ok (.getfield 37, 3) := by decide +kernel
theorem dX5_hasGoodsAndSlots_42 : decode cX5_hasGoodsAndSlots 42 = .ok (.iload_n 2, 1) := by decide +kernel
theorem dX5_hasGoodsAndSlots_43 : decode cX5_hasGoodsAndSlots 43 = .ok (.invokevirtual 176, 3) := by decide +kernel
theorem dX5_hasGoodsAndSlots_46 : decode cX5_hasGoodsAndSlots 46 = .ok (.ifCond .eq 14, 3) := by decide +kernel
theorem dX5_hasGoodsAndSlots_49 : decode cX5_hasGoodsAndSlots 49 = .ok (.iload_n 3, 1) := by decide +kernel
theorem dX5_hasGoodsAndSlots_50 : decode cX5_hasGoodsAndSlots 50 = .ok (.invokestatic 179, 3) := by decide +kernel
theorem dX5_hasGoodsAndSlots_53 : decode cX5_hasGoodsAndSlots 53 = .ok (.ifCond .eq 7, 3) := by decide +kernel
theorem dX5_hasGoodsAndSlots_56 : decode cX5_hasGoodsAndSlots 56 = .ok (.iconst 1, 1) := by decide +kernel
theorem dX5_hasGoodsAndSlots_57 : decode cX5_hasGoodsAndSlots 57 = .ok (.goto 4, 3) := by decide +kernel
theorem dX5_hasGoodsAndSlots_60 : decode cX5_hasGoodsAndSlots 60 = .ok (.iconst 0, 1) := by decide +kernel
theorem dX5_hasGoodsAndSlots_61 : decode cX5_hasGoodsAndSlots 61 = .ok (.ireturn, 1) := by decide +kernel
theorem dX5_hasGoodsAndSlots_62 : decode cX5_hasGoodsAndSlots 62 = .ok (.aload_n 0, 1) := by decide +kernel
theorem dX5_hasGoodsAndSlots_63 : decode cX5_hasGoodsAndSlots 63 = .ok (.getfield 37, 3) := by decide +kernel
theorem dX5_hasGoodsAndSlots_66 : decode cX5_hasGoodsAndSlots 66 = .ok (.iload_n 2, 1) := by decide +kernel
theorem dX5_hasGoodsAndSlots_67 : decode cX5_hasGoodsAndSlots 67 = .ok (.invokevirtual 176, 3) := by decide +kernel
theorem dX5_hasGoodsAndSlots_70 : decode cX5_hasGoodsAndSlots 70 = .ok (.ifCond .eq 18, 3) := by decide +kernel
theorem dX5_hasGoodsAndSlots_73 : decode cX5_hasGoodsAndSlots 73 = .ok (.aload_n 0, 1) := by decide +kernel
theorem dX5_hasGoodsAndSlots_74 : decode cX5_hasGoodsAndSlots 74 = .ok (.getfield 37, 3) := by decide +kernel
theorem dX5_hasGoodsAndSlots_77 : decode cX5_hasGoodsAndSlots 77 = .ok (.iload_n 3, 1) := by decide +kernel
theorem dX5_hasGoodsAndSlots_78 : decode cX5_hasGoodsAndSlots 78 = .ok (.invokevirtual 176, 3) := by decide +kernel
theorem dX5_hasGoodsAndSlots_81 : decode cX5_hasGoodsAndSlots 81 = .ok (.ifCond .eq 7, 3) := by decide +kernel
theorem dX5_hasGoodsAndSlots_84 : decode cX5_hasGoodsAndSlots 84 = .ok (.iconst 1, 1) := by decide +kernel
theorem dX5_hasGoodsAndSlots_85 : decode cX5_hasGoodsAndSlots 85 = .ok (.goto 4, 3) := by decide +kernel
theorem dX5_hasGoodsAndSlots_88 : decode cX5_hasGoodsAndSlots 88 = .ok (.iconst 0, 1) := by decide +kernel
theorem dX5_hasGoodsAndSlots_89 : decode cX5_hasGoodsAndSlots 89 = .ok (.ireturn, 1) := by decide +kernel
theorem dX5_hasGoodsAndSlots_90 : decode cX5_hasGoodsAndSlots 90 = .ok (.aload_n 0, 1) := by decide +kernel
theorem dX5_hasGoodsAndSlots_91 : decode cX5_hasGoodsAndSlots 91 = .ok (.getfield 37, 3) := by decide +kernel
theorem dX5_hasGoodsAndSlots_94 : decode cX5_hasGoodsAndSlots 94 = .ok (.iload_n 2, 1) := by decide +kernel
theorem dX5_hasGoodsAndSlots_95 : decode cX5_hasGoodsAndSlots 95 = .ok (.invokevirtual 176, 3) := by decide +kernel
theorem dX5_hasGoodsAndSlots_98 : decode cX5_hasGoodsAndSlots 98 = .ok (.ireturn, 1) := by decide +kernel
set_option maxRecDepth 20000 in
theorem ggX5_doOrder_X4_pickUnits : GoodIn wsX5_doOrder wsX4_pickUnits := goodIn_r _ [6, 7, 8, 9, 10, 11, 12, 13, 14, 15, 5, 16, 17, 18, 19, 20, 21, 22, 23, 24, 25, 26, 27, 28, 29, 30, 31, 32, 33, 34, 35, 36, 37, 38, 39, 40, 41, 42, 43, 44, 45, 46, 47, 48, 49, 50, 51, 123, 124, 125, 126, 127, 128, 129, 130, 131, 132, 133, 134, 135, 136, 137, 138, 139, 140, 141, 142] (by decide +kernel) (by decide +kernel)
set_option maxRecDepth 20000 in
theorem gX5_doOrder_X4_pickUnits : GoodIn wsX5_doOrder (wsV RX5 73 RX4 yX4_pickUnits wsX4_pickUnits) := goodIn_app (goodIn_of _ (by decide +kernel)) ggX5_doOrder_X4_pickUnits
set_option maxRecDepth 20000 in
theorem ggX5_doOrder_X4_refillSlot : GoodIn wsX5_doOrder wsX4_refillSlot := goodIn_r _ [55, 13, 14, 15, 5, 16, 17, 21, 22, 23, 24, 9, 25, 26, 27, 28, 29, 30, 31, 32, 33, 7, 34, 35, 36, 37, 38, 39, 40, 41, 42, 43, 8, 12, 44, 45, 46, 47, 48, 49, 50, 51, 123, 124, 125, 126, 127, 128, 129, 130, 131, 132, 133, 134, 135, 136, 137, 138, 139, 140, 141, 142] (by decide +kernel) (by decide +kernel)
set_option maxRecDepth 20000 in
theorem gX5_doOrder_X4_refillSlot : GoodIn wsX5_doOrder (wsV RX5 76 RX4 yX4_refillSlot wsX4_refillSlot) := goodIn_app (goodIn_of _ (by decide +kernel)) ggX5_doOrder_X4_refillSlot
set_option maxRecDepth 20000 in
theorem ggX5_doOrder_X4_moveGood : GoodIn wsX5_doOrder wsX4_moveGood := goodIn_r _ [59, 60, 61, 13, 14, 15, 5, 16, 17, 25, 26, 27, 28, 62, 63, 64, 65, 9, 66, 67, 68, 69, 43, 70, 71, 72, 73, 74, 75, 76, 77, 12, 78, 79, 80, 81, 82, 83, 84, 85, 86, 87, 88, 89, 90, 91, 48, 49, 50, 51, 92, 93, 94, 95, 96, 97, 98, 99, 100, 37, 101, 102, 103, 104, 105, 123, 124, 125, 126, 127, 128, 129, 130, 131, 132, 133, 134, 135, 136, 137, 138, 139, 140, 141, 142] (by decide +kernel) (by decide +kernel)
set_option maxRecDepth 20000 in
theorem gX5_doOrder_X4_moveGood : GoodIn wsX5_doOrder (wsV RX5 83 RX4 yX4_moveGood wsX4_moveGood) := goodIn_app (goodIn_of _ (by decide +kernel)) ggX5_doOrder_X4_moveGood
set_option maxRecDepth 20000 in
theorem ggX5_doOrder_X4_exchangeGoods : GoodIn wsX5_doOrder wsX4_exchangeGoods := goodIn_r _ [109, 9, 61, 13, 14, 15, 5, 16, 17, 21, 22, 23, 24, 25, 26, 27, 28, 62, 63, 64, 65, 60, 66, 67, 68, 69, 43, 70, 71, 72, 73, 74, 75, 76, 77, 12, 78, 79, 80, 81, 82, 83, 84, 85, 86, 87, 88, 89, 90, 91, 48, 49, 50, 51, 92, 93, 94, 95, 96, 97, 98, 99, 100, 37, 101, 102, 103, 104, 105, 123, 124, 125, 126, 127, 128, 129, 130, 131, 132, 133, 134, 135, 136, 137, 138, 139, 140, 141, 142] (by decide +kernel) (by decide +kernel)
set_option maxRecDepth 20000 in
theorem gX5_doOrder_X4_exchangeGoods : GoodIn wsX5_doOrder (wsV RX5 86 RX4 yX4_exchangeGoods wsX4_exchangeGoods) := goodIn_app (goodIn_of _ (by decide +kernel)) ggX5_doOrder_X4_exchangeGoods
set_option maxRecDepth 20000 in
theorem ggX5_doOrder_X4_finishWeek : GoodIn wsX5_doOrder wsX4_finishWeek := goodIn_r _ [113, 86, 17, 11, 91, 35, 36, 37, 38, 82, 83, 84, 5, 85, 87, 88, 89, 90, 123, 124, 125, 126, 127, 128, 129, 130, 131, 132, 133, 134, 135] (by decide +kernel) (by decide +kernel)
set_option maxRecDepth 20000 in
theorem gX5_doOrder_X4_finishWeek : GoodIn wsX5_doOrder (wsV RX5 79 RX4 yX4_finishWeek wsX4_finishWeek) := goodIn_app (goodIn_of _ (by decide +kernel)) ggX5_doOrder_X4_finishWeek
theorem dX5_doOrder_0 : decode cX5_doOrder 0 = .ok (.iload_n 1, 1) := by decide +kernel
theorem dX5_doOrder_1 : decode cX5_doOrder 1 = .ok (.lookupswitch 82 #[(109, 62), (112, 43), (114, 53), (120, 72)], 43) := by decide +kernel
theorem dX5_doOrder_44 : decode cX5_doOrder 44 = .ok (.aload_n 0, 1) := by decide +kernel
theorem dX5_doOrder_45 : decode cX5_doOrder 45 = .ok (.getfield 37, 3) := by decide +kernel
theorem dX5_doOrder_48 : decode cX5_doOrder 48 = .ok (.iload_n 2, 1) := by decide +kernel
theorem dX5_doOrder_49 : decode cX5_doOrder 49 = .ok (.iload_n 3, 1) := by decide +kernel
theorem dX5_doOrder_50 : decode cX5_doOrder 50 = .ok (.invokevirtual 73, 3) := by decide +kernel
theorem dX5_doOrder_53 : decode cX5_doOrder 53 = .ok (.ireturn, 1) := by decide +kernel
theorem dX5_doOrder_54 : decode cX5_doOrder 54 = .ok (.aload_n 0, 1) := by decide +kernel
theorem dX5_doOrder_55 : decode cX5_doOrder 55 = .ok (.getfield 37, 3) := by decide +kernel
theorem dX5_doOrder_58 : decode cX5_doOrder 58 = .ok (.iload_n 2, 1) := by decide +kernel
theorem dX5_doOrder_59 : decode cX5_doOrder 59 = .ok (.invokevirtual 76, 3) := by decide +kernel
theorem dX5_doOrder_62 : decode cX5_doOrder 62 = .ok (.ireturn, 1) := by decide +kernel
theorem dX5_doOrder_63 : decode cX5_doOrder 63 = .ok (.aload_n 0, 1) := by decide +kernel
theorem dX5_doOrder_64 : decode cX5_doOrder 64 = .ok (.getfield 37, 3) := by decide +kernel
theorem dX5_doOrder_67 : decode cX5_doOrder 67 = .ok (.iload_n 2, 1) := by decide +kernel
theorem dX5_doOrder_68 : decode cX5_doOrder 68 = .ok (.iload_n 3, 1) := by decide +kernel
theorem dX5_doOrder_69 : decode cX5_doOrder 69 = .ok (.invokevirtual 83, 3) := by decide +kernel
theorem dX5_doOrder_72 : decode cX5_doOrder 72 = .ok (.ireturn, 1) := by decide +kernel
theorem dX5_doOrder_73 : decode cX5_doOrder 73 = .ok (.aload_n 0, 1) := by decide +kernel
theorem dX5_doOrder_74 : decode cX5_doOrder 74 = .ok (.getfield 37, 3) := by decide +kernel
theorem dX5_doOrder_77 : decode cX5_doOrder 77 = .ok (.iload_n 2, 1) := by decide +kernel
theorem dX5_doOrder_78 : decode cX5_doOrder 78 = .ok (.iload_n 3, 1) := by decide +kernel
theorem dX5_doOrder_79 : decode cX5_doOrder 79 = .ok (.invokevirtual 86, 3) := by decide +kernel
theorem dX5_doOrder_82 : decode cX5_doOrder 82 = .ok (.ireturn, 1) := by decide +kernel
theorem dX5_doOrder_83 : decode cX5_doOrder 83 = .ok (.aload_n 0, 1) := by decide +kernel
theorem dX5_doOrder_84 : decode cX5_doOrder 84 = .ok (.getfield 37, 3) := by decide +kernel
theorem dX5_doOrder_87 : decode cX5_doOrder 87 = .ok (.invokevirtual 79, 3) := by decide +kernel
theorem dX5_doOrder_90 : decode cX5_doOrder 90 = .ok (.ireturn, 1) := by decide +kernel
theorem dX5_isSeason_0 : decode cX5_isSeason 0 = .ok (.iload_n 0, 1) := by decide +kernel
theorem dX5_isSeason_1 : decode cX5_isSeason 1 = .ok (.ifCond .lt 12, 3) := by decide +kernel
theorem dX5_isSeason_4 : decode cX5_isSeason 4 = .ok (.iload_n 0, 1) := by decide +kernel
theorem dX5_isSeason_5 : decode cX5_isSeason 5 = .ok (.iconst 4, 1) := by decide +kernel
theorem dX5_isSeason_6 : decode cX5_isSeason 6 = .ok (.if_icmp .ge 7, 3) := by decide +kernel
theorem dX5_isSeason_9 : decode cX5_isSeason 9 = .ok (.iconst 1, 1) := by decide +kernel
theorem dX5_isSeason_10 : decode cX5_isSeason 10 = .ok (.goto 4, 3) := by decide +kernel
theorem dX5_isSeason_13 : decode cX5_isSeason 13 = .ok (.iconst 0, 1) := by decide +kernel
theorem dX5_isSeason_14 : decode cX5_isSeason 14 = .ok (.ireturn, 1) := by decide +kernel
theorem dX5_isIn_0 : decode cX5_isIn 0 = .ok (.iload_n 0, 1) := by decide +kernel
theorem dX5_isIn_1 : decode cX5_isIn 1 = .ok (.iload_n 1, 1) := by decide +kernel
theorem dX5_isIn_2 : decode cX5_isIn 2 = .ok (.if_icmp .lt 12, 3) := by decide +kernel
theorem dX5_isIn_5 : decode cX5_isIn 5 = .ok (.iload_n 0, 1) := by decide +kernel
theorem dX5_isIn_6 : decode cX5_isIn 6 = .ok (.iload_n 2, 1) := by decide +kernel
theorem dX5_isIn_7 : decode cX5_isIn 7 = .ok (.if_icmp .gt 7, 3) := by decide +kernel
theorem dX5_isIn_10 : decode cX5_isIn 10 = .ok (.iconst 1, 1) := by decide +kernel
theorem dX5_isIn_11 : decode cX5_isIn 11 = .ok (.goto 4, 3) := by decide +kernel
theorem dX5_isIn_14 : decode cX5_isIn 14 = .ok (.iconst 0, 1) := by decide +kernel
theorem dX5_isIn_15 : decode cX5_isIn 15 = .ok (.ireturn, 1) := by decide +kernel
end
section
theorem dJ9_abs_0f7a4_0 : decode cJ9_abs_0f7a4 0 = .ok (.iload_n 0, 1) := by decide +kernel
theorem dJ9_abs_0f7a4_1 : decode cJ9_abs_0f7a4 1 = .ok (.ifCond .ge 8, 3) := by decide +kernel
theorem dJ9_abs_0f7a4_4 : decode cJ9_abs_0f7a4 4 = .ok (.iload_n 0, 1) := by decide +kernel
theorem dJ9_abs_0f7a4_5 : decode cJ9_abs_0f7a4 5 = .ok (.ineg, 1) := by decide +kernel
theorem dJ9_abs_0f7a4_6 : decode cJ9_abs_0f7a4 6 = .ok (.goto 4, 3) := by decide +kernel
theorem dJ9_abs_0f7a4_9 : decode cJ9_abs_0f7a4 9 = .ok (.iload_n 0, 1) := by decide +kernel
theorem dJ9_abs_0f7a4_10 : decode cJ9_abs_0f7a4 10 = .ok (.ireturn, 1) := by decide +kernel
theorem dJ9_min_7cf53_0 : decode cJ9_min_7cf53 0 = .ok (.iload_n 0, 1) := by decide +kernel
theorem dJ9_min_7cf53_1 : decode cJ9_min_7cf53 1 = .ok (.iload_n 1, 1) := by decide +kernel
theorem dJ9_min_7cf53_2 : decode cJ9_min_7cf53 2 = .ok (.if_icmp .gt 7, 3) := by decide +kernel
theorem dJ9_min_7cf53_5 : decode cJ9_min_7cf53 5 = .ok (.iload_n 0, 1) := by decide +kernel
theorem dJ9_min_7cf53_6 : decode cJ9_min_7cf53 6 = .ok (.goto 4, 3) := by decide +kernel
theorem dJ9_min_7cf53_9 : decode cJ9_min_7cf53 9 = .ok (.iload_n 1, 1) := by decide +kernel
theorem dJ9_min_7cf53_10 : decode cJ9_min_7cf53 10 = .ok (.ireturn, 1) := by decide +kernel
theorem dL_cell_0 : decode cL_cell 0 = .ok (.iload_n 1, 1) := by decide +kernel
theorem dL_cell_1 : decode cL_cell 1 = .ok (.aload_n 0, 1) := by decide +kernel
theorem dL_cell_2 : decode cL_cell 2 = .ok (.arraylength, 1) := by decide +kernel
theorem dL_cell_3 : decode cL_cell 3 = .ok (.if_icmp .ge 9, 3) := by decide +kernel
theorem dL_cell_6 : decode cL_cell 6 = .ok (.aload_n 0, 1) := by decide +kernel
theorem dL_cell_7 : decode cL_cell 7 = .ok (.iload_n 1, 1) := by decide +kernel
theorem dL_cell_8 : decode cL_cell 8 = .ok (.iaload, 1) := by decide +kernel
theorem dL_cell_9 : decode cL_cell 9 = .ok (.goto 9, 3) := by decide +kernel
theorem dL_cell_12 : decode cL_cell 12 = .ok (.ldc 7, 2) := by decide +kernel
theorem dL_cell_14 : decode cL_cell 14 = .ok (.iload_n 1, 1) := by decide +kernel
theorem dL_cell_15 : decode cL_cell 15 = .ok (.iconst 3, 1) := by decide +kernel
theorem dL_cell_16 : decode cL_cell 16 = .ok (.iadd, 1) := by decide +kernel
theorem dL_cell_17 : decode cL_cell 17 = .ok (.imul, 1) := by decide +kernel
theorem dL_cell_18 : decode cL_cell 18 = .ok (.ireturn, 1) := by decide +kernel
theorem dL_up_0 : decode cL_up 0 = .ok (.iload_n 0, 1) := by decide +kernel
theorem dL_up_1 : decode cL_up 1 = .ok (.ldc 8, 2) := by decide +kernel
theorem dL_up_3 : decode cL_up 3 = .ok (.iand, 1) := by decide +kernel
theorem dL_up_4 : decode cL_up 4 = .ok (.iload_n 1, 1) := by decide +kernel
theorem dL_up_5 : decode cL_up 5 = .ok (.irem, 1) := by decide +kernel
theorem dL_up_6 : decode cL_up 6 = .ok (.ireturn, 1) := by decide +kernel
set_option maxRecDepth 20000 in
theorem ggL_mark_X5_account : GoodIn wsL_mark wsX5_account := goodIn_r _ [7, 8, 9, 10, 11, 12, 13, 14, 15, 16, 17, 18, 19, 20, 21, 22, 23, 24, 25, 26, 27, 28, 29, 30, 31, 32, 33, 34, 35, 36, 37, 38, 39, 40, 41, 42, 43, 91, 92, 93, 94, 95, 96, 97, 98, 99, 100, 101, 102, 103, 104, 105, 106, 107, 108, 109, 110, 111, 112, 113, 114, 115, 116, 117, 118, 119] (by decide +kernel) (by decide +kernel)
set_option maxRecDepth 20000 in
theorem gL_mark_X5_account : GoodIn wsL_mark (wsV RL 13 RX5 yX5_account wsX5_account) := goodIn_app (goodIn_of _ (by decide +kernel)) ggL_mark_X5_account
set_option maxRecDepth 20000 in
theorem ggL_mark_X5_count : GoodIn wsL_mark wsX5_count := goodIn_r _ [47, 48, 49, 8, 50, 51, 52, 12, 53, 25, 20, 54, 55, 56, 57, 58, 59, 60, 27, 28, 29, 30, 26, 31, 32, 33, 34, 16, 17, 18, 19, 61, 62, 63, 64, 65, 66, 67, 68, 91, 92, 93, 94, 95, 96, 97, 98, 99, 120, 121, 122, 123, 124, 125, 100, 101, 102, 103, 104, 105, 106, 107, 108, 109, 110, 111, 112] (by decide +kernel) (by decide +kernel)
set_option maxRecDepth 20000 in
theorem gL_mark_X5_count : GoodIn wsL_mark (wsV RL 19 RX5 yX5_count wsX5_count) := goodIn_app (goodIn_of _ (by decide +kernel)) ggL_mark_X5_count
set_option maxRecDepth 20000 in
theorem ggL_mark_X5_goodOf : GoodIn wsL_mark wsX5_goodOf := goodIn_r _ [72, 8, 73, 74, 75, 12, 76, 77, 78, 26, 54, 55, 79, 80, 81, 82, 83, 84, 25, 85, 6, 86, 27, 28, 29, 30, 31, 32, 33, 34, 87, 88, 89, 90, 35, 36, 37, 38, 39, 91, 92, 93, 94, 95, 96, 97, 98, 99, 100, 101, 102, 103, 104, 105, 106, 107, 108, 109, 110, 111, 112] (by decide +kernel) (by decide +kernel)
set_option maxRecDepth 20000 in
theorem gL_mark_X5_goodOf : GoodIn wsL_mark (wsV RL 22 RX5 yX5_goodOf wsX5_goodOf) := goodIn_app (goodIn_of _ (by decide +kernel)) ggL_mark_X5_goodOf
theorem dL_mark_0 : decode cL_mark 0 = .ok (.ldc2_w 9, 3) := by decide +kernel
theorem dL_mark_3 : decode cL_mark 3 = .ok (.lstore_n 1, 1) := by decide +kernel
theorem dL_mark_4 : decode cL_mark 4 = .ok (.iconst 0, 1) := by decide +kernel
theorem dL_mark_5 : decode cL_mark 5 = .ok (.istore_n 3, 1) := by decide +kernel
theorem dL_mark_6 : decode cL_mark 6 = .ok (.iload_n 3, 1) := by decide +kernel
theorem dL_mark_7 : decode cL_mark 7 = .ok (.bipush 8, 2) := by decide +kernel
theorem dL_mark_9 : decode cL_mark 9 = .ok (.if_icmp .ge 35, 3) := by decide +kernel
theorem dL_mark_12 : decode cL_mark 12 = .ok (.ldc2_w 11, 3) := by decide +kernel
theorem dL_mark_15 : decode cL_mark 15 = .ok (.lload_n 1, 1) := by decide +kernel
theorem dL_mark_16 : decode cL_mark 16 = .ok (.lmul, 1) := by decide +kernel
theorem dL_mark_17 : decode cL_mark 17 = .ok (.aload_n 0, 1) := by decide +kernel
theorem dL_mark_18 : decode cL_mark 18 = .ok (.iload_n 3, 1) := by decide +kernel
theorem dL_mark_19 : decode cL_mark 19 = .ok (.invokevirtual 13, 3) := by decide +kernel
theorem dL_mark_22 : decode cL_mark 22 = .ok (.i2l, 1) := by decide +kernel
theorem dL_mark_23 : decode cL_mark 23 = .ok (.ladd, 1) := by decide +kernel
theorem dL_mark_24 : decode cL_mark 24 = .ok (.lstore_n 1, 1) := by decide +kernel
theorem dL_mark_25 : decode cL_mark 25 = .ok (.ldc2_w 11, 3) := by decide +kernel
theorem dL_mark_28 : decode cL_mark 28 = .ok (.lload_n 1, 1) := by decide +kernel
theorem dL_mark_29 : decode cL_mark 29 = .ok (.lmul, 1) := by decide +kernel
theorem dL_mark_30 : decode cL_mark 30 = .ok (.aload_n 0, 1) := by decide +kernel
theorem dL_mark_31 : decode cL_mark 31 = .ok (.iload_n 3, 1) := by decide +kernel
theorem dL_mark_32 : decode cL_mark 32 = .ok (.invokevirtual 19, 3) := by decide +kernel
theorem dL_mark_35 : decode cL_mark 35 = .ok (.i2l, 1) := by decide +kernel
theorem dL_mark_36 : decode cL_mark 36 = .ok (.ladd, 1) := by decide +kernel
theorem dL_mark_37 : decode cL_mark 37 = .ok (.lstore_n 1, 1) := by decide +kernel
theorem dL_mark_38 : decode cL_mark 38 = .ok (.iinc 3 1, 3) := by decide +kernel
theorem dL_mark_41 : decode cL_mark 41 = .ok (.goto (-35), 3) := by decide +kernel
theorem dL_mark_44 : decode cL_mark 44 = .ok (.iconst 0, 1) := by decide +kernel
theorem dL_mark_45 : decode cL_mark 45 = .ok (.istore_n 3, 1) := by decide +kernel
theorem dL_mark_46 : decode cL_mark 46 = .ok (.iload_n 3, 1) := by decide +kernel
theorem dL_mark_47 : decode cL_mark 47 = .ok (.iconst 3, 1) := by decide +kernel
theorem dL_mark_48 : decode cL_mark 48 = .ok (.if_icmp .ge 25, 3) := by decide +kernel
theorem dL_mark_51 : decode cL_mark 51 = .ok (.ldc2_w 11, 3) := by decide +kernel
theorem dL_mark_54 : decode cL_mark 54 = .ok (.lload_n 1, 1) := by decide +kernel
theorem dL_mark_55 : decode cL_mark 55 = .ok (.lmul, 1) := by decide +kernel
theorem dL_mark_56 : decode cL_mark 56 = .ok (.aload_n 0, 1) := by decide +kernel
theorem dL_mark_57 : decode cL_mark 57 = .ok (.bipush 20, 2) := by decide +kernel
theorem dL_mark_59 : decode cL_mark 59 = .ok (.iload_n 3, 1) := by decide +kernel
theorem dL_mark_60 : decode cL_mark 60 = .ok (.iadd, 1) := by decide +kernel
theorem dL_mark_61 : decode cL_mark 61 = .ok (.invokevirtual 19, 3) := by decide +kernel
theorem dL_mark_64 : decode cL_mark 64 = .ok (.i2l, 1) := by decide +kernel
theorem dL_mark_65 : decode cL_mark 65 = .ok (.ladd, 1) := by decide +kernel
theorem dL_mark_66 : decode cL_mark 66 = .ok (.lstore_n 1, 1) := by decide +kernel
theorem dL_mark_67 : decode cL_mark 67 = .ok (.iinc 3 1, 3) := by decide +kernel
theorem dL_mark_70 : decode cL_mark 70 = .ok (.goto (-24), 3) := by decide +kernel
theorem dL_mark_73 : decode cL_mark 73 = .ok (.iconst 0, 1) := by decide +kernel
theorem dL_mark_74 : decode cL_mark 74 = .ok (.istore_n 3, 1) := by decide +kernel
theorem dL_mark_75 : decode cL_mark 75 = .ok (.iload_n 3, 1) := by decide +kernel
theorem dL_mark_76 : decode cL_mark 76 = .ok (.aload_n 0, 1) := by decide +kernel
theorem dL_mark_77 : decode cL_mark 77 = .ok (.iconst 0, 1) := by decide +kernel
theorem dL_mark_78 : decode cL_mark 78 = .ok (.invokevirtual 19, 3) := by decide +kernel
theorem dL_mark_81 : decode cL_mark 81 = .ok (.if_icmp .ge 40, 3) := by decide +kernel
theorem dL_mark_84 : decode cL_mark 84 = .ok (.iconst 0, 1) := by decide +kernel
theorem dL_mark_85 : decode cL_mark 85 = .ok (.istore 4, 2) := by decide +kernel
theorem dL_mark_87 : decode cL_mark 87 = .ok (.iload 4, 2) := by decide +kernel
theorem dL_mark_89 : decode cL_mark 89 = .ok (.bipush 11, 2) := by decide +kernel
theorem dL_mark_91 : decode cL_mark 91 = .ok (.if_icmp .ge 24, 3) := by decide +kernel
theorem dL_mark_94 : decode cL_mark 94 = .ok (.ldc2_w 11, 3) := by decide +kernel
theorem dL_mark_97 : decode cL_mark 97 = .ok (.lload_n 1, 1) := by decide +kernel
theorem dL_mark_98 : decode cL_mark 98 = .ok (.lmul, 1) := by decide +kernel
theorem dL_mark_99 : decode cL_mark 99 = .ok (.aload_n 0, 1) := by decide +kernel
theorem dL_mark_100 : decode cL_mark 100 = .ok (.iload_n 3, 1) := by decide +kernel
theorem dL_mark_101 : decode cL_mark 101 = .ok (.iload 4, 2) := by decide +kernel
theorem dL_mark_103 : decode cL_mark 103 = .ok (.invokevirtual 22, 3) := by decide +kernel
theorem dL_mark_106 : decode cL_mark 106 = .ok (.i2l, 1) := by decide +kernel
theorem dL_mark_107 : decode cL_mark 107 = .ok (.ladd, 1) := by decide +kernel
theorem dL_mark_108 : decode cL_mark 108 = .ok (.lstore_n 1, 1) := by decide +kernel
theorem dL_mark_109 : decode cL_mark 109 = .ok (.iinc 4 1, 3) := by decide +kernel
theorem dL_mark_112 : decode cL_mark 112 = .ok (.goto (-25), 3) := by decide +kernel
theorem dL_mark_115 : decode cL_mark 115 = .ok (.iinc 3 1, 3) := by decide +kernel
theorem dL_mark_118 : decode cL_mark 118 = .ok (.goto (-43), 3) := by decide +kernel
theorem dL_mark_121 : decode cL_mark 121 = .ok (.lload_n 1, 1) := by decide +kernel
theorem dL_mark_122 : decode cL_mark 122 = .ok (.lreturn, 1) := by decide +kernel
set_option maxRecDepth 20000 in
theorem ggL_fails_L_mark : GoodIn wsL_fails wsL_mark := goodIn_r _ [4, 5, 6, 7, 8, 9, 10, 11, 12, 13, 14, 15, 16, 17, 18, 19, 20, 21, 22, 23, 24, 25, 26, 27, 28, 29, 30, 31, 32, 33, 34, 35, 36, 37, 38, 39, 40, 41, 42, 43, 44, 45, 46, 47, 48, 49, 50, 51, 52, 53, 54, 55, 56, 57, 58, 59, 60, 61, 62, 63, 64, 65, 66, 67, 68, 69, 70, 71, 72, 73, 74, 75, 76, 77, 78, 79, 80, 81, 82, 83, 84, 85, 86, 87, 88, 89, 90, 91, 92, 93, 94, 416, 417, 418, 419, 420, 421, 422, 423, 424, 425, 426, 427, 428, 429, 430, 431, 432, 433, 434, 435, 436, 437, 438, 439, 440, 441, 442, 443, 444, 445, 446, 447, 448, 449, 450] (by decide +kernel) (by decide +kernel)
set_option maxRecDepth 20000 in
theorem gL_fails_L_mark : GoodIn wsL_fails (va_wsS RL 26 yL_mark wsL_mark) := goodIn_app (goodIn_of _ (by decide +kernel)) ggL_fails_L_mark
set_option maxRecDepth 20000 in
theorem ggL_fails_X5_count : GoodIn wsL_fails wsX5_count := goodIn_r _ [51, 52, 53, 12, 54, 55, 56, 16, 57, 29, 24, 58, 59, 60, 61, 62, 63, 64, 31, 32, 33, 34, 30, 35, 36, 37, 38, 20, 21, 22, 23, 65, 66, 67, 68, 69, 70, 71, 72, 416, 417, 418, 419, 420, 421, 422, 423, 424, 445, 446, 447, 448, 449, 450, 425, 426, 427, 428, 429, 430, 431, 432, 433, 434, 435, 436, 437] (by decide +kernel) (by decide +kernel)
set_option maxRecDepth 20000 in
theorem gL_fails_X5_count : GoodIn wsL_fails (wsV RL 19 RX5 yX5_count wsX5_count) := goodIn_app (goodIn_of _ (by decide +kernel)) ggL_fails_X5_count
set_option maxRecDepth 20000 in
theorem ggL_fails_X5_good : GoodIn wsL_fails wsX5_good := goodIn_r _ [98, 99, 100, 101, 102, 10, 103, 12, 104, 105, 106, 16, 107, 81, 82, 43, 30, 58, 59, 83, 84, 108, 60, 18, 29, 24, 109, 110, 111, 112, 113, 114, 115, 116, 117, 118, 119, 120, 121, 122, 123, 124, 125, 126, 127, 128, 129, 130, 131, 132, 133, 134, 135, 89, 90, 136, 137, 138, 139, 140, 141, 142, 143, 52, 144, 145, 146, 147, 148, 416, 417, 418, 419, 420, 421, 422, 423, 424, 425, 426, 427, 428, 429, 430, 431, 432, 433, 434, 435, 436, 437, 438, 439, 440, 441, 442, 443, 444] (by decide +kernel) (by decide +kernel)
set_option maxRecDepth 20000 in
theorem gL_fails_X5_good : GoodIn wsL_fails (wsV RL 32 RX5 yX5_good wsX5_good) := goodIn_app (goodIn_of _ (by decide +kernel)) ggL_fails_X5_good
set_option maxRecDepth 20000 in
theorem ggL_fails_X5_demand : GoodIn wsL_fails wsX5_demand := goodIn_r _ [152, 99, 100, 101, 102, 10, 103, 12, 104, 105, 106, 16, 107, 81, 82, 43, 30, 58, 59, 83, 84, 108, 60, 18, 29, 24, 109, 110, 111, 112, 113, 114, 115, 116, 117, 118, 119, 120, 121, 122, 123, 124, 125, 126, 127, 128, 129, 130, 131, 153, 154, 155, 156, 85, 86, 87, 88, 157, 158, 89, 90, 39, 40, 41, 42, 136, 137, 138, 139, 140, 141, 142, 143, 52, 144, 145, 146, 147, 148, 416, 417, 418, 419, 420, 421, 422, 423, 424, 425, 426, 427, 428, 429, 430, 431, 432, 433, 434, 435, 436, 437, 438, 439, 440, 441, 442, 443, 444] (by decide +kernel) (by decide +kernel)
set_option maxRecDepth 20000 in
theorem gL_fails_X5_demand : GoodIn wsL_fails (wsV RL 35 RX5 yX5_demand wsX5_demand) := goodIn_app (goodIn_of _ (by decide +kernel)) ggL_fails_X5_demand
set_option maxRecDepth 20000 in
theorem ggL_fails_X5_deliver : GoodIn wsL_fails wsX5_deliver := goodIn_r _ [162, 99, 100, 101, 102, 10, 103, 12, 104, 105, 106, 16, 107, 81, 82, 43, 30, 58, 59, 83, 84, 108, 60, 18, 29, 24, 109, 110, 111, 112, 113, 114, 115, 116, 117, 118, 119, 120, 121, 122, 123, 124, 125, 126, 127, 128, 129, 130, 131, 163, 164, 165, 166, 167, 85, 86, 87, 88, 89, 90, 136, 137, 138, 139, 140, 141, 142, 143, 52, 144, 145, 146, 147, 148, 416, 417, 418, 419, 420, 421, 422, 423, 424, 425, 426, 427, 428, 429, 430, 431, 432, 433, 434, 435, 436, 437, 438, 439, 440, 441, 442, 443, 444] (by decide +kernel) (by decide +kernel)
set_option maxRecDepth 20000 in
theorem gL_fails_X5_deliver : GoodIn wsL_fails (wsV RL 39 RX5 yX5_deliver wsX5_deliver) := goodIn_app (goodIn_of _ (by decide +kernel)) ggL_fails_X5_deliver
set_option maxRecDepth 20000 in
theorem ggL_fails_X5_place : GoodIn wsL_fails wsX5_place := goodIn_r _ [171, 99, 100, 101, 102, 10, 103, 12, 104, 105, 106, 16, 107, 81, 82, 43, 30, 58, 59, 83, 84, 108, 60, 18, 29, 24, 109, 110, 111, 112, 113, 114, 115, 116, 117, 118, 119, 120, 121, 122, 123, 124, 125, 126, 127, 128, 129, 130, 131, 172, 173, 174, 175, 85, 86, 87, 88, 35, 36, 37, 38, 31, 32, 33, 34, 176, 177, 178, 179, 180, 181, 182, 94, 183, 184, 185, 186, 44, 45, 46, 47, 136, 137, 138, 139, 140, 141, 142, 143, 52, 144, 145, 146, 147, 148, 416, 417, 418, 419, 420, 421, 422, 423, 424, 425, 426, 427, 428, 429, 430, 431, 432, 433, 434, 435, 436, 437, 438, 439, 440, 441, 442, 443, 444] (by decide +kernel) (by decide +kernel)
set_option maxRecDepth 20000 in
theorem gL_fails_X5_place : GoodIn wsL_fails (wsV RL 42 RX5 yX5_place wsX5_place) := goodIn_app (goodIn_of _ (by decide +kernel)) ggL_fails_X5_place
set_option maxRecDepth 20000 in
theorem ggL_fails_X5_take : GoodIn wsL_fails wsX5_take := goodIn_r _ [190, 99, 100, 101, 102, 10, 103, 12, 104, 105, 106, 16, 107, 81, 82, 43, 30, 58, 59, 83, 84, 108, 60, 18, 29, 24, 109, 110, 111, 112, 113, 114, 115, 116, 117, 118, 119, 120, 121, 122, 123, 124, 125, 126, 127, 128, 129, 130, 131, 191, 192, 193, 194, 85, 86, 87, 88, 31, 32, 33, 34, 35, 36, 37, 38, 136, 137, 138, 139, 140, 141, 142, 143, 52, 144, 145, 146, 147, 148, 416, 417, 418, 419, 420, 421, 422, 423, 424, 425, 426, 427, 428, 429, 430, 431, 432, 433, 434, 435, 436, 437, 438, 439, 440, 441, 442, 443, 444] (by decide +kernel) (by decide +kernel)
set_option maxRecDepth 20000 in
theorem gL_fails_X5_take : GoodIn wsL_fails (wsV RL 45 RX5 yX5_take wsX5_take) := goodIn_app (goodIn_of _ (by decide +kernel)) ggL_fails_X5_take
set_option maxRecDepth 20000 in
theorem ggL_fails_X5_goodOf : GoodIn wsL_fails wsX5_goodOf := goodIn_r _ [76, 12, 77, 78, 79, 16, 80, 81, 82, 30, 58, 59, 83, 84, 85, 86, 87, 88, 29, 89, 10, 90, 31, 32, 33, 34, 35, 36, 37, 38, 91, 92, 93, 94, 39, 40, 41, 42, 43, 416, 417, 418, 419, 420, 421, 422, 423, 424, 425, 426, 427, 428, 429, 430, 431, 432, 433, 434, 435, 436, 437] (by decide +kernel) (by decide +kernel)
set_option maxRecDepth 20000 in
theorem gL_fails_X5_goodOf : GoodIn wsL_fails (wsV RL 22 RX5 yX5_goodOf wsX5_goodOf) := goodIn_app (goodIn_of _ (by decide +kernel)) ggL_fails_X5_goodOf
set_option maxRecDepth 20000 in
theorem ggL_fails_X5_slotOf : GoodIn wsL_fails wsX5_slotOf := goodIn_r _ [198, 12, 199, 200, 201, 16, 202, 108, 35, 36, 37, 38, 85, 86, 87, 88, 29, 44, 45, 46, 47, 180, 181, 182, 94, 416, 417, 418, 419, 420, 421, 422, 423, 424, 425, 426, 427, 428, 429, 430, 431, 432, 433, 434, 435, 436, 437] (by decide +kernel) (by decide +kernel)
set_option maxRecDepth 20000 in
theorem gL_fails_X5_slotOf : GoodIn wsL_fails (wsV RL 48 RX5 yX5_slotOf wsX5_slotOf) := goodIn_app (goodIn_of _ (by decide +kernel)) ggL_fails_X5_slotOf
set_option maxRecDepth 20000 in
theorem ggL_fails_X5_nearest : GoodIn wsL_fails wsX5_nearest := goodIn_r _ [206, 12, 207, 208, 209, 16, 210, 108, 85, 86, 87, 88, 29, 176, 177, 178, 179, 81, 180, 181, 37, 182, 94, 44, 45, 46, 47, 416, 417, 418, 419, 420, 421, 422, 423, 424, 425, 426, 427, 428, 429, 430, 431, 432, 433, 434, 435, 436, 437] (by decide +kernel) (by decide +kernel)
set_option maxRecDepth 20000 in
theorem gL_fails_X5_nearest : GoodIn wsL_fails (wsV RL 51 RX5 yX5_nearest wsX5_nearest) := goodIn_app (goodIn_of _ (by decide +kernel)) ggL_fails_X5_nearest
set_option maxRecDepth 20000 in
theorem ggL_fails_X5_pick : GoodIn wsL_fails wsX5_pick := goodIn_r _ [214, 99, 100, 101, 102, 10, 103, 12, 104, 105, 106, 16, 107, 81, 82, 43, 30, 58, 59, 83, 84, 108, 60, 18, 29, 24, 109, 110, 111, 112, 113, 114, 115, 116, 117, 118, 119, 120, 121, 122, 123, 124, 125, 126, 127, 128, 129, 130, 131, 215, 216, 217, 218, 85, 86, 87, 88, 89, 90, 31, 32, 33, 34, 35, 36, 37, 38, 219, 220, 221, 222, 223, 224, 225, 226, 227, 228, 229, 230, 44, 45, 46, 47, 136, 137, 138, 139, 140, 141, 142, 143, 52, 144, 145, 146, 147, 148, 416, 417, 418, 419, 420, 421, 422, 423, 424, 425, 426, 427, 428, 429, 430, 431, 432, 433, 434, 435, 436, 437, 438, 439, 440, 441, 442, 443, 444] (by decide +kernel) (by decide +kernel)
set_option maxRecDepth 20000 in
theorem gL_fails_X5_pick : GoodIn wsL_fails (wsV RL 54 RX5 yX5_pick wsX5_pick) := goodIn_app (goodIn_of _ (by decide +kernel)) ggL_fails_X5_pick
set_option maxRecDepth 20000 in
theorem ggL_fails_X5_refill : GoodIn wsL_fails wsX5_refill := goodIn_r _ [234, 99, 100, 101, 102, 10, 103, 12, 104, 105, 106, 16, 107, 81, 82, 43, 30, 58, 59, 83, 84, 108, 60, 18, 29, 24, 109, 110, 111, 112, 113, 114, 115, 116, 117, 118, 119, 120, 121, 122, 123, 124, 125, 126, 127, 128, 129, 130, 131, 235, 236, 237, 238, 85, 86, 87, 88, 31, 32, 33, 34, 35, 36, 37, 38, 219, 220, 221, 222, 223, 224, 225, 226, 227, 228, 229, 230, 44, 45, 46, 47, 136, 137, 138, 139, 140, 141, 142, 143, 52, 144, 145, 146, 147, 148, 416, 417, 418, 419, 420, 421, 422, 423, 424, 425, 426, 427, 428, 429, 430, 431, 432, 433, 434, 435, 436, 437, 438, 439, 440, 441, 442, 443, 444] (by decide +kernel) (by decide +kernel)
set_option maxRecDepth 20000 in
theorem gL_fails_X5_refill : GoodIn wsL_fails (wsV RL 57 RX5 yX5_refill wsX5_refill) := goodIn_app (goodIn_of _ (by decide +kernel)) ggL_fails_X5_refill
set_option maxRecDepth 20000 in
theorem ggL_fails_X5_move : GoodIn wsL_fails wsX5_move := goodIn_r _ [242, 99, 100, 101, 102, 10, 103, 12, 104, 105, 106, 16, 107, 81, 82, 43, 30, 58, 59, 83, 84, 108, 60, 18, 29, 24, 109, 110, 111, 112, 113, 114, 115, 116, 117, 118, 119, 120, 121, 122, 123, 124, 125, 126, 127, 128, 129, 130, 131, 243, 244, 245, 246, 19, 85, 86, 87, 88, 35, 36, 37, 38, 247, 248, 249, 250, 176, 177, 178, 179, 180, 181, 182, 94, 251, 252, 253, 254, 255, 256, 257, 258, 20, 21, 22, 23, 39, 40, 41, 42, 44, 45, 46, 47, 259, 260, 261, 262, 263, 264, 265, 266, 267, 268, 183, 184, 185, 186, 136, 137, 138, 139, 140, 141, 142, 143, 52, 144, 145, 146, 147, 148, 416, 417, 418, 419, 420, 421, 422, 423, 424, 425, 426, 427, 428, 429, 430, 431, 432, 433, 434, 435, 436, 437, 438, 439, 440, 441, 442, 443, 444] (by decide +kernel) (by decide +kernel)
set_option maxRecDepth 20000 in
theorem gL_fails_X5_move : GoodIn wsL_fails (wsV RL 60 RX5 yX5_move wsX5_move) := goodIn_app (goodIn_of _ (by decide +kernel)) ggL_fails_X5_move
set_option maxRecDepth 20000 in
theorem ggL_fails_X5_exchange : GoodIn wsL_fails wsX5_exchange := goodIn_r _ [272, 99, 100, 101, 102, 10, 103, 12, 104, 105, 106, 16, 107, 81, 82, 43, 30, 58, 59, 83, 84, 108, 60, 18, 29, 24, 109, 110, 111, 112, 113, 114, 115, 116, 117, 118, 119, 120, 121, 122, 123, 124, 125, 126, 127, 128, 129, 130, 131, 273, 274, 275, 276, 19, 85, 86, 87, 88, 31, 32, 33, 34, 35, 36, 37, 38, 247, 248, 249, 250, 176, 177, 178, 179, 180, 181, 182, 94, 251, 252, 253, 254, 255, 256, 257, 258, 20, 21, 22, 23, 39, 40, 41, 42, 44, 45, 46, 47, 259, 260, 261, 262, 263, 264, 265, 266, 267, 268, 183, 184, 185, 186, 136, 137, 138, 139, 140, 141, 142, 143, 52, 144, 145, 146, 147, 148, 416, 417, 418, 419, 420, 421, 422, 423, 424, 425, 426, 427, 428, 429, 430, 431, 432, 433, 434, 435, 436, 437, 438, 439, 440, 441, 442, 443, 444] (by decide +kernel) (by decide +kernel)
set_option maxRecDepth 20000 in
theorem gL_fails_X5_exchange : GoodIn wsL_fails (wsV RL 63 RX5 yX5_exchange wsX5_exchange) := goodIn_app (goodIn_of _ (by decide +kernel)) ggL_fails_X5_exchange
set_option maxRecDepth 20000 in
theorem ggL_fails_X5_worth : GoodIn wsL_fails wsX5_worth := goodIn_r _ [280, 12, 281, 282, 283, 16, 284, 19, 85, 86, 87, 88, 29, 35, 36, 37, 38, 89, 10, 90, 247, 248, 249, 250, 30, 108, 176, 177, 178, 179, 81, 180, 181, 182, 94, 259, 260, 261, 262, 263, 264, 265, 266, 267, 114, 268, 47, 285, 286, 287, 288, 255, 256, 257, 258, 20, 21, 22, 23, 24, 39, 40, 41, 42, 43, 44, 45, 46, 65, 66, 67, 68, 416, 417, 418, 419, 420, 421, 422, 423, 424, 425, 426, 427, 428, 429, 430, 431, 432, 433, 434, 435, 436, 437] (by decide +kernel) (by decide +kernel)
set_option maxRecDepth 20000 in
theorem gL_fails_X5_worth : GoodIn wsL_fails (wsV RL 66 RX5 yX5_worth wsX5_worth) := goodIn_app (goodIn_of _ (by decide +kernel)) ggL_fails_X5_worth
set_option maxRecDepth 20000 in
theorem ggL_fails_X5_best : GoodIn wsL_fails wsX5_best := goodIn_r _ [292, 12, 293, 294, 295, 16, 296, 89, 10, 90, 297, 298, 299, 300, 29, 247, 248, 249, 250, 30, 108, 35, 36, 37, 38, 176, 177, 178, 179, 81, 180, 181, 182, 94, 85, 86, 87, 88, 285, 286, 287, 288, 255, 256, 257, 258, 20, 21, 22, 23, 24, 39, 40, 41, 42, 43, 44, 45, 46, 47, 65, 66, 67, 68, 259, 260, 261, 262, 263, 264, 265, 266, 267, 114, 268, 416, 417, 418, 419, 420, 421, 422, 423, 424, 425, 426, 427, 428, 429, 430, 431, 432, 433, 434, 435, 436, 437] (by decide +kernel) (by decide +kernel)
set_option maxRecDepth 20000 in
theorem gL_fails_X5_best : GoodIn wsL_fails (wsV RL 69 RX5 yX5_best wsX5_best) := goodIn_app (goodIn_of _ (by decide +kernel)) ggL_fails_X5_best
set_option maxRecDepth 20000 in
theorem ggL_fails_X5_improve : GoodIn wsL_fails wsX5_improve := goodIn_r _ [304, 99, 100, 101, 102, 10, 103, 12, 104, 105, 106, 16, 107, 81, 82, 43, 30, 58, 59, 83, 84, 108, 60, 18, 29, 24, 109, 110, 111, 112, 113, 114, 115, 116, 117, 118, 119, 120, 121, 122, 123, 124, 125, 126, 127, 128, 129, 130, 131, 305, 306, 307, 308, 89, 90, 297, 298, 299, 300, 247, 248, 249, 250, 35, 36, 37, 38, 176, 177, 178, 179, 180, 181, 182, 94, 85, 86, 87, 88, 285, 286, 287, 288, 255, 256, 257, 258, 20, 21, 22, 23, 39, 40, 41, 42, 44, 45, 46, 47, 65, 66, 67, 68, 259, 260, 261, 262, 263, 264, 265, 266, 267, 268, 251, 252, 253, 254, 183, 184, 185, 186, 136, 137, 138, 139, 140, 141, 142, 143, 52, 144, 145, 146, 147, 148, 416, 417, 418, 419, 420, 421, 422, 423, 424, 425, 426, 427, 428, 429, 430, 431, 432, 433, 434, 435, 436, 437, 438, 439, 440, 441, 442, 443, 444] (by decide +kernel) (by decide +kernel)
set_option maxRecDepth 20000 in
theorem gL_fails_X5_improve : GoodIn wsL_fails (wsV RL 72 RX5 yX5_improve wsX5_improve) := goodIn_app (goodIn_of _ (by decide +kernel)) ggL_fails_X5_improve
set_option maxRecDepth 20000 in
theorem ggL_fails_X5_weekly : GoodIn wsL_fails wsX5_weekly := goodIn_r _ [312, 12, 313, 157, 10, 158, 314, 26, 27, 16, 28, 29, 30, 31, 32, 33, 34, 35, 36, 37, 38, 39, 40, 41, 42, 43, 44, 45, 46, 47, 416, 417, 418, 419, 420, 421, 422, 423, 424, 425, 426, 427, 428, 429, 430, 431, 432, 433, 434, 435, 436, 437] (by decide +kernel) (by decide +kernel)
set_option maxRecDepth 20000 in
theorem gL_fails_X5_weekly : GoodIn wsL_fails (wsV RL 75 RX5 yX5_weekly wsX5_weekly) := goodIn_app (goodIn_of _ (by decide +kernel)) ggL_fails_X5_weekly
set_option maxRecDepth 20000 in
theorem ggL_fails_X5_atBest : GoodIn wsL_fails wsX5_atBest := goodIn_r _ [318, 12, 319, 320, 313, 157, 10, 158, 321, 322, 323, 16, 324, 29, 30, 31, 32, 33, 34, 35, 36, 37, 38, 39, 40, 41, 42, 43, 325, 326, 327, 328, 329, 330, 331, 44, 45, 46, 47, 332, 333, 334, 335, 416, 417, 418, 419, 420, 421, 422, 423, 424, 451, 452, 425, 426, 427, 428, 429, 430, 431, 432, 433, 434, 435, 436, 437] (by decide +kernel) (by decide +kernel)
set_option maxRecDepth 20000 in
theorem gL_fails_X5_atBest : GoodIn wsL_fails (wsV RL 78 RX5 yX5_atBest wsX5_atBest) := goodIn_app (goodIn_of _ (by decide +kernel)) ggL_fails_X5_atBest
set_option maxRecDepth 20000 in
theorem ggL_fails_X5_account : GoodIn wsL_fails wsX5_account := goodIn_r _ [11, 12, 13, 14, 15, 16, 17, 18, 19, 20, 21, 22, 23, 24, 25, 26, 27, 28, 29, 30, 31, 32, 33, 34, 35, 36, 37, 38, 39, 40, 41, 42, 43, 44, 45, 46, 47, 416, 417, 418, 419, 420, 421, 422, 423, 424, 425, 426, 427, 428, 429, 430, 431, 432, 433, 434, 435, 436, 437, 438, 439, 440, 441, 442, 443, 444] (by decide +kernel) (by decide +kernel)
set_option maxRecDepth 20000 in
theorem gL_fails_X5_account : GoodIn wsL_fails (wsV RL 13 RX5 yX5_account wsX5_account) := goodIn_app (goodIn_of _ (by decide +kernel)) ggL_fails_X5_account
set_option maxRecDepth 20000 in
theorem ggL_fails_X5_set : GoodIn wsL_fails wsX5_set := goodIn_r _ [339, 99, 100, 101, 102, 10, 103, 12, 104, 105, 106, 16, 107, 81, 82, 43, 30, 58, 59, 83, 84, 108, 60, 18, 29, 24, 109, 110, 111, 112, 113, 114, 115, 116, 117, 118, 119, 120, 121, 122, 123, 124, 125, 126, 127, 128, 129, 130, 131, 340, 341, 342, 343, 344, 345, 89, 90, 136, 137, 138, 139, 140, 141, 142, 143, 52, 144, 145, 146, 147, 148, 416, 417, 418, 419, 420, 421, 422, 423, 424, 425, 426, 427, 428, 429, 430, 431, 432, 433, 434, 435, 436, 437, 438, 439, 440, 441, 442, 443, 444] (by decide +kernel) (by decide +kernel)
set_option maxRecDepth 20000 in
theorem gL_fails_X5_set : GoodIn wsL_fails (wsV RL 81 RX5 yX5_set wsX5_set) := goodIn_app (goodIn_of _ (by decide +kernel)) ggL_fails_X5_set
set_option maxRecDepth 20000 in
theorem ggL_fails_X5_type : GoodIn wsL_fails wsX5_type := goodIn_r _ [349, 53, 350, 351, 352, 353, 354, 355, 356, 89, 10, 90, 416, 417, 418, 419, 420, 421, 422, 423, 424, 445, 446, 447, 448, 449, 450] (by decide +kernel) (by decide +kernel)
set_option maxRecDepth 20000 in
theorem gL_fails_X5_type : GoodIn wsL_fails (wsV RL 84 RX5 yX5_type wsX5_type) := goodIn_app (goodIn_of _ (by decide +kernel)) ggL_fails_X5_type
set_option maxRecDepth 20000 in
theorem ggL_fails_X5_fault : GoodIn wsL_fails wsX5_fault := goodIn_r _ [360, 361, 362, 363, 364, 365, 10, 366, 53, 100, 101, 102, 103, 99, 12, 104, 105, 106, 16, 107, 81, 82, 43, 30, 58, 59, 83, 84, 108, 60, 18, 29, 24, 109, 110, 111, 112, 113, 114, 115, 116, 117, 118, 119, 120, 121, 122, 123, 124, 125, 126, 127, 128, 129, 130, 131, 367, 368, 369, 353, 370, 371, 372, 373, 374, 375, 355, 376, 377, 378, 379, 380, 381, 382, 383, 384, 385, 356, 386, 387, 388, 389, 390, 391, 392, 393, 394, 395, 396, 397, 398, 399, 400, 401, 402, 403, 404, 405, 406, 86, 87, 88, 407, 36, 37, 38, 408, 409, 410, 411, 215, 216, 217, 218, 85, 89, 90, 31, 32, 33, 34, 35, 219, 220, 221, 222, 223, 224, 225, 226, 227, 228, 229, 230, 44, 45, 46, 47, 235, 236, 237, 238, 243, 244, 245, 246, 19, 247, 248, 249, 250, 176, 177, 178, 179, 180, 181, 182, 94, 251, 252, 253, 254, 255, 256, 257, 258, 20, 21, 22, 23, 39, 40, 41, 42, 259, 260, 261, 262, 263, 264, 265, 266, 267, 268, 183, 184, 185, 186, 273, 274, 275, 276, 412, 413, 414, 415, 416, 417, 418, 419, 420, 421, 422, 423, 424, 445, 446, 447, 448, 449, 450, 425, 426, 427, 428, 429, 430, 431, 432, 433, 434, 435, 436, 437, 438, 439, 440, 441, 442, 443, 444] (by decide +kernel) (by decide +kernel)
set_option maxRecDepth 20000 in
theorem gL_fails_X5_fault : GoodIn wsL_fails (wsV RL 87 RX5 yX5_fault wsX5_fault) := goodIn_app (goodIn_of _ (by decide +kernel)) ggL_fails_X5_fault
theorem dL_fails_0 : decode cL_fails 0 = .ok (.aload_n 0, 1) := by decide +kernel
theorem dL_fails_1 : decode cL_fails 1 = .ok (.invokestatic 26, 3) := by decide +kernel
theorem dL_fails_4 : decode cL_fails 4 = .ok (.lstore_n 1, 1) := by decide +kernel
theorem dL_fails_5 : decode cL_fails 5 = .ok (.aload_n 0, 1) := by decide +kernel
theorem dL_fails_6 : decode cL_fails 6 = .ok (.bipush 8, 2) := by decide +kernel
theorem dL_fails_8 : decode cL_fails 8 = .ok (.invokevirtual 19, 3) := by decide +kernel
theorem dL_fails_11 : decode cL_fails 11 = .ok (.istore_n 3, 1) := by decide +kernel
theorem dL_fails_12 : decode cL_fails 12 = .ok (.aload_n 0, 1) := by decide +kernel
theorem dL_fails_13 : decode cL_fails 13 = .ok (.iconst 0, 1) := by decide +kernel
theorem dL_fails_14 : decode cL_fails 14 = .ok (.invokevirtual 19, 3) := by decide +kernel
theorem dL_fails_17 : decode cL_fails 17 = .ok (.istore 4, 2) := by decide +kernel
theorem dL_fails_19 : decode cL_fails 19 = .ok (.aload_n 0, 1) := by decide +kernel
theorem dL_fails_20 : decode cL_fails 20 = .ok (.iconst 0, 1) := by decide +kernel
theorem dL_fails_21 : decode cL_fails 21 = .ok (.iconst 1, 1) := by decide +kernel
theorem dL_fails_22 : decode cL_fails 22 = .ok (.invokevirtual 32, 3) := by decide +kernel
theorem dL_fails_25 : decode cL_fails 25 = .ok (.iconst (-1), 1) := by decide +kernel
theorem dL_fails_26 : decode cL_fails 26 = .ok (.if_icmp .ne 152, 3) := by decide +kernel
theorem dL_fails_29 : decode cL_fails 29 = .ok (.aload_n 0, 1) := by decide +kernel
theorem dL_fails_30 : decode cL_fails 30 = .ok (.bipush 41, 2) := by decide +kernel
theorem dL_fails_32 : decode cL_fails 32 = .ok (.iconst 1, 1) := by decide +kernel
theorem dL_fails_33 : decode cL_fails 33 = .ok (.invokevirtual 32, 3) := by decide +kernel
theorem dL_fails_36 : decode cL_fails 36 = .ok (.iconst (-1), 1) := by decide +kernel
theorem dL_fails_37 : decode cL_fails 37 = .ok (.if_icmp .ne 141, 3) := by decide +kernel
theorem dL_fails_40 : decode cL_fails 40 = .ok (.aload_n 0, 1) := by decide +kernel
theorem dL_fails_41 : decode cL_fails 41 = .ok (.iconst 1, 1) := by decide +kernel
theorem dL_fails_42 : decode cL_fails 42 = .ok (.iconst 0, 1) := by decide +kernel
theorem dL_fails_43 : decode cL_fails 43 = .ok (.invokevirtual 32, 3) := by decide +kernel
theorem dL_fails_46 : decode cL_fails 46 = .ok (.iconst (-1), 1) := by decide +kernel
theorem dL_fails_47 : decode cL_fails 47 = .ok (.if_icmp .ne 131, 3) := by decide +kernel
theorem dL_fails_50 : decode cL_fails 50 = .ok (.aload_n 0, 1) := by decide +kernel
theorem dL_fails_51 : decode cL_fails 51 = .ok (.iconst 1, 1) := by decide +kernel
theorem dL_fails_52 : decode cL_fails 52 = .ok (.sipush 201, 3) := by decide +kernel
theorem dL_fails_55 : decode cL_fails 55 = .ok (.invokevirtual 32, 3) := by decide +kernel
theorem dL_fails_58 : decode cL_fails 58 = .ok (.iconst (-1), 1) := by decide +kernel
theorem dL_fails_59 : decode cL_fails 59 = .ok (.if_icmp .ne 119, 3) := by decide +kernel
theorem dL_fails_62 : decode cL_fails 62 = .ok (.aload_n 0, 1) := by decide +kernel
theorem dL_fails_63 : decode cL_fails 63 = .ok (.iload 4, 2) := by decide +kernel
theorem dL_fails_65 : decode cL_fails 65 = .ok (.iconst 0, 1) := by decide +kernel
theorem dL_fails_66 : decode cL_fails 66 = .ok (.iconst 0, 1) := by decide +kernel
theorem dL_fails_67 : decode cL_fails 67 = .ok (.invokevirtual 35, 3) := by decide +kernel
theorem dL_fails_70 : decode cL_fails 70 = .ok (.iconst (-1), 1) := by decide +kernel
theorem dL_fails_71 : decode cL_fails 71 = .ok (.if_icmp .ne 107, 3) := by decide +kernel
theorem dL_fails_74 : decode cL_fails 74 = .ok (.aload_n 0, 1) := by decide +kernel
theorem dL_fails_75 : decode cL_fails 75 = .ok (.iconst 0, 1) := by decide +kernel
theorem dL_fails_76 : decode cL_fails 76 = .ok (.iconst 4, 1) := by decide +kernel
theorem dL_fails_77 : decode cL_fails 77 = .ok (.iconst 0, 1) := by decide +kernel
theorem dL_fails_78 : decode cL_fails 78 = .ok (.invokevirtual 35, 3) := by decide +kernel
theorem dL_fails_81 : decode cL_fails 81 = .ok (.iconst (-1), 1) := by decide +kernel
theorem dL_fails_82 : decode cL_fails 82 = .ok (.if_icmp .ne 96, 3) := by decide +kernel
theorem dL_fails_85 : decode cL_fails 85 = .ok (.aload_n 0, 1) := by decide +kernel
theorem dL_fails_86 : decode cL_fails 86 = .ok (.iconst 0, 1) := by decide +kernel
theorem dL_fails_87 : decode cL_fails 87 = .ok (.iconst 0, 1) := by decide +kernel
theorem dL_fails_88 : decode cL_fails 88 = .ok (.sipush 1000, 3) := by decide +kernel
theorem dL_fails_91 : decode cL_fails 91 = .ok (.invokevirtual 35, 3) := by decide +kernel
theorem dL_fails_94 : decode cL_fails 94 = .ok (.iconst (-1), 1) := by decide +kernel
theorem dL_fails_95 : decode cL_fails 95 = .ok (.if_icmp .ne 83, 3) := by decide +kernel
theorem dL_fails_98 : decode cL_fails 98 = .ok (.aload_n 0, 1) := by decide +kernel
theorem dL_fails_99 : decode cL_fails 99 = .ok (.iconst 0, 1) := by decide +kernel
theorem dL_fails_100 : decode cL_fails 100 = .ok (.iconst 0, 1) := by decide +kernel
theorem dL_fails_101 : decode cL_fails 101 = .ok (.iconst (-1), 1) := by decide +kernel
theorem dL_fails_102 : decode cL_fails 102 = .ok (.invokevirtual 35, 3) := by decide +kernel
theorem dL_fails_105 : decode cL_fails 105 = .ok (.iconst (-1), 1) := by decide +kernel
theorem dL_fails_106 : decode cL_fails 106 = .ok (.if_icmp .ne 72, 3) := by decide +kernel
theorem dL_fails_109 : decode cL_fails 109 = .ok (.aload_n 0, 1) := by decide +kernel
theorem dL_fails_110 : decode cL_fails 110 = .ok (.iload 4, 2) := by decide +kernel
theorem dL_fails_112 : decode cL_fails 112 = .ok (.iconst 1, 1) := by decide +kernel
theorem dL_fails_113 : decode cL_fails 113 = .ok (.invokevirtual 39, 3) := by decide +kernel
theorem dL_fails_116 : decode cL_fails 116 = .ok (.iconst (-1), 1) := by decide +kernel
theorem dL_fails_117 : decode cL_fails 117 = .ok (.if_icmp .ne 61, 3) := by decide +kernel
theorem dL_fails_120 : decode cL_fails 120 = .ok (.aload_n 0, 1) := by decide +kernel
theorem dL_fails_121 : decode cL_fails 121 = .ok (.iconst 0, 1) := by decide +kernel
theorem dL_fails_122 : decode cL_fails 122 = .ok (.iconst 0, 1) := by decide +kernel
theorem dL_fails_123 : decode cL_fails 123 = .ok (.invokevirtual 39, 3) := by decide +kernel
theorem dL_fails_126 : decode cL_fails 126 = .ok (.iconst (-1), 1) := by decide +kernel
theorem dL_fails_127 : decode cL_fails 127 = .ok (.if_icmp .ne 51, 3) := by decide +kernel
theorem dL_fails_130 : decode cL_fails 130 = .ok (.aload_n 0, 1) := by decide +kernel
theorem dL_fails_131 : decode cL_fails 131 = .ok (.iconst 0, 1) := by decide +kernel
theorem dL_fails_132 : decode cL_fails 132 = .ok (.sipush 5001, 3) := by decide +kernel
theorem dL_fails_135 : decode cL_fails 135 = .ok (.invokevirtual 39, 3) := by decide +kernel
theorem dL_fails_138 : decode cL_fails 138 = .ok (.iconst (-1), 1) := by decide +kernel
theorem dL_fails_139 : decode cL_fails 139 = .ok (.if_icmp .ne 39, 3) := by decide +kernel
theorem dL_fails_142 : decode cL_fails 142 = .ok (.aload_n 0, 1) := by decide +kernel
theorem dL_fails_143 : decode cL_fails 143 = .ok (.iload 4, 2) := by decide +kernel
theorem dL_fails_145 : decode cL_fails 145 = .ok (.iconst 0, 1) := by decide +kernel
theorem dL_fails_146 : decode cL_fails 146 = .ok (.invokevirtual 42, 3) := by decide +kernel
theorem dL_fails_149 : decode cL_fails 149 = .ok (.iconst (-1), 1) := by decide +kernel
theorem dL_fails_150 : decode cL_fails 150 = .ok (.if_icmp .ne 28, 3) := by decide +kernel
theorem dL_fails_153 : decode cL_fails 153 = .ok (.aload_n 0, 1) := by decide +kernel
theorem dL_fails_154 : decode cL_fails 154 = .ok (.iconst 0, 1) := by decide +kernel
theorem dL_fails_155 : decode cL_fails 155 = .ok (.bipush 60, 2) := by decide +kernel
theorem dL_fails_157 : decode cL_fails 157 = .ok (.invokevirtual 42, 3) := by decide +kernel
theorem dL_fails_160 : decode cL_fails 160 = .ok (.iconst (-1), 1) := by decide +kernel
theorem dL_fails_161 : decode cL_fails 161 = .ok (.if_icmp .ne 17, 3) := by decide +kernel
theorem dL_fails_164 : decode cL_fails 164 = .ok (.aload_n 0, 1) := by decide +kernel
theorem dL_fails_165 : decode cL_fails 165 = .ok (.iload 4, 2) := by decide +kernel
theorem dL_fails_167 : decode cL_fails 167 = .ok (.invokevirtual 45, 3) := by decide +kernel
theorem dL_fails_170 : decode cL_fails 170 = .ok (.iconst (-1), 1) := by decide +kernel
theorem dL_fails_171 : decode cL_fails 171 = .ok (.if_icmp .ne 7, 3) := by decide +kernel
theorem dL_fails_174 : decode cL_fails 174 = .ok (.iconst 1, 1) := by decide +kernel
theorem dL_fails_175 : decode cL_fails 175 = .ok (.goto 4, 3) := by decide +kernel
theorem dL_fails_178 : decode cL_fails 178 = .ok (.iconst 0, 1) := by decide +kernel
theorem dL_fails_179 : decode cL_fails 179 = .ok (.istore 5, 2) := by decide +kernel
theorem dL_fails_181 : decode cL_fails 181 = .ok (.iload 5, 2) := by decide +kernel
theorem dL_fails_183 : decode cL_fails 183 = .ok (.ifCond .eq 179, 3) := by decide +kernel
theorem dL_fails_186 : decode cL_fails 186 = .ok (.aload_n 0, 1) := by decide +kernel
theorem dL_fails_187 : decode cL_fails 187 = .ok (.iload 4, 2) := by decide +kernel
theorem dL_fails_189 : decode cL_fails 189 = .ok (.iconst 0, 1) := by decide +kernel
theorem dL_fails_190 : decode cL_fails 190 = .ok (.invokevirtual 22, 3) := by decide +kernel
theorem dL_fails_193 : decode cL_fails 193 = .ok (.iconst (-1), 1) := by decide +kernel
theorem dL_fails_194 : decode cL_fails 194 = .ok (.if_icmp .ne 168, 3) := by decide +kernel
theorem dL_fails_197 : decode cL_fails 197 = .ok (.aload_n 0, 1) := by decide +kernel
theorem dL_fails_198 : decode cL_fails 198 = .ok (.iconst 0, 1) := by decide +kernel
theorem dL_fails_199 : decode cL_fails 199 = .ok (.bipush 12, 2) := by decide +kernel
theorem dL_fails_201 : decode cL_fails 201 = .ok (.invokevirtual 22, 3) := by decide +kernel
theorem dL_fails_204 : decode cL_fails 204 = .ok (.iconst (-1), 1) := by decide +kernel
theorem dL_fails_205 : decode cL_fails 205 = .ok (.if_icmp .ne 157, 3) := by decide +kernel
theorem dL_fails_208 : decode cL_fails 208 = .ok (.aload_n 0, 1) := by decide +kernel
theorem dL_fails_209 : decode cL_fails 209 = .ok (.bipush 60, 2) := by decide +kernel
theorem dL_fails_211 : decode cL_fails 211 = .ok (.iconst 0, 1) := by decide +kernel
theorem dL_fails_212 : decode cL_fails 212 = .ok (.invokevirtual 48, 3) := by decide +kernel
theorem dL_fails_215 : decode cL_fails 215 = .ok (.iconst (-1), 1) := by decide +kernel
theorem dL_fails_216 : decode cL_fails 216 = .ok (.if_icmp .ne 146, 3) := by decide +kernel
theorem dL_fails_219 : decode cL_fails 219 = .ok (.aload_n 0, 1) := by decide +kernel
theorem dL_fails_220 : decode cL_fails 220 = .ok (.iconst 0, 1) := by decide +kernel
theorem dL_fails_221 : decode cL_fails 221 = .ok (.iconst 3, 1) := by decide +kernel
theorem dL_fails_222 : decode cL_fails 222 = .ok (.invokevirtual 48, 3) := by decide +kernel
theorem dL_fails_225 : decode cL_fails 225 = .ok (.iconst (-1), 1) := by decide +kernel
theorem dL_fails_226 : decode cL_fails 226 = .ok (.if_icmp .ne 136, 3) := by decide +kernel
theorem dL_fails_229 : decode cL_fails 229 = .ok (.aload_n 0, 1) := by decide +kernel
theorem dL_fails_230 : decode cL_fails 230 = .ok (.iload 4, 2) := by decide +kernel
theorem dL_fails_232 : decode cL_fails 232 = .ok (.invokevirtual 51, 3) := by decide +kernel
theorem dL_fails_235 : decode cL_fails 235 = .ok (.iconst (-1), 1) := by decide +kernel
theorem dL_fails_236 : decode cL_fails 236 = .ok (.if_icmp .ne 126, 3) := by decide +kernel
theorem dL_fails_239 : decode cL_fails 239 = .ok (.aload_n 0, 1) := by decide +kernel
theorem dL_fails_240 : decode cL_fails 240 = .ok (.iload 4, 2) := by decide +kernel
theorem dL_fails_242 : decode cL_fails 242 = .ok (.iconst 1, 1) := by decide +kernel
theorem dL_fails_243 : decode cL_fails 243 = .ok (.invokevirtual 54, 3) := by decide +kernel
theorem dL_fails_246 : decode cL_fails 246 = .ok (.iconst (-1), 1) := by decide +kernel
theorem dL_fails_247 : decode cL_fails 247 = .ok (.if_icmp .ne 115, 3) := by decide +kernel
theorem dL_fails_250 : decode cL_fails 250 = .ok (.aload_n 0, 1) := by decide +kernel
theorem dL_fails_251 : decode cL_fails 251 = .ok (.iconst 0, 1) := by decide +kernel
theorem dL_fails_252 : decode cL_fails 252 = .ok (.iconst 0, 1) := by decide +kernel
theorem dL_fails_253 : decode cL_fails 253 = .ok (.invokevirtual 54, 3) := by decide +kernel
theorem dL_fails_256 : decode cL_fails 256 = .ok (.iconst (-1), 1) := by decide +kernel
theorem dL_fails_257 : decode cL_fails 257 = .ok (.if_icmp .ne 105, 3) := by decide +kernel
theorem dL_fails_260 : decode cL_fails 260 = .ok (.aload_n 0, 1) := by decide +kernel
theorem dL_fails_261 : decode cL_fails 261 = .ok (.iconst 0, 1) := by decide +kernel
theorem dL_fails_262 : decode cL_fails 262 = .ok (.sipush 201, 3) := by decide +kernel
theorem dL_fails_265 : decode cL_fails 265 = .ok (.invokevirtual 54, 3) := by decide +kernel
theorem dL_fails_268 : decode cL_fails 268 = .ok (.iconst (-1), 1) := by decide +kernel
theorem dL_fails_269 : decode cL_fails 269 = .ok (.if_icmp .ne 93, 3) := by decide +kernel
theorem dL_fails_272 : decode cL_fails 272 = .ok (.aload_n 0, 1) := by decide +kernel
theorem dL_fails_273 : decode cL_fails 273 = .ok (.iconst (-1), 1) := by decide +kernel
theorem dL_fails_274 : decode cL_fails 274 = .ok (.invokevirtual 57, 3) := by decide +kernel
theorem dL_fails_277 : decode cL_fails 277 = .ok (.iconst (-1), 1) := by decide +kernel
theorem dL_fails_278 : decode cL_fails 278 = .ok (.if_icmp .ne 84, 3) := by decide +kernel
theorem dL_fails_281 : decode cL_fails 281 = .ok (.aload_n 0, 1) := by decide +kernel
theorem dL_fails_282 : decode cL_fails 282 = .ok (.iload 4, 2) := by decide +kernel
theorem dL_fails_284 : decode cL_fails 284 = .ok (.iconst 0, 1) := by decide +kernel
theorem dL_fails_285 : decode cL_fails 285 = .ok (.invokevirtual 60, 3) := by decide +kernel
theorem dL_fails_288 : decode cL_fails 288 = .ok (.iconst (-1), 1) := by decide +kernel
theorem dL_fails_289 : decode cL_fails 289 = .ok (.if_icmp .ne 73, 3) := by decide +kernel
theorem dL_fails_292 : decode cL_fails 292 = .ok (.aload_n 0, 1) := by decide +kernel
theorem dL_fails_293 : decode cL_fails 293 = .ok (.iconst 0, 1) := by decide +kernel
theorem dL_fails_294 : decode cL_fails 294 = .ok (.iconst (-1), 1) := by decide +kernel
theorem dL_fails_295 : decode cL_fails 295 = .ok (.invokevirtual 60, 3) := by decide +kernel
theorem dL_fails_298 : decode cL_fails 298 = .ok (.iconst (-1), 1) := by decide +kernel
theorem dL_fails_299 : decode cL_fails 299 = .ok (.if_icmp .ne 63, 3) := by decide +kernel
theorem dL_fails_302 : decode cL_fails 302 = .ok (.aload_n 0, 1) := by decide +kernel
theorem dL_fails_303 : decode cL_fails 303 = .ok (.iload 4, 2) := by decide +kernel
theorem dL_fails_305 : decode cL_fails 305 = .ok (.iconst 0, 1) := by decide +kernel
theorem dL_fails_306 : decode cL_fails 306 = .ok (.invokevirtual 63, 3) := by decide +kernel
theorem dL_fails_309 : decode cL_fails 309 = .ok (.iconst (-1), 1) := by decide +kernel
theorem dL_fails_310 : decode cL_fails 310 = .ok (.if_icmp .ne 52, 3) := by decide +kernel
theorem dL_fails_313 : decode cL_fails 313 = .ok (.aload_n 0, 1) := by decide +kernel
theorem dL_fails_314 : decode cL_fails 314 = .ok (.iconst 0, 1) := by decide +kernel
theorem dL_fails_315 : decode cL_fails 315 = .ok (.iconst 0, 1) := by decide +kernel
theorem dL_fails_316 : decode cL_fails 316 = .ok (.invokevirtual 63, 3) := by decide +kernel
theorem dL_fails_319 : decode cL_fails 319 = .ok (.iconst (-1), 1) := by decide +kernel
theorem dL_fails_320 : decode cL_fails 320 = .ok (.if_icmp .ne 42, 3) := by decide +kernel
theorem dL_fails_323 : decode cL_fails 323 = .ok (.aload_n 0, 1) := by decide +kernel
theorem dL_fails_324 : decode cL_fails 324 = .ok (.iload 4, 2) := by decide +kernel
theorem dL_fails_326 : decode cL_fails 326 = .ok (.iconst 0, 1) := by decide +kernel
theorem dL_fails_327 : decode cL_fails 327 = .ok (.iconst 0, 1) := by decide +kernel
theorem dL_fails_328 : decode cL_fails 328 = .ok (.invokevirtual 66, 3) := by decide +kernel
theorem dL_fails_331 : decode cL_fails 331 = .ok (.iconst (-1), 1) := by decide +kernel
theorem dL_fails_332 : decode cL_fails 332 = .ok (.if_icmp .ne 30, 3) := by decide +kernel
theorem dL_fails_335 : decode cL_fails 335 = .ok (.aload_n 0, 1) := by decide +kernel
theorem dL_fails_336 : decode cL_fails 336 = .ok (.iconst 0, 1) := by decide +kernel
theorem dL_fails_337 : decode cL_fails 337 = .ok (.iconst 0, 1) := by decide +kernel
theorem dL_fails_338 : decode cL_fails 338 = .ok (.iconst 3, 1) := by decide +kernel
theorem dL_fails_339 : decode cL_fails 339 = .ok (.invokevirtual 66, 3) := by decide +kernel
theorem dL_fails_342 : decode cL_fails 342 = .ok (.iconst (-1), 1) := by decide +kernel
theorem dL_fails_343 : decode cL_fails 343 = .ok (.if_icmp .ne 19, 3) := by decide +kernel
theorem dL_fails_346 : decode cL_fails 346 = .ok (.aload_n 0, 1) := by decide +kernel
theorem dL_fails_347 : decode cL_fails 347 = .ok (.iconst 0, 1) := by decide +kernel
theorem dL_fails_348 : decode cL_fails 348 = .ok (.bipush 60, 2) := by decide +kernel
theorem dL_fails_350 : decode cL_fails 350 = .ok (.iconst 0, 1) := by decide +kernel
theorem dL_fails_351 : decode cL_fails 351 = .ok (.invokevirtual 66, 3) := by decide +kernel
theorem dL_fails_354 : decode cL_fails 354 = .ok (.iconst (-1), 1) := by decide +kernel
theorem dL_fails_355 : decode cL_fails 355 = .ok (.if_icmp .ne 7, 3) := by decide +kernel
theorem dL_fails_358 : decode cL_fails 358 = .ok (.iconst 1, 1) := by decide +kernel
theorem dL_fails_359 : decode cL_fails 359 = .ok (.goto 4, 3) := by decide +kernel
theorem dL_fails_362 : decode cL_fails 362 = .ok (.iconst 0, 1) := by decide +kernel
theorem dL_fails_363 : decode cL_fails 363 = .ok (.istore 5, 2) := by decide +kernel
theorem dL_fails_365 : decode cL_fails 365 = .ok (.iload 5, 2) := by decide +kernel
theorem dL_fails_367 : decode cL_fails 367 = .ok (.ifCond .eq 163, 3) := by decide +kernel
theorem dL_fails_370 : decode cL_fails 370 = .ok (.aload_n 0, 1) := by decide +kernel
theorem dL_fails_371 : decode cL_fails 371 = .ok (.iconst 3, 1) := by decide +kernel
theorem dL_fails_372 : decode cL_fails 372 = .ok (.invokevirtual 69, 3) := by decide +kernel
theorem dL_fails_375 : decode cL_fails 375 = .ok (.iconst (-1), 1) := by decide +kernel
theorem dL_fails_376 : decode cL_fails 376 = .ok (.if_icmp .ne 154, 3) := by decide +kernel
theorem dL_fails_379 : decode cL_fails 379 = .ok (.aload_n 0, 1) := by decide +kernel
theorem dL_fails_380 : decode cL_fails 380 = .ok (.iconst (-1), 1) := by decide +kernel
theorem dL_fails_381 : decode cL_fails 381 = .ok (.invokevirtual 69, 3) := by decide +kernel
theorem dL_fails_384 : decode cL_fails 384 = .ok (.iconst (-1), 1) := by decide +kernel
theorem dL_fails_385 : decode cL_fails 385 = .ok (.if_icmp .ne 145, 3) := by decide +kernel
theorem dL_fails_388 : decode cL_fails 388 = .ok (.aload_n 0, 1) := by decide +kernel
theorem dL_fails_389 : decode cL_fails 389 = .ok (.iconst 0, 1) := by decide +kernel
theorem dL_fails_390 : decode cL_fails 390 = .ok (.invokevirtual 72, 3) := by decide +kernel
theorem dL_fails_393 : decode cL_fails 393 = .ok (.iconst (-1), 1) := by decide +kernel
theorem dL_fails_394 : decode cL_fails 394 = .ok (.if_icmp .ne 136, 3) := by decide +kernel
theorem dL_fails_397 : decode cL_fails 397 = .ok (.aload_n 0, 1) := by decide +kernel
theorem dL_fails_398 : decode cL_fails 398 = .ok (.bipush 11, 2) := by decide +kernel
theorem dL_fails_400 : decode cL_fails 400 = .ok (.invokevirtual 72, 3) := by decide +kernel
theorem dL_fails_403 : decode cL_fails 403 = .ok (.iconst (-1), 1) := by decide +kernel
theorem dL_fails_404 : decode cL_fails 404 = .ok (.if_icmp .ne 126, 3) := by decide +kernel
theorem dL_fails_407 : decode cL_fails 407 = .ok (.aload_n 0, 1) := by decide +kernel
theorem dL_fails_408 : decode cL_fails 408 = .ok (.iconst 4, 1) := by decide +kernel
theorem dL_fails_409 : decode cL_fails 409 = .ok (.invokevirtual 75, 3) := by decide +kernel
theorem dL_fails_412 : decode cL_fails 412 = .ok (.iconst (-1), 1) := by decide +kernel
theorem dL_fails_413 : decode cL_fails 413 = .ok (.if_icmp .ne 117, 3) := by decide +kernel
theorem dL_fails_416 : decode cL_fails 416 = .ok (.aload_n 0, 1) := by decide +kernel
theorem dL_fails_417 : decode cL_fails 417 = .ok (.iconst (-1), 1) := by decide +kernel
theorem dL_fails_418 : decode cL_fails 418 = .ok (.invokevirtual 78, 3) := by decide +kernel
theorem dL_fails_421 : decode cL_fails 421 = .ok (.iconst (-1), 1) := by decide +kernel
theorem dL_fails_422 : decode cL_fails 422 = .ok (.if_icmp .ne 108, 3) := by decide +kernel
theorem dL_fails_425 : decode cL_fails 425 = .ok (.aload_n 0, 1) := by decide +kernel
theorem dL_fails_426 : decode cL_fails 426 = .ok (.bipush 8, 2) := by decide +kernel
theorem dL_fails_428 : decode cL_fails 428 = .ok (.invokevirtual 13, 3) := by decide +kernel
theorem dL_fails_431 : decode cL_fails 431 = .ok (.iconst (-1), 1) := by decide +kernel
theorem dL_fails_432 : decode cL_fails 432 = .ok (.if_icmp .ne 98, 3) := by decide +kernel
theorem dL_fails_435 : decode cL_fails 435 = .ok (.aload_n 0, 1) := by decide +kernel
theorem dL_fails_436 : decode cL_fails 436 = .ok (.bipush 10, 2) := by decide +kernel
theorem dL_fails_438 : decode cL_fails 438 = .ok (.invokevirtual 19, 3) := by decide +kernel
theorem dL_fails_441 : decode cL_fails 441 = .ok (.iconst (-1), 1) := by decide +kernel
theorem dL_fails_442 : decode cL_fails 442 = .ok (.if_icmp .ne 88, 3) := by decide +kernel
theorem dL_fails_445 : decode cL_fails 445 = .ok (.aload_n 0, 1) := by decide +kernel
theorem dL_fails_446 : decode cL_fails 446 = .ok (.bipush 23, 2) := by decide +kernel
theorem dL_fails_448 : decode cL_fails 448 = .ok (.invokevirtual 19, 3) := by decide +kernel
theorem dL_fails_451 : decode cL_fails 451 = .ok (.iconst (-1), 1) := by decide +kernel
theorem dL_fails_452 : decode cL_fails 452 = .ok (.if_icmp .ne 78, 3) := by decide +kernel
theorem dL_fails_455 : decode cL_fails 455 = .ok (.aload_n 0, 1) := by decide +kernel
theorem dL_fails_456 : decode cL_fails 456 = .ok (.iconst 3, 1) := by decide +kernel
theorem dL_fails_457 : decode cL_fails 457 = .ok (.iconst 0, 1) := by decide +kernel
theorem dL_fails_458 : decode cL_fails 458 = .ok (.invokevirtual 81, 3) := by decide +kernel
theorem dL_fails_461 : decode cL_fails 461 = .ok (.iconst (-1), 1) := by decide +kernel
theorem dL_fails_462 : decode cL_fails 462 = .ok (.if_icmp .ne 68, 3) := by decide +kernel
theorem dL_fails_465 : decode cL_fails 465 = .ok (.aload_n 0, 1) := by decide +kernel
theorem dL_fails_466 : decode cL_fails 466 = .ok (.iconst 0, 1) := by decide +kernel
theorem dL_fails_467 : decode cL_fails 467 = .ok (.sipush 201, 3) := by decide +kernel
theorem dL_fails_470 : decode cL_fails 470 = .ok (.invokevirtual 81, 3) := by decide +kernel
theorem dL_fails_473 : decode cL_fails 473 = .ok (.iconst (-1), 1) := by decide +kernel
theorem dL_fails_474 : decode cL_fails 474 = .ok (.if_icmp .ne 56, 3) := by decide +kernel
theorem dL_fails_477 : decode cL_fails 477 = .ok (.aload_n 0, 1) := by decide +kernel
theorem dL_fails_478 : decode cL_fails 478 = .ok (.iconst 1, 1) := by decide +kernel
theorem dL_fails_479 : decode cL_fails 479 = .ok (.iconst 0, 1) := by decide +kernel
theorem dL_fails_480 : decode cL_fails 480 = .ok (.invokevirtual 81, 3) := by decide +kernel
theorem dL_fails_483 : decode cL_fails 483 = .ok (.iconst (-1), 1) := by decide +kernel
theorem dL_fails_484 : decode cL_fails 484 = .ok (.if_icmp .ne 46, 3) := by decide +kernel
theorem dL_fails_487 : decode cL_fails 487 = .ok (.aload_n 0, 1) := by decide +kernel
theorem dL_fails_488 : decode cL_fails 488 = .ok (.iconst 2, 1) := by decide +kernel
theorem dL_fails_489 : decode cL_fails 489 = .ok (.iconst 2, 1) := by decide +kernel
theorem dL_fails_490 : decode cL_fails 490 = .ok (.invokevirtual 81, 3) := by decide +kernel
theorem dL_fails_493 : decode cL_fails 493 = .ok (.iconst (-1), 1) := by decide +kernel
theorem dL_fails_494 : decode cL_fails 494 = .ok (.if_icmp .ne 36, 3) := by decide +kernel
theorem dL_fails_497 : decode cL_fails 497 = .ok (.aload_n 0, 1) := by decide +kernel
theorem dL_fails_498 : decode cL_fails 498 = .ok (.bipush 31, 2) := by decide +kernel
theorem dL_fails_500 : decode cL_fails 500 = .ok (.invokevirtual 84, 3) := by decide +kernel
theorem dL_fails_503 : decode cL_fails 503 = .ok (.iconst (-1), 1) := by decide +kernel
theorem dL_fails_504 : decode cL_fails 504 = .ok (.if_icmp .ne 26, 3) := by decide +kernel
theorem dL_fails_507 : decode cL_fails 507 = .ok (.aload_n 0, 1) := by decide +kernel
theorem dL_fails_508 : decode cL_fails 508 = .ok (.bipush 127, 2) := by decide +kernel
theorem dL_fails_510 : decode cL_fails 510 = .ok (.invokevirtual 84, 3) := by decide +kernel
theorem dL_fails_513 : decode cL_fails 513 = .ok (.iconst (-1), 1) := by decide +kernel
theorem dL_fails_514 : decode cL_fails 514 = .ok (.if_icmp .ne 16, 3) := by decide +kernel
theorem dL_fails_517 : decode cL_fails 517 = .ok (.aload_n 0, 1) := by decide +kernel
theorem dL_fails_518 : decode cL_fails 518 = .ok (.iconst 2, 1) := by decide +kernel
theorem dL_fails_519 : decode cL_fails 519 = .ok (.invokevirtual 87, 3) := by decide +kernel
theorem dL_fails_522 : decode cL_fails 522 = .ok (.iconst (-1), 1) := by decide +kernel
theorem dL_fails_523 : decode cL_fails 523 = .ok (.if_icmp .ne 7, 3) := by decide +kernel
theorem dL_fails_526 : decode cL_fails 526 = .ok (.iconst 1, 1) := by decide +kernel
theorem dL_fails_527 : decode cL_fails 527 = .ok (.goto 4, 3) := by decide +kernel
theorem dL_fails_530 : decode cL_fails 530 = .ok (.iconst 0, 1) := by decide +kernel
theorem dL_fails_531 : decode cL_fails 531 = .ok (.istore 5, 2) := by decide +kernel
theorem dL_fails_533 : decode cL_fails 533 = .ok (.iload 5, 2) := by decide +kernel
theorem dL_fails_535 : decode cL_fails 535 = .ok (.ifCond .eq 26, 3) := by decide +kernel
theorem dL_fails_538 : decode cL_fails 538 = .ok (.aload_n 0, 1) := by decide +kernel
theorem dL_fails_539 : decode cL_fails 539 = .ok (.invokestatic 26, 3) := by decide +kernel
theorem dL_fails_542 : decode cL_fails 542 = .ok (.lload_n 1, 1) := by decide +kernel
theorem dL_fails_543 : decode cL_fails 543 = .ok (.lcmp, 1) := by decide +kernel
theorem dL_fails_544 : decode cL_fails 544 = .ok (.ifCond .ne 17, 3) := by decide +kernel
theorem dL_fails_547 : decode cL_fails 547 = .ok (.aload_n 0, 1) := by decide +kernel
theorem dL_fails_548 : decode cL_fails 548 = .ok (.bipush 8, 2) := by decide +kernel
theorem dL_fails_550 : decode cL_fails 550 = .ok (.invokevirtual 19, 3) := by decide +kernel
theorem dL_fails_553 : decode cL_fails 553 = .ok (.iload_n 3, 1) := by decide +kernel
theorem dL_fails_554 : decode cL_fails 554 = .ok (.if_icmp .ne 7, 3) := by decide +kernel
theorem dL_fails_557 : decode cL_fails 557 = .ok (.iconst 1, 1) := by decide +kernel
theorem dL_fails_558 : decode cL_fails 558 = .ok (.goto 4, 3) := by decide +kernel
theorem dL_fails_561 : decode cL_fails 561 = .ok (.iconst 0, 1) := by decide +kernel
theorem dL_fails_562 : decode cL_fails 562 = .ok (.ireturn, 1) := by decide +kernel
end
section
set_option maxRecDepth 20000 in
theorem ggL_sound_X5_count : GoodIn wsL_sound wsX5_count := goodIn_r _ [5, 6, 7, 8, 9, 10, 11, 12, 13, 14, 15, 16, 17, 18, 19, 20, 21, 22, 23, 24, 25, 26, 27, 28, 29, 30, 31, 32, 33, 34, 35, 36, 37, 38, 39, 40, 41, 42, 43, 142, 143, 144, 145, 146, 147, 148, 149, 150, 151, 152, 153, 154, 155, 156, 157, 158, 159, 160, 161, 162, 163, 164, 165, 166, 167, 168, 169] (by decide +kernel) (by decide +kernel)
set_option maxRecDepth 20000 in
theorem gL_sound_X5_count : GoodIn wsL_sound (wsV RL 19 RX5 yX5_count wsX5_count) := goodIn_app (goodIn_of _ (by decide +kernel)) ggL_sound_X5_count
set_option maxRecDepth 20000 in
theorem ggL_sound_X5_goodOf : GoodIn wsL_sound wsX5_goodOf := goodIn_r _ [47, 8, 48, 49, 50, 12, 51, 52, 53, 27, 16, 17, 54, 55, 56, 57, 58, 59, 14, 60, 4, 61, 23, 24, 25, 26, 28, 29, 30, 31, 62, 63, 64, 65, 66, 67, 68, 69, 70, 142, 143, 144, 145, 146, 147, 148, 149, 150, 157, 158, 159, 160, 161, 162, 163, 164, 165, 166, 167, 168, 169] (by decide +kernel) (by decide +kernel)
set_option maxRecDepth 20000 in
theorem gL_sound_X5_goodOf : GoodIn wsL_sound (wsV RL 22 RX5 yX5_goodOf wsX5_goodOf) := goodIn_app (goodIn_of _ (by decide +kernel)) ggL_sound_X5_goodOf
set_option maxRecDepth 20000 in
theorem ggL_sound_X5_slotOf : GoodIn wsL_sound wsX5_slotOf := goodIn_r _ [74, 8, 75, 76, 77, 12, 78, 79, 28, 29, 30, 31, 56, 57, 58, 59, 14, 80, 81, 82, 83, 84, 85, 86, 65, 142, 143, 144, 145, 146, 147, 148, 149, 150, 157, 158, 159, 160, 161, 162, 163, 164, 165, 166, 167, 168, 169] (by decide +kernel) (by decide +kernel)
set_option maxRecDepth 20000 in
theorem gL_sound_X5_slotOf : GoodIn wsL_sound (wsV RL 48 RX5 yX5_slotOf wsX5_slotOf) := goodIn_app (goodIn_of _ (by decide +kernel)) ggL_sound_X5_slotOf
set_option maxRecDepth 20000 in
theorem ggL_sound_X5_nearest : GoodIn wsL_sound wsX5_nearest := goodIn_r _ [90, 8, 91, 92, 93, 12, 94, 79, 56, 57, 58, 59, 14, 95, 96, 97, 98, 52, 84, 85, 30, 86, 65, 80, 81, 82, 83, 142, 143, 144, 145, 146, 147, 148, 149, 150, 157, 158, 159, 160, 161, 162, 163, 164, 165, 166, 167, 168, 169] (by decide +kernel) (by decide +kernel)
set_option maxRecDepth 20000 in
theorem gL_sound_X5_nearest : GoodIn wsL_sound (wsV RL 51 RX5 yX5_nearest wsX5_nearest) := goodIn_app (goodIn_of _ (by decide +kernel)) ggL_sound_X5_nearest
set_option maxRecDepth 20000 in
theorem ggL_sound_X5_atBest : GoodIn wsL_sound wsX5_atBest := goodIn_r _ [102, 8, 103, 104, 105, 106, 4, 107, 108, 109, 110, 12, 111, 14, 27, 23, 24, 25, 26, 28, 29, 30, 31, 66, 67, 68, 69, 70, 112, 113, 114, 115, 116, 117, 118, 80, 81, 82, 83, 119, 120, 121, 122, 142, 143, 144, 145, 146, 147, 148, 149, 150, 170, 171, 157, 158, 159, 160, 161, 162, 163, 164, 165, 166, 167, 168, 169] (by decide +kernel) (by decide +kernel)
set_option maxRecDepth 20000 in
theorem gL_sound_X5_atBest : GoodIn wsL_sound (wsV RL 78 RX5 yX5_atBest wsX5_atBest) := goodIn_app (goodIn_of _ (by decide +kernel)) ggL_sound_X5_atBest
set_option maxRecDepth 20000 in
theorem ggL_sound_X5_weekly : GoodIn wsL_sound wsX5_weekly := goodIn_r _ [126, 8, 105, 106, 4, 107, 127, 128, 129, 12, 130, 14, 27, 23, 24, 25, 26, 28, 29, 30, 31, 66, 67, 68, 69, 70, 80, 81, 82, 83, 142, 143, 144, 145, 146, 147, 148, 149, 150, 157, 158, 159, 160, 161, 162, 163, 164, 165, 166, 167, 168, 169] (by decide +kernel) (by decide +kernel)
set_option maxRecDepth 20000 in
theorem gL_sound_X5_weekly : GoodIn wsL_sound (wsV RL 75 RX5 yX5_weekly wsX5_weekly) := goodIn_app (goodIn_of _ (by decide +kernel)) ggL_sound_X5_weekly
set_option maxRecDepth 20000 in
theorem ggL_sound_X5_account : GoodIn wsL_sound wsX5_account := goodIn_r _ [134, 8, 135, 136, 137, 12, 138, 139, 140, 32, 33, 34, 35, 15, 141, 128, 129, 130, 14, 27, 23, 24, 25, 26, 28, 29, 30, 31, 66, 67, 68, 69, 70, 80, 81, 82, 83, 142, 143, 144, 145, 146, 147, 148, 149, 150, 157, 158, 159, 160, 161, 162, 163, 164, 165, 166, 167, 168, 169, 172, 173, 174, 175, 176, 177, 178] (by decide +kernel) (by decide +kernel)
set_option maxRecDepth 20000 in
theorem gL_sound_X5_account : GoodIn wsL_sound (wsV RL 13 RX5 yX5_account wsX5_account) := goodIn_app (goodIn_of _ (by decide +kernel)) ggL_sound_X5_account
theorem dL_sound_0 : decode cL_sound 0 = .ok (.aload_n 0, 1) := by decide +kernel
theorem dL_sound_1 : decode cL_sound 1 = .ok (.iconst 0, 1) := by decide +kernel
theorem dL_sound_2 : decode cL_sound 2 = .ok (.invokevirtual 19, 3) := by decide +kernel
theorem dL_sound_5 : decode cL_sound 5 = .ok (.istore_n 2, 1) := by decide +kernel
theorem dL_sound_6 : decode cL_sound 6 = .ok (.aload_n 0, 1) := by decide +kernel
theorem dL_sound_7 : decode cL_sound 7 = .ok (.iconst 3, 1) := by decide +kernel
theorem dL_sound_8 : decode cL_sound 8 = .ok (.invokevirtual 19, 3) := by decide +kernel
theorem dL_sound_11 : decode cL_sound 11 = .ok (.istore_n 3, 1) := by decide +kernel
theorem dL_sound_12 : decode cL_sound 12 = .ok (.iconst 0, 1) := by decide +kernel
theorem dL_sound_13 : decode cL_sound 13 = .ok (.istore 4, 2) := by decide +kernel
theorem dL_sound_15 : decode cL_sound 15 = .ok (.iconst 0, 1) := by decide +kernel
theorem dL_sound_16 : decode cL_sound 16 = .ok (.istore 5, 2) := by decide +kernel
theorem dL_sound_18 : decode cL_sound 18 = .ok (.iconst 0, 1) := by decide +kernel
theorem dL_sound_19 : decode cL_sound 19 = .ok (.istore 6, 2) := by decide +kernel
theorem dL_sound_21 : decode cL_sound 21 = .ok (.iconst 0, 1) := by decide +kernel
theorem dL_sound_22 : decode cL_sound 22 = .ok (.istore 7, 2) := by decide +kernel
theorem dL_sound_24 : decode cL_sound 24 = .ok (.iconst 0, 1) := by decide +kernel
theorem dL_sound_25 : decode cL_sound 25 = .ok (.istore 8, 2) := by decide +kernel
theorem dL_sound_27 : decode cL_sound 27 = .ok (.iconst 0, 1) := by decide +kernel
theorem dL_sound_28 : decode cL_sound 28 = .ok (.istore 9, 2) := by decide +kernel
theorem dL_sound_30 : decode cL_sound 30 = .ok (.iload 9, 2) := by decide +kernel
theorem dL_sound_32 : decode cL_sound 32 = .ok (.iload_n 2, 1) := by decide +kernel
theorem dL_sound_33 : decode cL_sound 33 = .ok (.if_icmp .ge 259, 3) := by decide +kernel
theorem dL_sound_36 : decode cL_sound 36 = .ok (.aload_n 0, 1) := by decide +kernel
theorem dL_sound_37 : decode cL_sound 37 = .ok (.iload 9, 2) := by decide +kernel
theorem dL_sound_39 : decode cL_sound 39 = .ok (.bipush 6, 2) := by decide +kernel
theorem dL_sound_41 : decode cL_sound 41 = .ok (.invokevirtual 22, 3) := by decide +kernel
theorem dL_sound_44 : decode cL_sound 44 = .ok (.istore 10, 2) := by decide +kernel
theorem dL_sound_46 : decode cL_sound 46 = .ok (.aload_n 0, 1) := by decide +kernel
theorem dL_sound_47 : decode cL_sound 47 = .ok (.iload 9, 2) := by decide +kernel
theorem dL_sound_49 : decode cL_sound 49 = .ok (.bipush 7, 2) := by decide +kernel
theorem dL_sound_51 : decode cL_sound 51 = .ok (.invokevirtual 22, 3) := by decide +kernel
theorem dL_sound_54 : decode cL_sound 54 = .ok (.istore 11, 2) := by decide +kernel
theorem dL_sound_56 : decode cL_sound 56 = .ok (.iload 5, 2) := by decide +kernel
theorem dL_sound_58 : decode cL_sound 58 = .ok (.iload 11, 2) := by decide +kernel
theorem dL_sound_60 : decode cL_sound 60 = .ok (.iadd, 1) := by decide +kernel
theorem dL_sound_61 : decode cL_sound 61 = .ok (.istore 5, 2) := by decide +kernel
theorem dL_sound_63 : decode cL_sound 63 = .ok (.iload 6, 2) := by decide +kernel
theorem dL_sound_65 : decode cL_sound 65 = .ok (.aload_n 0, 1) := by decide +kernel
theorem dL_sound_66 : decode cL_sound 66 = .ok (.iload 9, 2) := by decide +kernel
theorem dL_sound_68 : decode cL_sound 68 = .ok (.bipush 8, 2) := by decide +kernel
theorem dL_sound_70 : decode cL_sound 70 = .ok (.invokevirtual 22, 3) := by decide +kernel
theorem dL_sound_73 : decode cL_sound 73 = .ok (.iadd, 1) := by decide +kernel
theorem dL_sound_74 : decode cL_sound 74 = .ok (.istore 6, 2) := by decide +kernel
theorem dL_sound_76 : decode cL_sound 76 = .ok (.iload 11, 2) := by decide +kernel
theorem dL_sound_78 : decode cL_sound 78 = .ok (.ifCond .lt 61, 3) := by decide +kernel
theorem dL_sound_81 : decode cL_sound 81 = .ok (.iload 11, 2) := by decide +kernel
theorem dL_sound_83 : decode cL_sound 83 = .ok (.aload_n 0, 1) := by decide +kernel
theorem dL_sound_84 : decode cL_sound 84 = .ok (.iload 9, 2) := by decide +kernel
theorem dL_sound_86 : decode cL_sound 86 = .ok (.iconst 1, 1) := by decide +kernel
theorem dL_sound_87 : decode cL_sound 87 = .ok (.invokevirtual 22, 3) := by decide +kernel
theorem dL_sound_90 : decode cL_sound 90 = .ok (.if_icmp .gt 49, 3) := by decide +kernel
theorem dL_sound_93 : decode cL_sound 93 = .ok (.iload 11, 2) := by decide +kernel
theorem dL_sound_95 : decode cL_sound 95 = .ok (.aload_n 0, 1) := by decide +kernel
theorem dL_sound_96 : decode cL_sound 96 = .ok (.iload 9, 2) := by decide +kernel
theorem dL_sound_98 : decode cL_sound 98 = .ok (.bipush 8, 2) := by decide +kernel
theorem dL_sound_100 : decode cL_sound 100 = .ok (.invokevirtual 22, 3) := by decide +kernel
theorem dL_sound_103 : decode cL_sound 103 = .ok (.iadd, 1) := by decide +kernel
theorem dL_sound_104 : decode cL_sound 104 = .ok (.aload_n 0, 1) := by decide +kernel
theorem dL_sound_105 : decode cL_sound 105 = .ok (.iload 9, 2) := by decide +kernel
theorem dL_sound_107 : decode cL_sound 107 = .ok (.bipush 10, 2) := by decide +kernel
theorem dL_sound_109 : decode cL_sound 109 = .ok (.invokevirtual 22, 3) := by decide +kernel
theorem dL_sound_112 : decode cL_sound 112 = .ok (.iadd, 1) := by decide +kernel
theorem dL_sound_113 : decode cL_sound 113 = .ok (.aload_n 1, 1) := by decide +kernel
theorem dL_sound_114 : decode cL_sound 114 = .ok (.iload 9, 2) := by decide +kernel
theorem dL_sound_116 : decode cL_sound 116 = .ok (.iaload, 1) := by decide +kernel
theorem dL_sound_117 : decode cL_sound 117 = .ok (.if_icmp .ne 22, 3) := by decide +kernel
theorem dL_sound_120 : decode cL_sound 120 = .ok (.aload_n 0, 1) := by decide +kernel
theorem dL_sound_121 : decode cL_sound 121 = .ok (.iload 9, 2) := by decide +kernel
theorem dL_sound_123 : decode cL_sound 123 = .ok (.bipush 10, 2) := by decide +kernel
theorem dL_sound_125 : decode cL_sound 125 = .ok (.invokevirtual 22, 3) := by decide +kernel
theorem dL_sound_128 : decode cL_sound 128 = .ok (.aload_n 0, 1) := by decide +kernel
theorem dL_sound_129 : decode cL_sound 129 = .ok (.iload 9, 2) := by decide +kernel
theorem dL_sound_131 : decode cL_sound 131 = .ok (.bipush 9, 2) := by decide +kernel
theorem dL_sound_133 : decode cL_sound 133 = .ok (.invokevirtual 22, 3) := by decide +kernel
theorem dL_sound_136 : decode cL_sound 136 = .ok (.if_icmp .ge 5, 3) := by decide +kernel
theorem dL_sound_139 : decode cL_sound 139 = .ok (.iconst 0, 1) := by decide +kernel
theorem dL_sound_140 : decode cL_sound 140 = .ok (.ireturn, 1) := by decide +kernel
theorem dL_sound_141 : decode cL_sound 141 = .ok (.iload 10, 2) := by decide +kernel
theorem dL_sound_143 : decode cL_sound 143 = .ok (.bipush (-4), 2) := by decide +kernel
theorem dL_sound_145 : decode cL_sound 145 = .ok (.if_icmp .ne 10, 3) := by decide +kernel
theorem dL_sound_148 : decode cL_sound 148 = .ok (.iload 11, 2) := by decide +kernel
theorem dL_sound_150 : decode cL_sound 150 = .ok (.ifCond .eq 92, 3) := by decide +kernel
theorem dL_sound_153 : decode cL_sound 153 = .ok (.iconst 0, 1) := by decide +kernel
theorem dL_sound_154 : decode cL_sound 154 = .ok (.ireturn, 1) := by decide +kernel
theorem dL_sound_155 : decode cL_sound 155 = .ok (.iinc 4 1, 3) := by decide +kernel
theorem dL_sound_158 : decode cL_sound 158 = .ok (.iload 7, 2) := by decide +kernel
theorem dL_sound_160 : decode cL_sound 160 = .ok (.iload 11, 2) := by decide +kernel
theorem dL_sound_162 : decode cL_sound 162 = .ok (.ifCond .ne 7, 3) := by decide +kernel
theorem dL_sound_165 : decode cL_sound 165 = .ok (.iconst 1, 1) := by decide +kernel
theorem dL_sound_166 : decode cL_sound 166 = .ok (.goto 4, 3) := by decide +kernel
theorem dL_sound_169 : decode cL_sound 169 = .ok (.iconst 0, 1) := by decide +kernel
theorem dL_sound_170 : decode cL_sound 170 = .ok (.iadd, 1) := by decide +kernel
theorem dL_sound_171 : decode cL_sound 171 = .ok (.istore 7, 2) := by decide +kernel
theorem dL_sound_173 : decode cL_sound 173 = .ok (.iload 8, 2) := by decide +kernel
theorem dL_sound_175 : decode cL_sound 175 = .ok (.aload_n 0, 1) := by decide +kernel
theorem dL_sound_176 : decode cL_sound 176 = .ok (.iload 9, 2) := by decide +kernel
theorem dL_sound_178 : decode cL_sound 178 = .ok (.iconst 2, 1) := by decide +kernel
theorem dL_sound_179 : decode cL_sound 179 = .ok (.iload_n 3, 1) := by decide +kernel
theorem dL_sound_180 : decode cL_sound 180 = .ok (.iadd, 1) := by decide +kernel
theorem dL_sound_181 : decode cL_sound 181 = .ok (.invokevirtual 22, 3) := by decide +kernel
theorem dL_sound_184 : decode cL_sound 184 = .ok (.aload_n 0, 1) := by decide +kernel
theorem dL_sound_185 : decode cL_sound 185 = .ok (.iload 10, 2) := by decide +kernel
theorem dL_sound_187 : decode cL_sound 187 = .ok (.iconst 1, 1) := by decide +kernel
theorem dL_sound_188 : decode cL_sound 188 = .ok (.invokevirtual 48, 3) := by decide +kernel
theorem dL_sound_191 : decode cL_sound 191 = .ok (.imul, 1) := by decide +kernel
theorem dL_sound_192 : decode cL_sound 192 = .ok (.iadd, 1) := by decide +kernel
theorem dL_sound_193 : decode cL_sound 193 = .ok (.istore 8, 2) := by decide +kernel
theorem dL_sound_195 : decode cL_sound 195 = .ok (.aload_n 0, 1) := by decide +kernel
theorem dL_sound_196 : decode cL_sound 196 = .ok (.iload 10, 2) := by decide +kernel
theorem dL_sound_198 : decode cL_sound 198 = .ok (.iconst 0, 1) := by decide +kernel
theorem dL_sound_199 : decode cL_sound 199 = .ok (.invokevirtual 48, 3) := by decide +kernel
theorem dL_sound_202 : decode cL_sound 202 = .ok (.iload 9, 2) := by decide +kernel
theorem dL_sound_204 : decode cL_sound 204 = .ok (.if_icmp .ne 36, 3) := by decide +kernel
theorem dL_sound_207 : decode cL_sound 207 = .ok (.aload_n 0, 1) := by decide +kernel
theorem dL_sound_208 : decode cL_sound 208 = .ok (.iload 10, 2) := by decide +kernel
theorem dL_sound_210 : decode cL_sound 210 = .ok (.iconst 2, 1) := by decide +kernel
theorem dL_sound_211 : decode cL_sound 211 = .ok (.invokevirtual 48, 3) := by decide +kernel
theorem dL_sound_214 : decode cL_sound 214 = .ok (.aload_n 0, 1) := by decide +kernel
theorem dL_sound_215 : decode cL_sound 215 = .ok (.iload 9, 2) := by decide +kernel
theorem dL_sound_217 : decode cL_sound 217 = .ok (.iconst 0, 1) := by decide +kernel
theorem dL_sound_218 : decode cL_sound 218 = .ok (.invokevirtual 22, 3) := by decide +kernel
theorem dL_sound_221 : decode cL_sound 221 = .ok (.if_icmp .lt 19, 3) := by decide +kernel
theorem dL_sound_224 : decode cL_sound 224 = .ok (.iload 10, 2) := by decide +kernel
theorem dL_sound_226 : decode cL_sound 226 = .ok (.bipush 6, 2) := by decide +kernel
theorem dL_sound_228 : decode cL_sound 228 = .ok (.irem, 1) := by decide +kernel
theorem dL_sound_229 : decode cL_sound 229 = .ok (.aload_n 0, 1) := by decide +kernel
theorem dL_sound_230 : decode cL_sound 230 = .ok (.iload 9, 2) := by decide +kernel
theorem dL_sound_232 : decode cL_sound 232 = .ok (.bipush 11, 2) := by decide +kernel
theorem dL_sound_234 : decode cL_sound 234 = .ok (.invokevirtual 22, 3) := by decide +kernel
theorem dL_sound_237 : decode cL_sound 237 = .ok (.if_icmp .le 5, 3) := by decide +kernel
theorem dL_sound_240 : decode cL_sound 240 = .ok (.iconst 0, 1) := by decide +kernel
theorem dL_sound_241 : decode cL_sound 241 = .ok (.ireturn, 1) := by decide +kernel
theorem dL_sound_242 : decode cL_sound 242 = .ok (.aload_n 0, 1) := by decide +kernel
theorem dL_sound_243 : decode cL_sound 243 = .ok (.iload 9, 2) := by decide +kernel
theorem dL_sound_245 : decode cL_sound 245 = .ok (.invokevirtual 51, 3) := by decide +kernel
theorem dL_sound_248 : decode cL_sound 248 = .ok (.istore 12, 2) := by decide +kernel
theorem dL_sound_250 : decode cL_sound 250 = .ok (.iload 12, 2) := by decide +kernel
theorem dL_sound_252 : decode cL_sound 252 = .ok (.ifCond .lt 34, 3) := by decide +kernel
theorem dL_sound_255 : decode cL_sound 255 = .ok (.aload_n 0, 1) := by decide +kernel
theorem dL_sound_256 : decode cL_sound 256 = .ok (.iload 12, 2) := by decide +kernel
theorem dL_sound_258 : decode cL_sound 258 = .ok (.iconst 0, 1) := by decide +kernel
theorem dL_sound_259 : decode cL_sound 259 = .ok (.invokevirtual 48, 3) := by decide +kernel
theorem dL_sound_262 : decode cL_sound 262 = .ok (.bipush (-4), 2) := by decide +kernel
theorem dL_sound_264 : decode cL_sound 264 = .ok (.if_icmp .ne 20, 3) := by decide +kernel
theorem dL_sound_267 : decode cL_sound 267 = .ok (.aload_n 0, 1) := by decide +kernel
theorem dL_sound_268 : decode cL_sound 268 = .ok (.iload 12, 2) := by decide +kernel
theorem dL_sound_270 : decode cL_sound 270 = .ok (.iconst 2, 1) := by decide +kernel
theorem dL_sound_271 : decode cL_sound 271 = .ok (.invokevirtual 48, 3) := by decide +kernel
theorem dL_sound_274 : decode cL_sound 274 = .ok (.aload_n 0, 1) := by decide +kernel
theorem dL_sound_275 : decode cL_sound 275 = .ok (.iload 9, 2) := by decide +kernel
theorem dL_sound_277 : decode cL_sound 277 = .ok (.iconst 0, 1) := by decide +kernel
theorem dL_sound_278 : decode cL_sound 278 = .ok (.invokevirtual 22, 3) := by decide +kernel
theorem dL_sound_281 : decode cL_sound 281 = .ok (.if_icmp .ge 5, 3) := by decide +kernel
theorem dL_sound_284 : decode cL_sound 284 = .ok (.iconst 0, 1) := by decide +kernel
theorem dL_sound_285 : decode cL_sound 285 = .ok (.ireturn, 1) := by decide +kernel
theorem dL_sound_286 : decode cL_sound 286 = .ok (.iinc 9 1, 3) := by decide +kernel
theorem dL_sound_289 : decode cL_sound 289 = .ok (.goto (-259), 3) := by decide +kernel
theorem dL_sound_292 : decode cL_sound 292 = .ok (.iconst 0, 1) := by decide +kernel
theorem dL_sound_293 : decode cL_sound 293 = .ok (.istore 9, 2) := by decide +kernel
theorem dL_sound_295 : decode cL_sound 295 = .ok (.iload 9, 2) := by decide +kernel
theorem dL_sound_297 : decode cL_sound 297 = .ok (.iconst 4, 1) := by decide +kernel
theorem dL_sound_298 : decode cL_sound 298 = .ok (.if_icmp .ge 35, 3) := by decide +kernel
theorem dL_sound_301 : decode cL_sound 301 = .ok (.aload_n 0, 1) := by decide +kernel
theorem dL_sound_302 : decode cL_sound 302 = .ok (.iload 9, 2) := by decide +kernel
theorem dL_sound_304 : decode cL_sound 304 = .ok (.invokevirtual 78, 3) := by decide +kernel
theorem dL_sound_307 : decode cL_sound 307 = .ok (.aload_n 0, 1) := by decide +kernel
theorem dL_sound_308 : decode cL_sound 308 = .ok (.iload 9, 2) := by decide +kernel
theorem dL_sound_310 : decode cL_sound 310 = .ok (.invokevirtual 75, 3) := by decide +kernel
theorem dL_sound_313 : decode cL_sound 313 = .ok (.if_icmp .gt 12, 3) := by decide +kernel
theorem dL_sound_316 : decode cL_sound 316 = .ok (.aload_n 0, 1) := by decide +kernel
theorem dL_sound_317 : decode cL_sound 317 = .ok (.iload 9, 2) := by decide +kernel
theorem dL_sound_319 : decode cL_sound 319 = .ok (.invokevirtual 78, 3) := by decide +kernel
theorem dL_sound_322 : decode cL_sound 322 = .ok (.ifCond .ge 5, 3) := by decide +kernel
theorem dL_sound_325 : decode cL_sound 325 = .ok (.iconst 0, 1) := by decide +kernel
theorem dL_sound_326 : decode cL_sound 326 = .ok (.ireturn, 1) := by decide +kernel
theorem dL_sound_327 : decode cL_sound 327 = .ok (.iinc 9 1, 3) := by decide +kernel
theorem dL_sound_330 : decode cL_sound 330 = .ok (.goto (-35), 3) := by decide +kernel
theorem dL_sound_333 : decode cL_sound 333 = .ok (.aload_n 0, 1) := by decide +kernel
theorem dL_sound_334 : decode cL_sound 334 = .ok (.iconst 2, 1) := by decide +kernel
theorem dL_sound_335 : decode cL_sound 335 = .ok (.invokevirtual 19, 3) := by decide +kernel
theorem dL_sound_338 : decode cL_sound 338 = .ok (.istore 9, 2) := by decide +kernel
theorem dL_sound_340 : decode cL_sound 340 = .ok (.aload_n 0, 1) := by decide +kernel
theorem dL_sound_341 : decode cL_sound 341 = .ok (.iconst 1, 1) := by decide +kernel
theorem dL_sound_342 : decode cL_sound 342 = .ok (.invokevirtual 19, 3) := by decide +kernel
theorem dL_sound_345 : decode cL_sound 345 = .ok (.iload 4, 2) := by decide +kernel
theorem dL_sound_347 : decode cL_sound 347 = .ok (.if_icmp .ne 92, 3) := by decide +kernel
theorem dL_sound_350 : decode cL_sound 350 = .ok (.aload_n 0, 1) := by decide +kernel
theorem dL_sound_351 : decode cL_sound 351 = .ok (.iconst 5, 1) := by decide +kernel
theorem dL_sound_352 : decode cL_sound 352 = .ok (.invokevirtual 19, 3) := by decide +kernel
theorem dL_sound_355 : decode cL_sound 355 = .ok (.iload 5, 2) := by decide +kernel
theorem dL_sound_357 : decode cL_sound 357 = .ok (.if_icmp .ne 82, 3) := by decide +kernel
theorem dL_sound_360 : decode cL_sound 360 = .ok (.aload_n 0, 1) := by decide +kernel
theorem dL_sound_361 : decode cL_sound 361 = .ok (.bipush 6, 2) := by decide +kernel
theorem dL_sound_363 : decode cL_sound 363 = .ok (.invokevirtual 19, 3) := by decide +kernel
theorem dL_sound_366 : decode cL_sound 366 = .ok (.iload 6, 2) := by decide +kernel
theorem dL_sound_368 : decode cL_sound 368 = .ok (.if_icmp .ne 71, 3) := by decide +kernel
theorem dL_sound_371 : decode cL_sound 371 = .ok (.aload_n 0, 1) := by decide +kernel
theorem dL_sound_372 : decode cL_sound 372 = .ok (.bipush 7, 2) := by decide +kernel
theorem dL_sound_374 : decode cL_sound 374 = .ok (.invokevirtual 19, 3) := by decide +kernel
theorem dL_sound_377 : decode cL_sound 377 = .ok (.iload 7, 2) := by decide +kernel
theorem dL_sound_379 : decode cL_sound 379 = .ok (.if_icmp .ne 60, 3) := by decide +kernel
theorem dL_sound_382 : decode cL_sound 382 = .ok (.aload_n 0, 1) := by decide +kernel
theorem dL_sound_383 : decode cL_sound 383 = .ok (.iload_n 3, 1) := by decide +kernel
theorem dL_sound_384 : decode cL_sound 384 = .ok (.invokevirtual 75, 3) := by decide +kernel
theorem dL_sound_387 : decode cL_sound 387 = .ok (.iload 8, 2) := by decide +kernel
theorem dL_sound_389 : decode cL_sound 389 = .ok (.if_icmp .ne 50, 3) := by decide +kernel
theorem dL_sound_392 : decode cL_sound 392 = .ok (.aload_n 0, 1) := by decide +kernel
theorem dL_sound_393 : decode cL_sound 393 = .ok (.iconst 5, 1) := by decide +kernel
theorem dL_sound_394 : decode cL_sound 394 = .ok (.invokevirtual 13, 3) := by decide +kernel
theorem dL_sound_397 : decode cL_sound 397 = .ok (.aload_n 0, 1) := by decide +kernel
theorem dL_sound_398 : decode cL_sound 398 = .ok (.iconst 4, 1) := by decide +kernel
theorem dL_sound_399 : decode cL_sound 399 = .ok (.invokevirtual 13, 3) := by decide +kernel
theorem dL_sound_402 : decode cL_sound 402 = .ok (.isub, 1) := by decide +kernel
theorem dL_sound_403 : decode cL_sound 403 = .ok (.iload 8, 2) := by decide +kernel
theorem dL_sound_405 : decode cL_sound 405 = .ok (.if_icmp .ne 34, 3) := by decide +kernel
theorem dL_sound_408 : decode cL_sound 408 = .ok (.iload_n 3, 1) := by decide +kernel
theorem dL_sound_409 : decode cL_sound 409 = .ok (.iload 9, 2) := by decide +kernel
theorem dL_sound_411 : decode cL_sound 411 = .ok (.bipush 13, 2) := by decide +kernel
theorem dL_sound_413 : decode cL_sound 413 = .ok (.idiv, 1) := by decide +kernel
theorem dL_sound_414 : decode cL_sound 414 = .ok (.iconst 4, 1) := by decide +kernel
theorem dL_sound_415 : decode cL_sound 415 = .ok (.irem, 1) := by decide +kernel
theorem dL_sound_416 : decode cL_sound 416 = .ok (.if_icmp .ne 23, 3) := by decide +kernel
theorem dL_sound_419 : decode cL_sound 419 = .ok (.aload_n 0, 1) := by decide +kernel
theorem dL_sound_420 : decode cL_sound 420 = .ok (.iconst 4, 1) := by decide +kernel
theorem dL_sound_421 : decode cL_sound 421 = .ok (.invokevirtual 19, 3) := by decide +kernel
theorem dL_sound_424 : decode cL_sound 424 = .ok (.bipush 13, 2) := by decide +kernel
theorem dL_sound_426 : decode cL_sound 426 = .ok (.iload 9, 2) := by decide +kernel
theorem dL_sound_428 : decode cL_sound 428 = .ok (.bipush 13, 2) := by decide +kernel
theorem dL_sound_430 : decode cL_sound 430 = .ok (.irem, 1) := by decide +kernel
theorem dL_sound_431 : decode cL_sound 431 = .ok (.isub, 1) := by decide +kernel
theorem dL_sound_432 : decode cL_sound 432 = .ok (.if_icmp .ne 7, 3) := by decide +kernel
theorem dL_sound_435 : decode cL_sound 435 = .ok (.iconst 1, 1) := by decide +kernel
theorem dL_sound_436 : decode cL_sound 436 = .ok (.goto 4, 3) := by decide +kernel
theorem dL_sound_439 : decode cL_sound 439 = .ok (.iconst 0, 1) := by decide +kernel
theorem dL_sound_440 : decode cL_sound 440 = .ok (.ireturn, 1) := by decide +kernel
set_option maxRecDepth 20000 in
theorem ggL_worths_X5_count : GoodIn wsL_worths wsX5_count := goodIn_r _ [6, 7, 8, 9, 10, 11, 12, 13, 14, 15, 16, 17, 18, 19, 20, 21, 22, 23, 24, 25, 26, 27, 28, 29, 30, 31, 32, 33, 34, 35, 36, 37, 38, 39, 40, 41, 42, 43, 44, 136, 137, 138, 139, 140, 141, 142, 143, 144, 145, 146, 147, 148, 149, 150, 151, 152, 153, 154, 155, 156, 157, 158, 159, 160, 161, 162, 163] (by decide +kernel) (by decide +kernel)
set_option maxRecDepth 20000 in
theorem gL_worths_X5_count : GoodIn wsL_worths (wsV RL 19 RX5 yX5_count wsX5_count) := goodIn_app (goodIn_of _ (by decide +kernel)) ggL_worths_X5_count
set_option maxRecDepth 20000 in
theorem ggL_worths_X5_worth : GoodIn wsL_worths wsX5_worth := goodIn_r _ [48, 9, 49, 50, 51, 13, 52, 53, 54, 55, 56, 57, 15, 29, 30, 31, 32, 58, 5, 59, 60, 61, 62, 63, 28, 64, 65, 66, 67, 68, 69, 70, 71, 72, 73, 74, 75, 76, 77, 78, 79, 80, 81, 82, 83, 84, 85, 86, 87, 88, 89, 90, 91, 92, 93, 33, 34, 35, 36, 16, 94, 95, 96, 97, 98, 99, 100, 101, 37, 38, 39, 40, 136, 137, 138, 139, 140, 141, 142, 143, 144, 151, 152, 153, 154, 155, 156, 157, 158, 159, 160, 161, 162, 163] (by decide +kernel) (by decide +kernel)
set_option maxRecDepth 20000 in
theorem gL_worths_X5_worth : GoodIn wsL_worths (wsV RL 66 RX5 yX5_worth wsX5_worth) := goodIn_app (goodIn_of _ (by decide +kernel)) ggL_worths_X5_worth
set_option maxRecDepth 20000 in
theorem ggL_worths_X5_slotOf : GoodIn wsL_worths wsX5_slotOf := goodIn_r _ [105, 9, 106, 107, 108, 13, 109, 64, 29, 30, 31, 32, 54, 55, 56, 57, 15, 99, 100, 101, 85, 70, 71, 72, 73, 136, 137, 138, 139, 140, 141, 142, 143, 144, 151, 152, 153, 154, 155, 156, 157, 158, 159, 160, 161, 162, 163] (by decide +kernel) (by decide +kernel)
set_option maxRecDepth 20000 in
theorem gL_worths_X5_slotOf : GoodIn wsL_worths (wsV RL 48 RX5 yX5_slotOf wsX5_slotOf) := goodIn_app (goodIn_of _ (by decide +kernel)) ggL_worths_X5_slotOf
set_option maxRecDepth 20000 in
theorem ggL_worths_X5_goodOf : GoodIn wsL_worths wsX5_goodOf := goodIn_r _ [113, 9, 114, 115, 116, 13, 117, 69, 118, 28, 17, 18, 119, 120, 54, 55, 56, 57, 15, 58, 5, 59, 24, 25, 26, 27, 29, 30, 31, 32, 121, 122, 123, 73, 94, 95, 96, 97, 98, 136, 137, 138, 139, 140, 141, 142, 143, 144, 151, 152, 153, 154, 155, 156, 157, 158, 159, 160, 161, 162, 163] (by decide +kernel) (by decide +kernel)
set_option maxRecDepth 20000 in
theorem gL_worths_X5_goodOf : GoodIn wsL_worths (wsV RL 22 RX5 yX5_goodOf wsX5_goodOf) := goodIn_app (goodIn_of _ (by decide +kernel)) ggL_worths_X5_goodOf
set_option maxRecDepth 20000 in
theorem ggL_worths_X5_best : GoodIn wsL_worths wsX5_best := goodIn_r _ [127, 9, 128, 129, 130, 13, 131, 58, 5, 59, 132, 133, 134, 135, 15, 60, 61, 62, 63, 28, 64, 29, 30, 31, 32, 65, 66, 67, 68, 69, 70, 71, 72, 73, 54, 55, 56, 57, 86, 87, 88, 89, 90, 91, 92, 93, 33, 34, 35, 36, 16, 94, 95, 96, 97, 98, 99, 100, 101, 85, 37, 38, 39, 40, 74, 75, 76, 77, 78, 79, 80, 81, 82, 83, 84, 136, 137, 138, 139, 140, 141, 142, 143, 144, 151, 152, 153, 154, 155, 156, 157, 158, 159, 160, 161, 162, 163] (by decide +kernel) (by decide +kernel)
set_option maxRecDepth 20000 in
theorem gL_worths_X5_best : GoodIn wsL_worths (wsV RL 69 RX5 yX5_best wsX5_best) := goodIn_app (goodIn_of _ (by decide +kernel)) ggL_worths_X5_best
theorem dL_worths_0 : decode cL_worths 0 = .ok (.aload_n 0, 1) := by decide +kernel
theorem dL_worths_1 : decode cL_worths 1 = .ok (.iconst 0, 1) := by decide +kernel
theorem dL_worths_2 : decode cL_worths 2 = .ok (.invokevirtual 19, 3) := by decide +kernel
theorem dL_worths_5 : decode cL_worths 5 = .ok (.istore_n 1, 1) := by decide +kernel
theorem dL_worths_6 : decode cL_worths 6 = .ok (.aload_n 0, 1) := by decide +kernel
theorem dL_worths_7 : decode cL_worths 7 = .ok (.iconst 4, 1) := by decide +kernel
theorem dL_worths_8 : decode cL_worths 8 = .ok (.invokevirtual 19, 3) := by decide +kernel
theorem dL_worths_11 : decode cL_worths 11 = .ok (.istore_n 2, 1) := by decide +kernel
theorem dL_worths_12 : decode cL_worths 12 = .ok (.iconst 0, 1) := by decide +kernel
theorem dL_worths_13 : decode cL_worths 13 = .ok (.istore_n 3, 1) := by decide +kernel
theorem dL_worths_14 : decode cL_worths 14 = .ok (.bipush (-4), 2) := by decide +kernel
theorem dL_worths_16 : decode cL_worths 16 = .ok (.istore 4, 2) := by decide +kernel
theorem dL_worths_18 : decode cL_worths 18 = .ok (.bipush (-4), 2) := by decide +kernel
theorem dL_worths_20 : decode cL_worths 20 = .ok (.istore 5, 2) := by decide +kernel
theorem dL_worths_22 : decode cL_worths 22 = .ok (.iconst 0, 1) := by decide +kernel
theorem dL_worths_23 : decode cL_worths 23 = .ok (.istore 6, 2) := by decide +kernel
theorem dL_worths_25 : decode cL_worths 25 = .ok (.iload 6, 2) := by decide +kernel
theorem dL_worths_27 : decode cL_worths 27 = .ok (.iload_n 1, 1) := by decide +kernel
theorem dL_worths_28 : decode cL_worths 28 = .ok (.if_icmp .ge 214, 3) := by decide +kernel
theorem dL_worths_31 : decode cL_worths 31 = .ok (.iconst 0, 1) := by decide +kernel
theorem dL_worths_32 : decode cL_worths 32 = .ok (.istore 7, 2) := by decide +kernel
theorem dL_worths_34 : decode cL_worths 34 = .ok (.iload 7, 2) := by decide +kernel
theorem dL_worths_36 : decode cL_worths 36 = .ok (.bipush 60, 2) := by decide +kernel
theorem dL_worths_38 : decode cL_worths 38 = .ok (.if_icmp .ge 198, 3) := by decide +kernel
theorem dL_worths_41 : decode cL_worths 41 = .ok (.aload_n 0, 1) := by decide +kernel
theorem dL_worths_42 : decode cL_worths 42 = .ok (.iload 6, 2) := by decide +kernel
theorem dL_worths_44 : decode cL_worths 44 = .ok (.iload 7, 2) := by decide +kernel
theorem dL_worths_46 : decode cL_worths 46 = .ok (.iconst 0, 1) := by decide +kernel
theorem dL_worths_47 : decode cL_worths 47 = .ok (.invokevirtual 66, 3) := by decide +kernel
theorem dL_worths_50 : decode cL_worths 50 = .ok (.istore 8, 2) := by decide +kernel
theorem dL_worths_52 : decode cL_worths 52 = .ok (.aload_n 0, 1) := by decide +kernel
theorem dL_worths_53 : decode cL_worths 53 = .ok (.iload 7, 2) := by decide +kernel
theorem dL_worths_55 : decode cL_worths 55 = .ok (.iconst 0, 1) := by decide +kernel
theorem dL_worths_56 : decode cL_worths 56 = .ok (.invokevirtual 48, 3) := by decide +kernel
theorem dL_worths_59 : decode cL_worths 59 = .ok (.istore 9, 2) := by decide +kernel
theorem dL_worths_61 : decode cL_worths 61 = .ok (.iload 8, 2) := by decide +kernel
theorem dL_worths_63 : decode cL_worths 63 = .ok (.ifCond .lt 123, 3) := by decide +kernel
theorem dL_worths_66 : decode cL_worths 66 = .ok (.aload_n 0, 1) := by decide +kernel
theorem dL_worths_67 : decode cL_worths 67 = .ok (.iload 6, 2) := by decide +kernel
theorem dL_worths_69 : decode cL_worths 69 = .ok (.iload 7, 2) := by decide +kernel
theorem dL_worths_71 : decode cL_worths 71 = .ok (.iconst 1, 1) := by decide +kernel
theorem dL_worths_72 : decode cL_worths 72 = .ok (.invokevirtual 66, 3) := by decide +kernel
theorem dL_worths_75 : decode cL_worths 75 = .ok (.ldc 90, 2) := by decide +kernel
theorem dL_worths_77 : decode cL_worths 77 = .ok (.isub, 1) := by decide +kernel
theorem dL_worths_78 : decode cL_worths 78 = .ok (.istore 10, 2) := by decide +kernel
theorem dL_worths_80 : decode cL_worths 80 = .ok (.iload 10, 2) := by decide +kernel
theorem dL_worths_82 : decode cL_worths 82 = .ok (.iload_n 2, 1) := by decide +kernel
theorem dL_worths_83 : decode cL_worths 83 = .ok (.imul, 1) := by decide +kernel
theorem dL_worths_84 : decode cL_worths 84 = .ok (.aload_n 0, 1) := by decide +kernel
theorem dL_worths_85 : decode cL_worths 85 = .ok (.iload 6, 2) := by decide +kernel
theorem dL_worths_87 : decode cL_worths 87 = .ok (.iload 7, 2) := by decide +kernel
theorem dL_worths_89 : decode cL_worths 89 = .ok (.iconst 2, 1) := by decide +kernel
theorem dL_worths_90 : decode cL_worths 90 = .ok (.invokevirtual 66, 3) := by decide +kernel
theorem dL_worths_93 : decode cL_worths 93 = .ok (.isub, 1) := by decide +kernel
theorem dL_worths_94 : decode cL_worths 94 = .ok (.istore 11, 2) := by decide +kernel
theorem dL_worths_96 : decode cL_worths 96 = .ok (.iload 8, 2) := by decide +kernel
theorem dL_worths_98 : decode cL_worths 98 = .ok (.ldc 90, 2) := by decide +kernel
theorem dL_worths_100 : decode cL_worths 100 = .ok (.isub, 1) := by decide +kernel
theorem dL_worths_101 : decode cL_worths 101 = .ok (.iload 11, 2) := by decide +kernel
theorem dL_worths_103 : decode cL_worths 103 = .ok (.if_icmp .ne 35, 3) := by decide +kernel
theorem dL_worths_106 : decode cL_worths 106 = .ok (.iload 9, 2) := by decide +kernel
theorem dL_worths_108 : decode cL_worths 108 = .ok (.ifCond .lt 23, 3) := by decide +kernel
theorem dL_worths_111 : decode cL_worths 111 = .ok (.aload_n 0, 1) := by decide +kernel
theorem dL_worths_112 : decode cL_worths 112 = .ok (.iload 9, 2) := by decide +kernel
theorem dL_worths_114 : decode cL_worths 114 = .ok (.aload_n 0, 1) := by decide +kernel
theorem dL_worths_115 : decode cL_worths 115 = .ok (.iload 6, 2) := by decide +kernel
theorem dL_worths_117 : decode cL_worths 117 = .ok (.bipush 6, 2) := by decide +kernel
theorem dL_worths_119 : decode cL_worths 119 = .ok (.invokevirtual 22, 3) := by decide +kernel
theorem dL_worths_122 : decode cL_worths 122 = .ok (.iconst 0, 1) := by decide +kernel
theorem dL_worths_123 : decode cL_worths 123 = .ok (.invokevirtual 66, 3) := by decide +kernel
theorem dL_worths_126 : decode cL_worths 126 = .ok (.iload 8, 2) := by decide +kernel
theorem dL_worths_128 : decode cL_worths 128 = .ok (.if_icmp .ne 10, 3) := by decide +kernel
theorem dL_worths_131 : decode cL_worths 131 = .ok (.iload 9, 2) := by decide +kernel
theorem dL_worths_133 : decode cL_worths 133 = .ok (.iload 6, 2) := by decide +kernel
theorem dL_worths_135 : decode cL_worths 135 = .ok (.if_icmp .ne 5, 3) := by decide +kernel
theorem dL_worths_138 : decode cL_worths 138 = .ok (.iconst 0, 1) := by decide +kernel
theorem dL_worths_139 : decode cL_worths 139 = .ok (.ireturn, 1) := by decide +kernel
theorem dL_worths_140 : decode cL_worths 140 = .ok (.iload 11, 2) := by decide +kernel
theorem dL_worths_142 : decode cL_worths 142 = .ok (.iload_n 3, 1) := by decide +kernel
theorem dL_worths_143 : decode cL_worths 143 = .ok (.if_icmp .le 8, 3) := by decide +kernel
theorem dL_worths_146 : decode cL_worths 146 = .ok (.iload 6, 2) := by decide +kernel
theorem dL_worths_148 : decode cL_worths 148 = .ok (.goto 5, 3) := by decide +kernel
theorem dL_worths_151 : decode cL_worths 151 = .ok (.iload 4, 2) := by decide +kernel
theorem dL_worths_153 : decode cL_worths 153 = .ok (.istore 4, 2) := by decide +kernel
theorem dL_worths_155 : decode cL_worths 155 = .ok (.iload 11, 2) := by decide +kernel
theorem dL_worths_157 : decode cL_worths 157 = .ok (.iload_n 3, 1) := by decide +kernel
theorem dL_worths_158 : decode cL_worths 158 = .ok (.if_icmp .le 8, 3) := by decide +kernel
theorem dL_worths_161 : decode cL_worths 161 = .ok (.iload 7, 2) := by decide +kernel
theorem dL_worths_163 : decode cL_worths 163 = .ok (.goto 5, 3) := by decide +kernel
theorem dL_worths_166 : decode cL_worths 166 = .ok (.iload 5, 2) := by decide +kernel
theorem dL_worths_168 : decode cL_worths 168 = .ok (.istore 5, 2) := by decide +kernel
theorem dL_worths_170 : decode cL_worths 170 = .ok (.iload 11, 2) := by decide +kernel
theorem dL_worths_172 : decode cL_worths 172 = .ok (.iload_n 3, 1) := by decide +kernel
theorem dL_worths_173 : decode cL_worths 173 = .ok (.if_icmp .le 8, 3) := by decide +kernel
theorem dL_worths_176 : decode cL_worths 176 = .ok (.iload 11, 2) := by decide +kernel
theorem dL_worths_178 : decode cL_worths 178 = .ok (.goto 4, 3) := by decide +kernel
theorem dL_worths_181 : decode cL_worths 181 = .ok (.iload_n 3, 1) := by decide +kernel
theorem dL_worths_182 : decode cL_worths 182 = .ok (.istore_n 3, 1) := by decide +kernel
theorem dL_worths_183 : decode cL_worths 183 = .ok (.goto 47, 3) := by decide +kernel
theorem dL_worths_186 : decode cL_worths 186 = .ok (.iload 8, 2) := by decide +kernel
theorem dL_worths_188 : decode cL_worths 188 = .ok (.bipush (-2), 2) := by decide +kernel
theorem dL_worths_190 : decode cL_worths 190 = .ok (.if_icmp .ne 38, 3) := by decide +kernel
theorem dL_worths_193 : decode cL_worths 193 = .ok (.aload_n 0, 1) := by decide +kernel
theorem dL_worths_194 : decode cL_worths 194 = .ok (.iload 6, 2) := by decide +kernel
theorem dL_worths_196 : decode cL_worths 196 = .ok (.bipush 6, 2) := by decide +kernel
theorem dL_worths_198 : decode cL_worths 198 = .ok (.invokevirtual 22, 3) := by decide +kernel
theorem dL_worths_201 : decode cL_worths 201 = .ok (.ifCond .lt 29, 3) := by decide +kernel
theorem dL_worths_204 : decode cL_worths 204 = .ok (.iload 9, 2) := by decide +kernel
theorem dL_worths_206 : decode cL_worths 206 = .ok (.bipush (-4), 2) := by decide +kernel
theorem dL_worths_208 : decode cL_worths 208 = .ok (.if_icmp .ne 22, 3) := by decide +kernel
theorem dL_worths_211 : decode cL_worths 211 = .ok (.aload_n 0, 1) := by decide +kernel
theorem dL_worths_212 : decode cL_worths 212 = .ok (.iload 7, 2) := by decide +kernel
theorem dL_worths_214 : decode cL_worths 214 = .ok (.iconst 2, 1) := by decide +kernel
theorem dL_worths_215 : decode cL_worths 215 = .ok (.invokevirtual 48, 3) := by decide +kernel
theorem dL_worths_218 : decode cL_worths 218 = .ok (.aload_n 0, 1) := by decide +kernel
theorem dL_worths_219 : decode cL_worths 219 = .ok (.iload 6, 2) := by decide +kernel
theorem dL_worths_221 : decode cL_worths 221 = .ok (.iconst 0, 1) := by decide +kernel
theorem dL_worths_222 : decode cL_worths 222 = .ok (.invokevirtual 22, 3) := by decide +kernel
theorem dL_worths_225 : decode cL_worths 225 = .ok (.if_icmp .lt 5, 3) := by decide +kernel
theorem dL_worths_228 : decode cL_worths 228 = .ok (.iconst 0, 1) := by decide +kernel
theorem dL_worths_229 : decode cL_worths 229 = .ok (.ireturn, 1) := by decide +kernel
theorem dL_worths_230 : decode cL_worths 230 = .ok (.iinc 7 1, 3) := by decide +kernel
theorem dL_worths_233 : decode cL_worths 233 = .ok (.goto (-199), 3) := by decide +kernel
theorem dL_worths_236 : decode cL_worths 236 = .ok (.iinc 6 1, 3) := by decide +kernel
theorem dL_worths_239 : decode cL_worths 239 = .ok (.goto (-214), 3) := by decide +kernel
theorem dL_worths_242 : decode cL_worths 242 = .ok (.aload_n 0, 1) := by decide +kernel
theorem dL_worths_243 : decode cL_worths 243 = .ok (.iconst 0, 1) := by decide +kernel
theorem dL_worths_244 : decode cL_worths 244 = .ok (.invokevirtual 69, 3) := by decide +kernel
theorem dL_worths_247 : decode cL_worths 247 = .ok (.iload 4, 2) := by decide +kernel
theorem dL_worths_249 : decode cL_worths 249 = .ok (.if_icmp .ne 35, 3) := by decide +kernel
theorem dL_worths_252 : decode cL_worths 252 = .ok (.aload_n 0, 1) := by decide +kernel
theorem dL_worths_253 : decode cL_worths 253 = .ok (.iconst 1, 1) := by decide +kernel
theorem dL_worths_254 : decode cL_worths 254 = .ok (.invokevirtual 69, 3) := by decide +kernel
theorem dL_worths_257 : decode cL_worths 257 = .ok (.iload 5, 2) := by decide +kernel
theorem dL_worths_259 : decode cL_worths 259 = .ok (.if_icmp .ne 25, 3) := by decide +kernel
theorem dL_worths_262 : decode cL_worths 262 = .ok (.aload_n 0, 1) := by decide +kernel
theorem dL_worths_263 : decode cL_worths 263 = .ok (.iconst 2, 1) := by decide +kernel
theorem dL_worths_264 : decode cL_worths 264 = .ok (.invokevirtual 69, 3) := by decide +kernel
theorem dL_worths_267 : decode cL_worths 267 = .ok (.iload_n 3, 1) := by decide +kernel
theorem dL_worths_268 : decode cL_worths 268 = .ok (.ifCond .ne 8, 3) := by decide +kernel
theorem dL_worths_271 : decode cL_worths 271 = .ok (.bipush (-4), 2) := by decide +kernel
theorem dL_worths_273 : decode cL_worths 273 = .ok (.goto 4, 3) := by decide +kernel
theorem dL_worths_276 : decode cL_worths 276 = .ok (.iload_n 3, 1) := by decide +kernel
theorem dL_worths_277 : decode cL_worths 277 = .ok (.if_icmp .ne 7, 3) := by decide +kernel
theorem dL_worths_280 : decode cL_worths 280 = .ok (.iconst 1, 1) := by decide +kernel
theorem dL_worths_281 : decode cL_worths 281 = .ok (.goto 4, 3) := by decide +kernel
theorem dL_worths_284 : decode cL_worths 284 = .ok (.iconst 0, 1) := by decide +kernel
theorem dL_worths_285 : decode cL_worths 285 = .ok (.ireturn, 1) := by decide +kernel
set_option maxRecDepth 20000 in
theorem ggL_act_X5_count : GoodIn wsL_act wsX5_count := goodIn_r _ [5, 6, 7, 8, 9, 10, 11, 12, 13, 14, 15, 16, 17, 18, 19, 20, 21, 22, 23, 24, 25, 26, 27, 28, 29, 30, 31, 32, 33, 34, 35, 36, 37, 38, 39, 40, 41, 42, 43, 263, 264, 265, 266, 267, 268, 269, 270, 271, 272, 273, 274, 275, 276, 277, 278, 279, 280, 281, 282, 283, 284, 285, 286, 287, 288, 289, 290] (by decide +kernel) (by decide +kernel)
set_option maxRecDepth 20000 in
theorem gL_act_X5_count : GoodIn wsL_act (wsV RL 19 RX5 yX5_count wsX5_count) := goodIn_app (goodIn_of _ (by decide +kernel)) ggL_act_X5_count
set_option maxRecDepth 20000 in
theorem ggL_act_L_up : GoodIn wsL_act wsL_up := goodIn_r _ [47, 48] (by decide +kernel) (by decide +kernel)
set_option maxRecDepth 20000 in
theorem gL_act_L_up : GoodIn wsL_act (va_wsS RL 91 yL_up wsL_up) := goodIn_app (goodIn_of _ (by decide +kernel)) ggL_act_L_up
set_option maxRecDepth 20000 in
theorem ggL_act_X5_pick : GoodIn wsL_act wsX5_pick := goodIn_r _ [52, 53, 54, 55, 56, 4, 57, 8, 58, 59, 60, 12, 61, 62, 63, 64, 27, 16, 17, 65, 66, 67, 18, 68, 14, 15, 69, 70, 71, 72, 73, 74, 75, 76, 77, 78, 79, 80, 81, 82, 83, 84, 85, 86, 87, 88, 89, 90, 91, 92, 93, 94, 95, 96, 97, 98, 99, 100, 101, 23, 24, 25, 26, 28, 29, 30, 31, 102, 103, 104, 105, 106, 107, 108, 109, 110, 111, 112, 113, 114, 115, 116, 117, 118, 119, 120, 121, 122, 123, 124, 125, 6, 126, 127, 128, 129, 130, 263, 264, 265, 266, 267, 268, 269, 270, 271, 278, 279, 280, 281, 282, 283, 284, 285, 286, 287, 288, 289, 290, 291, 292, 293, 294, 295, 296, 297] (by decide +kernel) (by decide +kernel)
set_option maxRecDepth 20000 in
theorem gL_act_X5_pick : GoodIn wsL_act (wsV RL 54 RX5 yX5_pick wsX5_pick) := goodIn_app (goodIn_of _ (by decide +kernel)) ggL_act_X5_pick
set_option maxRecDepth 20000 in
theorem ggL_act_X5_refill : GoodIn wsL_act wsX5_refill := goodIn_r _ [134, 53, 54, 55, 56, 4, 57, 8, 58, 59, 60, 12, 61, 62, 63, 64, 27, 16, 17, 65, 66, 67, 18, 68, 14, 15, 69, 70, 71, 72, 73, 74, 75, 76, 77, 78, 79, 80, 81, 82, 83, 84, 85, 86, 87, 88, 89, 90, 91, 135, 136, 137, 138, 96, 97, 98, 99, 23, 24, 25, 26, 28, 29, 30, 31, 102, 103, 104, 105, 106, 107, 108, 109, 110, 111, 112, 113, 114, 115, 116, 117, 118, 119, 120, 121, 122, 123, 124, 125, 6, 126, 127, 128, 129, 130, 263, 264, 265, 266, 267, 268, 269, 270, 271, 278, 279, 280, 281, 282, 283, 284, 285, 286, 287, 288, 289, 290, 291, 292, 293, 294, 295, 296, 297] (by decide +kernel) (by decide +kernel)
set_option maxRecDepth 20000 in
theorem gL_act_X5_refill : GoodIn wsL_act (wsV RL 57 RX5 yX5_refill wsX5_refill) := goodIn_app (goodIn_of _ (by decide +kernel)) ggL_act_X5_refill
set_option maxRecDepth 20000 in
theorem ggL_act_X5_endWeek : GoodIn wsL_act wsX5_endWeek := goodIn_r _ [142, 53, 54, 55, 56, 4, 57, 8, 58, 59, 60, 12, 61, 62, 63, 64, 27, 16, 17, 65, 66, 67, 18, 68, 14, 15, 69, 70, 71, 72, 73, 74, 75, 76, 77, 78, 79, 80, 81, 82, 83, 84, 85, 86, 87, 88, 89, 90, 91, 143, 144, 145, 146, 32, 33, 34, 35, 147, 148, 149, 150, 118, 119, 120, 121, 122, 123, 124, 125, 6, 126, 127, 128, 129, 130, 263, 264, 265, 266, 267, 268, 269, 270, 271, 278, 279, 280, 281, 282, 283, 284, 285, 286, 287, 288, 289, 290, 291, 292, 293, 294, 295, 296, 297] (by decide +kernel) (by decide +kernel)
set_option maxRecDepth 20000 in
theorem gL_act_X5_endWeek : GoodIn wsL_act (wsV RL 94 RX5 yX5_endWeek wsX5_endWeek) := goodIn_app (goodIn_of _ (by decide +kernel)) ggL_act_X5_endWeek
set_option maxRecDepth 20000 in
theorem ggL_act_X5_move : GoodIn wsL_act wsX5_move := goodIn_r _ [154, 53, 54, 55, 56, 4, 57, 8, 58, 59, 60, 12, 61, 62, 63, 64, 27, 16, 17, 65, 66, 67, 18, 68, 14, 15, 69, 70, 71, 72, 73, 74, 75, 76, 77, 78, 79, 80, 81, 82, 83, 84, 85, 86, 87, 88, 89, 90, 91, 155, 156, 157, 158, 159, 96, 97, 98, 99, 28, 29, 30, 31, 160, 161, 162, 163, 164, 165, 166, 167, 168, 169, 170, 171, 172, 173, 174, 175, 176, 177, 178, 179, 32, 33, 34, 35, 147, 148, 149, 150, 114, 115, 116, 117, 180, 181, 182, 183, 184, 185, 186, 187, 188, 189, 190, 191, 192, 193, 118, 119, 120, 121, 122, 123, 124, 125, 6, 126, 127, 128, 129, 130, 263, 264, 265, 266, 267, 268, 269, 270, 271, 278, 279, 280, 281, 282, 283, 284, 285, 286, 287, 288, 289, 290, 291, 292, 293, 294, 295, 296, 297] (by decide +kernel) (by decide +kernel)
set_option maxRecDepth 20000 in
theorem gL_act_X5_move : GoodIn wsL_act (wsV RL 60 RX5 yX5_move wsX5_move) := goodIn_app (goodIn_of _ (by decide +kernel)) ggL_act_X5_move
set_option maxRecDepth 20000 in
theorem ggL_act_X5_exchange : GoodIn wsL_act wsX5_exchange := goodIn_r _ [197, 53, 54, 55, 56, 4, 57, 8, 58, 59, 60, 12, 61, 62, 63, 64, 27, 16, 17, 65, 66, 67, 18, 68, 14, 15, 69, 70, 71, 72, 73, 74, 75, 76, 77, 78, 79, 80, 81, 82, 83, 84, 85, 86, 87, 88, 89, 90, 91, 198, 199, 200, 201, 159, 96, 97, 98, 99, 23, 24, 25, 26, 28, 29, 30, 31, 160, 161, 162, 163, 164, 165, 166, 167, 168, 169, 170, 171, 172, 173, 174, 175, 176, 177, 178, 179, 32, 33, 34, 35, 147, 148, 149, 150, 114, 115, 116, 117, 180, 181, 182, 183, 184, 185, 186, 187, 188, 189, 190, 191, 192, 193, 118, 119, 120, 121, 122, 123, 124, 125, 6, 126, 127, 128, 129, 130, 263, 264, 265, 266, 267, 268, 269, 270, 271, 278, 279, 280, 281, 282, 283, 284, 285, 286, 287, 288, 289, 290, 291, 292, 293, 294, 295, 296, 297] (by decide +kernel) (by decide +kernel)
set_option maxRecDepth 20000 in
theorem gL_act_X5_exchange : GoodIn wsL_act (wsV RL 63 RX5 yX5_exchange wsX5_exchange) := goodIn_app (goodIn_of _ (by decide +kernel)) ggL_act_X5_exchange
set_option maxRecDepth 20000 in
theorem ggL_act_X5_improve : GoodIn wsL_act wsX5_improve := goodIn_r _ [205, 53, 54, 55, 56, 4, 57, 8, 58, 59, 60, 12, 61, 62, 63, 64, 27, 16, 17, 65, 66, 67, 18, 68, 14, 15, 69, 70, 71, 72, 73, 74, 75, 76, 77, 78, 79, 80, 81, 82, 83, 84, 85, 86, 87, 88, 89, 90, 91, 206, 207, 208, 209, 100, 101, 210, 211, 212, 213, 160, 161, 162, 163, 28, 29, 30, 31, 164, 165, 166, 167, 168, 169, 170, 171, 96, 97, 98, 99, 214, 215, 216, 217, 176, 177, 178, 179, 32, 33, 34, 35, 147, 148, 149, 150, 114, 115, 116, 117, 36, 37, 38, 39, 180, 181, 182, 183, 184, 185, 186, 187, 188, 189, 172, 173, 174, 175, 190, 191, 192, 193, 118, 119, 120, 121, 122, 123, 124, 125, 6, 126, 127, 128, 129, 130, 263, 264, 265, 266, 267, 268, 269, 270, 271, 278, 279, 280, 281, 282, 283, 284, 285, 286, 287, 288, 289, 290, 291, 292, 293, 294, 295, 296, 297] (by decide +kernel) (by decide +kernel)
set_option maxRecDepth 20000 in
theorem gL_act_X5_improve : GoodIn wsL_act (wsV RL 72 RX5 yX5_improve wsX5_improve) := goodIn_app (goodIn_of _ (by decide +kernel)) ggL_act_X5_improve
set_option maxRecDepth 20000 in
theorem ggL_act_X5_take : GoodIn wsL_act wsX5_take := goodIn_r _ [221, 53, 54, 55, 56, 4, 57, 8, 58, 59, 60, 12, 61, 62, 63, 64, 27, 16, 17, 65, 66, 67, 18, 68, 14, 15, 69, 70, 71, 72, 73, 74, 75, 76, 77, 78, 79, 80, 81, 82, 83, 84, 85, 86, 87, 88, 89, 90, 91, 222, 223, 224, 225, 96, 97, 98, 99, 23, 24, 25, 26, 28, 29, 30, 31, 118, 119, 120, 121, 122, 123, 124, 125, 6, 126, 127, 128, 129, 130, 263, 264, 265, 266, 267, 268, 269, 270, 271, 278, 279, 280, 281, 282, 283, 284, 285, 286, 287, 288, 289, 290, 291, 292, 293, 294, 295, 296, 297] (by decide +kernel) (by decide +kernel)
set_option maxRecDepth 20000 in
theorem gL_act_X5_take : GoodIn wsL_act (wsV RL 45 RX5 yX5_take wsX5_take) := goodIn_app (goodIn_of _ (by decide +kernel)) ggL_act_X5_take
set_option maxRecDepth 20000 in
theorem ggL_act_X5_demand : GoodIn wsL_act wsX5_demand := goodIn_r _ [229, 53, 54, 55, 56, 4, 57, 8, 58, 59, 60, 12, 61, 62, 63, 64, 27, 16, 17, 65, 66, 67, 18, 68, 14, 15, 69, 70, 71, 72, 73, 74, 75, 76, 77, 78, 79, 80, 81, 82, 83, 84, 85, 86, 87, 88, 89, 90, 91, 230, 231, 232, 233, 96, 97, 98, 99, 234, 235, 100, 101, 147, 148, 149, 150, 118, 119, 120, 121, 122, 123, 124, 125, 6, 126, 127, 128, 129, 130, 263, 264, 265, 266, 267, 268, 269, 270, 271, 278, 279, 280, 281, 282, 283, 284, 285, 286, 287, 288, 289, 290, 291, 292, 293, 294, 295, 296, 297] (by decide +kernel) (by decide +kernel)
set_option maxRecDepth 20000 in
theorem gL_act_X5_demand : GoodIn wsL_act (wsV RL 35 RX5 yX5_demand wsX5_demand) := goodIn_app (goodIn_of _ (by decide +kernel)) ggL_act_X5_demand
set_option maxRecDepth 20000 in
theorem ggL_act_X5_set : GoodIn wsL_act wsX5_set := goodIn_r _ [239, 53, 54, 55, 56, 4, 57, 8, 58, 59, 60, 12, 61, 62, 63, 64, 27, 16, 17, 65, 66, 67, 18, 68, 14, 15, 69, 70, 71, 72, 73, 74, 75, 76, 77, 78, 79, 80, 81, 82, 83, 84, 85, 86, 87, 88, 89, 90, 91, 240, 241, 242, 243, 244, 245, 100, 101, 118, 119, 120, 121, 122, 123, 124, 125, 6, 126, 127, 128, 129, 130, 263, 264, 265, 266, 267, 268, 269, 270, 271, 278, 279, 280, 281, 282, 283, 284, 285, 286, 287, 288, 289, 290, 291, 292, 293, 294, 295, 296, 297] (by decide +kernel) (by decide +kernel)
set_option maxRecDepth 20000 in
theorem gL_act_X5_set : GoodIn wsL_act (wsV RL 81 RX5 yX5_set wsX5_set) := goodIn_app (goodIn_of _ (by decide +kernel)) ggL_act_X5_set
set_option maxRecDepth 20000 in
theorem ggL_act_X5_place : GoodIn wsL_act wsX5_place := goodIn_r _ [249, 53, 54, 55, 56, 4, 57, 8, 58, 59, 60, 12, 61, 62, 63, 64, 27, 16, 17, 65, 66, 67, 18, 68, 14, 15, 69, 70, 71, 72, 73, 74, 75, 76, 77, 78, 79, 80, 81, 82, 83, 84, 85, 86, 87, 88, 89, 90, 91, 250, 251, 252, 253, 96, 97, 98, 99, 28, 29, 30, 31, 23, 24, 25, 26, 164, 165, 166, 167, 168, 169, 170, 171, 190, 191, 192, 193, 114, 115, 116, 117, 118, 119, 120, 121, 122, 123, 124, 125, 6, 126, 127, 128, 129, 130, 263, 264, 265, 266, 267, 268, 269, 270, 271, 278, 279, 280, 281, 282, 283, 284, 285, 286, 287, 288, 289, 290, 291, 292, 293, 294, 295, 296, 297] (by decide +kernel) (by decide +kernel)
set_option maxRecDepth 20000 in
theorem gL_act_X5_place : GoodIn wsL_act (wsV RL 42 RX5 yX5_place wsX5_place) := goodIn_app (goodIn_of _ (by decide +kernel)) ggL_act_X5_place
set_option maxRecDepth 20000 in
theorem ggL_act_X5_deliver : GoodIn wsL_act wsX5_deliver := goodIn_r _ [257, 53, 54, 55, 56, 4, 57, 8, 58, 59, 60, 12, 61, 62, 63, 64, 27, 16, 17, 65, 66, 67, 18, 68, 14, 15, 69, 70, 71, 72, 73, 74, 75, 76, 77, 78, 79, 80, 81, 82, 83, 84, 85, 86, 87, 88, 89, 90, 91, 258, 259, 260, 261, 262, 96, 97, 98, 99, 100, 101, 118, 119, 120, 121, 122, 123, 124, 125, 6, 126, 127, 128, 129, 130, 263, 264, 265, 266, 267, 268, 269, 270, 271, 278, 279, 280, 281, 282, 283, 284, 285, 286, 287, 288, 289, 290, 291, 292, 293, 294, 295, 296, 297] (by decide +kernel) (by decide +kernel)
set_option maxRecDepth 20000 in
theorem gL_act_X5_deliver : GoodIn wsL_act (wsV RL 39 RX5 yX5_deliver wsX5_deliver) := goodIn_app (goodIn_of _ (by decide +kernel)) ggL_act_X5_deliver
theorem dL_act_0 : decode cL_act 0 = .ok (.aload_n 0, 1) := by decide +kernel
theorem dL_act_1 : decode cL_act 1 = .ok (.iconst 0, 1) := by decide +kernel
theorem dL_act_2 : decode cL_act 2 = .ok (.invokevirtual 19, 3) := by decide +kernel
theorem dL_act_5 : decode cL_act 5 = .ok (.istore_n 3, 1) := by decide +kernel
theorem dL_act_6 : decode cL_act 6 = .ok (.iload_n 1, 1) := by decide +kernel
theorem dL_act_7 : decode cL_act 7 = .ok (.iconst 4, 1) := by decide +kernel
theorem dL_act_8 : decode cL_act 8 = .ok (.ishr, 1) := by decide +kernel
theorem dL_act_9 : decode cL_act 9 = .ok (.iload_n 3, 1) := by decide +kernel
theorem dL_act_10 : decode cL_act 10 = .ok (.invokestatic 91, 3) := by decide +kernel
theorem dL_act_13 : decode cL_act 13 = .ok (.istore 4, 2) := by decide +kernel
theorem dL_act_15 : decode cL_act 15 = .ok (.iload_n 1, 1) := by decide +kernel
theorem dL_act_16 : decode cL_act 16 = .ok (.bipush 8, 2) := by decide +kernel
theorem dL_act_18 : decode cL_act 18 = .ok (.ishr, 1) := by decide +kernel
theorem dL_act_19 : decode cL_act 19 = .ok (.bipush 60, 2) := by decide +kernel
theorem dL_act_21 : decode cL_act 21 = .ok (.invokestatic 91, 3) := by decide +kernel
theorem dL_act_24 : decode cL_act 24 = .ok (.istore 5, 2) := by decide +kernel
theorem dL_act_26 : decode cL_act 26 = .ok (.iload_n 1, 1) := by decide +kernel
theorem dL_act_27 : decode cL_act 27 = .ok (.bipush 12, 2) := by decide +kernel
theorem dL_act_29 : decode cL_act 29 = .ok (.invokestatic 91, 3) := by decide +kernel
theorem dL_act_32 : decode cL_act 32 = .ok (.tableswitch 191 0 10 #[60, 60, 78, 85, 90, 99, 114, 129, 136, 161, 182], 60) := by decide +kernel
theorem dL_act_92 : decode cL_act 92 = .ok (.aload_n 0, 1) := by decide +kernel
theorem dL_act_93 : decode cL_act 93 = .ok (.iload 4, 2) := by decide +kernel
theorem dL_act_95 : decode cL_act 95 = .ok (.iconst 1, 1) := by decide +kernel
theorem dL_act_96 : decode cL_act 96 = .ok (.iload_n 1, 1) := by decide +kernel
theorem dL_act_97 : decode cL_act 97 = .ok (.bipush 8, 2) := by decide +kernel
theorem dL_act_99 : decode cL_act 99 = .ok (.ishr, 1) := by decide +kernel
theorem dL_act_100 : decode cL_act 100 = .ok (.bipush 40, 2) := by decide +kernel
theorem dL_act_102 : decode cL_act 102 = .ok (.invokestatic 91, 3) := by decide +kernel
theorem dL_act_105 : decode cL_act 105 = .ok (.iadd, 1) := by decide +kernel
theorem dL_act_106 : decode cL_act 106 = .ok (.invokevirtual 54, 3) := by decide +kernel
theorem dL_act_109 : decode cL_act 109 = .ok (.ireturn, 1) := by decide +kernel
theorem dL_act_110 : decode cL_act 110 = .ok (.aload_n 0, 1) := by decide +kernel
theorem dL_act_111 : decode cL_act 111 = .ok (.iload 4, 2) := by decide +kernel
theorem dL_act_113 : decode cL_act 113 = .ok (.invokevirtual 57, 3) := by decide +kernel
theorem dL_act_116 : decode cL_act 116 = .ok (.ireturn, 1) := by decide +kernel
theorem dL_act_117 : decode cL_act 117 = .ok (.aload_n 0, 1) := by decide +kernel
theorem dL_act_118 : decode cL_act 118 = .ok (.invokevirtual 94, 3) := by decide +kernel
theorem dL_act_121 : decode cL_act 121 = .ok (.ireturn, 1) := by decide +kernel
theorem dL_act_122 : decode cL_act 122 = .ok (.aload_n 0, 1) := by decide +kernel
theorem dL_act_123 : decode cL_act 123 = .ok (.iload 4, 2) := by decide +kernel
theorem dL_act_125 : decode cL_act 125 = .ok (.iload 5, 2) := by decide +kernel
theorem dL_act_127 : decode cL_act 127 = .ok (.invokevirtual 60, 3) := by decide +kernel
theorem dL_act_130 : decode cL_act 130 = .ok (.ireturn, 1) := by decide +kernel
theorem dL_act_131 : decode cL_act 131 = .ok (.aload_n 0, 1) := by decide +kernel
theorem dL_act_132 : decode cL_act 132 = .ok (.iload 4, 2) := by decide +kernel
theorem dL_act_134 : decode cL_act 134 = .ok (.iload_n 1, 1) := by decide +kernel
theorem dL_act_135 : decode cL_act 135 = .ok (.bipush 8, 2) := by decide +kernel
theorem dL_act_137 : decode cL_act 137 = .ok (.ishr, 1) := by decide +kernel
theorem dL_act_138 : decode cL_act 138 = .ok (.iload_n 3, 1) := by decide +kernel
theorem dL_act_139 : decode cL_act 139 = .ok (.invokestatic 91, 3) := by decide +kernel
theorem dL_act_142 : decode cL_act 142 = .ok (.invokevirtual 63, 3) := by decide +kernel
theorem dL_act_145 : decode cL_act 145 = .ok (.ireturn, 1) := by decide +kernel
theorem dL_act_146 : decode cL_act 146 = .ok (.aload_n 0, 1) := by decide +kernel
theorem dL_act_147 : decode cL_act 147 = .ok (.iconst 1, 1) := by decide +kernel
theorem dL_act_148 : decode cL_act 148 = .ok (.iload_n 1, 1) := by decide +kernel
theorem dL_act_149 : decode cL_act 149 = .ok (.bipush 8, 2) := by decide +kernel
theorem dL_act_151 : decode cL_act 151 = .ok (.ishr, 1) := by decide +kernel
theorem dL_act_152 : decode cL_act 152 = .ok (.iconst 3, 1) := by decide +kernel
theorem dL_act_153 : decode cL_act 153 = .ok (.invokestatic 91, 3) := by decide +kernel
theorem dL_act_156 : decode cL_act 156 = .ok (.iadd, 1) := by decide +kernel
theorem dL_act_157 : decode cL_act 157 = .ok (.invokevirtual 72, 3) := by decide +kernel
theorem dL_act_160 : decode cL_act 160 = .ok (.ireturn, 1) := by decide +kernel
theorem dL_act_161 : decode cL_act 161 = .ok (.aload_n 0, 1) := by decide +kernel
theorem dL_act_162 : decode cL_act 162 = .ok (.iload 4, 2) := by decide +kernel
theorem dL_act_164 : decode cL_act 164 = .ok (.invokevirtual 45, 3) := by decide +kernel
theorem dL_act_167 : decode cL_act 167 = .ok (.ireturn, 1) := by decide +kernel
theorem dL_act_168 : decode cL_act 168 = .ok (.aload_n 0, 1) := by decide +kernel
theorem dL_act_169 : decode cL_act 169 = .ok (.iload 4, 2) := by decide +kernel
theorem dL_act_171 : decode cL_act 171 = .ok (.iload_n 1, 1) := by decide +kernel
theorem dL_act_172 : decode cL_act 172 = .ok (.bipush 8, 2) := by decide +kernel
theorem dL_act_174 : decode cL_act 174 = .ok (.ishr, 1) := by decide +kernel
theorem dL_act_175 : decode cL_act 175 = .ok (.iconst 4, 1) := by decide +kernel
theorem dL_act_176 : decode cL_act 176 = .ok (.invokestatic 91, 3) := by decide +kernel
theorem dL_act_179 : decode cL_act 179 = .ok (.iload_n 1, 1) := by decide +kernel
theorem dL_act_180 : decode cL_act 180 = .ok (.bipush 10, 2) := by decide +kernel
theorem dL_act_182 : decode cL_act 182 = .ok (.ishr, 1) := by decide +kernel
theorem dL_act_183 : decode cL_act 183 = .ok (.sipush 1000, 3) := by decide +kernel
theorem dL_act_186 : decode cL_act 186 = .ok (.invokestatic 91, 3) := by decide +kernel
theorem dL_act_189 : decode cL_act 189 = .ok (.invokevirtual 35, 3) := by decide +kernel
theorem dL_act_192 : decode cL_act 192 = .ok (.ireturn, 1) := by decide +kernel
theorem dL_act_193 : decode cL_act 193 = .ok (.aload_n 0, 1) := by decide +kernel
theorem dL_act_194 : decode cL_act 194 = .ok (.iload_n 1, 1) := by decide +kernel
theorem dL_act_195 : decode cL_act 195 = .ok (.iconst 4, 1) := by decide +kernel
theorem dL_act_196 : decode cL_act 196 = .ok (.ishr, 1) := by decide +kernel
theorem dL_act_197 : decode cL_act 197 = .ok (.iconst 3, 1) := by decide +kernel
theorem dL_act_198 : decode cL_act 198 = .ok (.invokestatic 91, 3) := by decide +kernel
theorem dL_act_201 : decode cL_act 201 = .ok (.iload_n 1, 1) := by decide +kernel
theorem dL_act_202 : decode cL_act 202 = .ok (.bipush 6, 2) := by decide +kernel
theorem dL_act_204 : decode cL_act 204 = .ok (.ishr, 1) := by decide +kernel
theorem dL_act_205 : decode cL_act 205 = .ok (.bipush 120, 2) := by decide +kernel
theorem dL_act_207 : decode cL_act 207 = .ok (.invokestatic 91, 3) := by decide +kernel
theorem dL_act_210 : decode cL_act 210 = .ok (.invokevirtual 81, 3) := by decide +kernel
theorem dL_act_213 : decode cL_act 213 = .ok (.ireturn, 1) := by decide +kernel
theorem dL_act_214 : decode cL_act 214 = .ok (.aload_n 0, 1) := by decide +kernel
theorem dL_act_215 : decode cL_act 215 = .ok (.iload 4, 2) := by decide +kernel
theorem dL_act_217 : decode cL_act 217 = .ok (.iload 5, 2) := by decide +kernel
theorem dL_act_219 : decode cL_act 219 = .ok (.invokevirtual 42, 3) := by decide +kernel
theorem dL_act_222 : decode cL_act 222 = .ok (.ireturn, 1) := by decide +kernel
theorem dL_act_223 : decode cL_act 223 = .ok (.iconst 1, 1) := by decide +kernel
theorem dL_act_224 : decode cL_act 224 = .ok (.iload_n 1, 1) := by decide +kernel
theorem dL_act_225 : decode cL_act 225 = .ok (.bipush 8, 2) := by decide +kernel
theorem dL_act_227 : decode cL_act 227 = .ok (.ishr, 1) := by decide +kernel
theorem dL_act_228 : decode cL_act 228 = .ok (.sipush 5000, 3) := by decide +kernel
theorem dL_act_231 : decode cL_act 231 = .ok (.invokestatic 91, 3) := by decide +kernel
theorem dL_act_234 : decode cL_act 234 = .ok (.iadd, 1) := by decide +kernel
theorem dL_act_235 : decode cL_act 235 = .ok (.istore 6, 2) := by decide +kernel
theorem dL_act_237 : decode cL_act 237 = .ok (.aload_n 0, 1) := by decide +kernel
theorem dL_act_238 : decode cL_act 238 = .ok (.iload 4, 2) := by decide +kernel
theorem dL_act_240 : decode cL_act 240 = .ok (.iload 6, 2) := by decide +kernel
theorem dL_act_242 : decode cL_act 242 = .ok (.invokevirtual 39, 3) := by decide +kernel
theorem dL_act_245 : decode cL_act 245 = .ok (.istore 7, 2) := by decide +kernel
theorem dL_act_247 : decode cL_act 247 = .ok (.aload_n 2, 1) := by decide +kernel
theorem dL_act_248 : decode cL_act 248 = .ok (.iload 4, 2) := by decide +kernel
theorem dL_act_250 : decode cL_act 250 = .ok (.dup2, 1) := by decide +kernel
theorem dL_act_251 : decode cL_act 251 = .ok (.iaload, 1) := by decide +kernel
theorem dL_act_252 : decode cL_act 252 = .ok (.iload 7, 2) := by decide +kernel
theorem dL_act_254 : decode cL_act 254 = .ok (.ifCond .le 8, 3) := by decide +kernel
theorem dL_act_257 : decode cL_act 257 = .ok (.iload 6, 2) := by decide +kernel
theorem dL_act_259 : decode cL_act 259 = .ok (.goto 4, 3) := by decide +kernel
theorem dL_act_262 : decode cL_act 262 = .ok (.iconst 0, 1) := by decide +kernel
theorem dL_act_263 : decode cL_act 263 = .ok (.iadd, 1) := by decide +kernel
theorem dL_act_264 : decode cL_act 264 = .ok (.iastore, 1) := by decide +kernel
theorem dL_act_265 : decode cL_act 265 = .ok (.iload 7, 2) := by decide +kernel
theorem dL_act_267 : decode cL_act 267 = .ok (.ireturn, 1) := by decide +kernel
set_option maxRecDepth 20000 in
theorem ggL_acts_X5_count : GoodIn wsL_acts wsX5_count := goodIn_r _ [6, 7, 8, 9, 10, 11, 12, 13, 14, 15, 16, 17, 18, 19, 20, 21, 22, 23, 24, 25, 26, 27, 28, 29, 30, 31, 32, 33, 34, 35, 36, 37, 38, 39, 40, 41, 42, 43, 44, 353, 354, 355, 356, 357, 358, 359, 360, 361, 362, 363, 364, 365, 366, 367, 368, 369, 370, 371, 372, 373, 374, 375, 376, 377, 378, 379, 380] (by decide +kernel) (by decide +kernel)
set_option maxRecDepth 20000 in
theorem gL_acts_X5_count : GoodIn wsL_acts (wsV RL 19 RX5 yX5_count wsX5_count) := goodIn_app (goodIn_of _ (by decide +kernel)) ggL_acts_X5_count
set_option maxRecDepth 20000 in
theorem ggL_acts_L_mark : GoodIn wsL_acts wsL_mark := goodIn_r _ [48, 49, 50, 51, 52, 53, 5, 54, 9, 55, 56, 57, 13, 58, 59, 60, 33, 34, 35, 36, 16, 61, 62, 63, 64, 15, 28, 24, 25, 26, 27, 29, 30, 31, 32, 65, 66, 67, 68, 69, 70, 71, 72, 73, 2, 3, 4, 6, 7, 8, 10, 11, 12, 14, 17, 18, 19, 20, 21, 22, 23, 37, 38, 39, 40, 41, 42, 43, 44, 74, 75, 76, 77, 78, 79, 80, 81, 82, 83, 84, 85, 86, 87, 88, 89, 90, 91, 92, 93, 94, 95, 353, 354, 355, 356, 357, 358, 359, 360, 361, 368, 369, 370, 371, 372, 373, 374, 375, 376, 377, 378, 379, 380, 381, 382, 383, 384, 385, 386, 387, 362, 363, 364, 365, 366, 367] (by decide +kernel) (by decide +kernel)
set_option maxRecDepth 20000 in
theorem gL_acts_L_mark : GoodIn wsL_acts (va_wsS RL 26 yL_mark wsL_mark) := goodIn_app (goodIn_of _ (by decide +kernel)) ggL_acts_L_mark
set_option maxRecDepth 20000 in
theorem ggL_acts_X5_account : GoodIn wsL_acts wsX5_account := goodIn_r _ [54, 9, 55, 56, 57, 13, 58, 59, 60, 33, 34, 35, 36, 16, 61, 62, 63, 64, 15, 28, 24, 25, 26, 27, 29, 30, 31, 32, 65, 66, 67, 68, 69, 70, 71, 72, 73, 353, 354, 355, 356, 357, 358, 359, 360, 361, 368, 369, 370, 371, 372, 373, 374, 375, 376, 377, 378, 379, 380, 381, 382, 383, 384, 385, 386, 387] (by decide +kernel) (by decide +kernel)
set_option maxRecDepth 20000 in
theorem gL_acts_X5_account : GoodIn wsL_acts (wsV RL 13 RX5 yX5_account wsX5_account) := goodIn_app (goodIn_of _ (by decide +kernel)) ggL_acts_X5_account
set_option maxRecDepth 20000 in
theorem ggL_acts_X5_weekly : GoodIn wsL_acts wsX5_weekly := goodIn_r _ [99, 9, 100, 101, 5, 102, 103, 62, 63, 13, 64, 15, 28, 24, 25, 26, 27, 29, 30, 31, 32, 65, 66, 67, 68, 69, 70, 71, 72, 73, 353, 354, 355, 356, 357, 358, 359, 360, 361, 368, 369, 370, 371, 372, 373, 374, 375, 376, 377, 378, 379, 380] (by decide +kernel) (by decide +kernel)
set_option maxRecDepth 20000 in
theorem gL_acts_X5_weekly : GoodIn wsL_acts (wsV RL 75 RX5 yX5_weekly wsX5_weekly) := goodIn_app (goodIn_of _ (by decide +kernel)) ggL_acts_X5_weekly
set_option maxRecDepth 20000 in
theorem ggL_acts_L_up : GoodIn wsL_acts wsL_up := goodIn_r _ [106, 107] (by decide +kernel) (by decide +kernel)
set_option maxRecDepth 20000 in
theorem gL_acts_L_up : GoodIn wsL_acts (va_wsS RL 91 yL_up wsL_up) := goodIn_app (goodIn_of _ (by decide +kernel)) ggL_acts_L_up
set_option maxRecDepth 20000 in
theorem ggL_acts_L_act : GoodIn wsL_acts wsL_act := goodIn_r _ [110, 2, 3, 4, 5, 6, 7, 8, 9, 10, 11, 12, 13, 14, 15, 16, 17, 18, 19, 20, 21, 22, 23, 24, 25, 26, 27, 28, 29, 30, 31, 32, 33, 34, 35, 36, 37, 38, 39, 40, 41, 42, 43, 44, 104, 105, 47, 106, 107, 111, 112, 113, 114, 115, 116, 117, 118, 119, 120, 121, 122, 123, 82, 83, 69, 84, 85, 124, 59, 125, 126, 127, 128, 129, 130, 131, 132, 133, 134, 135, 136, 137, 138, 139, 140, 141, 142, 143, 144, 145, 146, 147, 148, 149, 150, 151, 86, 87, 88, 89, 90, 91, 152, 153, 154, 155, 156, 157, 158, 159, 160, 161, 162, 163, 70, 71, 72, 73, 164, 165, 166, 167, 168, 169, 170, 171, 172, 173, 174, 175, 176, 177, 178, 179, 180, 181, 182, 183, 184, 185, 186, 187, 188, 189, 190, 191, 192, 65, 66, 67, 68, 193, 194, 195, 196, 197, 198, 199, 200, 60, 201, 202, 203, 204, 205, 206, 207, 208, 209, 210, 211, 95, 212, 213, 214, 215, 216, 217, 218, 219, 220, 221, 222, 223, 224, 225, 226, 227, 228, 229, 230, 231, 232, 233, 234, 235, 236, 237, 238, 239, 240, 241, 242, 243, 244, 245, 246, 247, 248, 249, 250, 251, 252, 253, 254, 255, 256, 257, 258, 259, 260, 261, 262, 263, 264, 265, 266, 267, 268, 269, 270, 271, 272, 273, 101, 102, 274, 275, 276, 277, 278, 279, 280, 281, 282, 283, 284, 285, 286, 287, 288, 289, 290, 291, 292, 293, 294, 295, 296, 297, 298, 299, 300, 353, 354, 355, 356, 357, 358, 359, 360, 361, 362, 363, 364, 365, 366, 367, 368, 369, 370, 371, 372, 373, 374, 375, 376, 377, 378, 379, 380, 381, 382, 383, 384, 385, 386, 387] (by decide +kernel) (by decide +kernel)
set_option maxRecDepth 20000 in
theorem gL_acts_L_act : GoodIn wsL_acts (va_wsS RL 98 yL_act wsL_act) := goodIn_app (goodIn_of _ (by decide +kernel)) ggL_acts_L_act
set_option maxRecDepth 20000 in
theorem ggL_acts_L_sound : GoodIn wsL_acts wsL_sound := goodIn_r _ [303, 2, 3, 4, 5, 6, 7, 8, 9, 10, 11, 12, 13, 14, 15, 16, 17, 18, 19, 20, 21, 22, 23, 24, 25, 26, 27, 28, 29, 30, 31, 32, 33, 34, 35, 36, 37, 38, 39, 40, 41, 42, 43, 44, 74, 75, 76, 77, 78, 79, 80, 81, 82, 83, 84, 85, 86, 87, 88, 89, 90, 91, 92, 93, 94, 95, 65, 66, 67, 68, 69, 304, 305, 306, 307, 308, 309, 310, 311, 124, 70, 71, 72, 73, 209, 210, 211, 312, 313, 314, 315, 316, 317, 318, 319, 205, 206, 207, 208, 320, 321, 322, 323, 324, 325, 100, 101, 102, 326, 327, 328, 329, 330, 331, 332, 333, 334, 335, 336, 337, 338, 339, 340, 96, 97, 98, 99, 103, 62, 63, 64, 51, 52, 53, 54, 55, 56, 57, 58, 59, 60, 61, 353, 354, 355, 356, 357, 358, 359, 360, 361, 362, 363, 364, 365, 366, 367, 368, 369, 370, 371, 372, 373, 374, 375, 376, 377, 378, 379, 380, 388, 389, 381, 382, 383, 384, 385, 386, 387] (by decide +kernel) (by decide +kernel)
set_option maxRecDepth 20000 in
theorem gL_acts_L_sound : GoodIn wsL_acts (va_wsS RL 102 yL_sound wsL_sound) := goodIn_app (goodIn_of _ (by decide +kernel)) ggL_acts_L_sound
set_option maxRecDepth 20000 in
theorem ggL_acts_X5_best : GoodIn wsL_acts wsX5_best := goodIn_r _ [344, 9, 345, 346, 347, 13, 348, 90, 5, 91, 250, 251, 252, 253, 15, 201, 202, 203, 204, 28, 124, 29, 30, 31, 32, 205, 206, 207, 208, 82, 209, 210, 211, 95, 86, 87, 88, 89, 254, 255, 256, 257, 216, 217, 218, 219, 33, 34, 35, 36, 16, 65, 66, 67, 68, 69, 70, 71, 72, 73, 37, 38, 39, 40, 220, 221, 222, 223, 224, 225, 226, 227, 228, 130, 229, 353, 354, 355, 356, 357, 358, 359, 360, 361, 368, 369, 370, 371, 372, 373, 374, 375, 376, 377, 378, 379, 380] (by decide +kernel) (by decide +kernel)
set_option maxRecDepth 20000 in
theorem gL_acts_X5_best : GoodIn wsL_acts (wsV RL 69 RX5 yX5_best wsX5_best) := goodIn_app (goodIn_of _ (by decide +kernel)) ggL_acts_X5_best
set_option maxRecDepth 20000 in
theorem ggL_acts_X5_undo : GoodIn wsL_acts wsX5_undo := goodIn_r _ [352, 7, 9, 172, 353, 354, 355, 356, 357, 358, 359, 360, 361] (by decide +kernel) (by decide +kernel)
set_option maxRecDepth 20000 in
theorem gL_acts_X5_undo : GoodIn wsL_acts (wsV RL 106 RX5 yX5_undo wsX5_undo) := goodIn_app (goodIn_of _ (by decide +kernel)) ggL_acts_X5_undo
theorem dL_acts_0 : decode cL_acts 0 = .ok (.aload_n 0, 1) := by decide +kernel
theorem dL_acts_1 : decode cL_acts 1 = .ok (.bipush 8, 2) := by decide +kernel
theorem dL_acts_3 : decode cL_acts 3 = .ok (.invokevirtual 19, 3) := by decide +kernel
theorem dL_acts_6 : decode cL_acts 6 = .ok (.istore_n 3, 1) := by decide +kernel
theorem dL_acts_7 : decode cL_acts 7 = .ok (.aload_n 0, 1) := by decide +kernel
theorem dL_acts_8 : decode cL_acts 8 = .ok (.invokestatic 26, 3) := by decide +kernel
theorem dL_acts_11 : decode cL_acts 11 = .ok (.lstore 4, 2) := by decide +kernel
theorem dL_acts_13 : decode cL_acts 13 = .ok (.aload_n 0, 1) := by decide +kernel
theorem dL_acts_14 : decode cL_acts 14 = .ok (.iconst 4, 1) := by decide +kernel
theorem dL_acts_15 : decode cL_acts 15 = .ok (.invokevirtual 13, 3) := by decide +kernel
theorem dL_acts_18 : decode cL_acts 18 = .ok (.istore 6, 2) := by decide +kernel
theorem dL_acts_20 : decode cL_acts 20 = .ok (.aload_n 0, 1) := by decide +kernel
theorem dL_acts_21 : decode cL_acts 21 = .ok (.aload_n 0, 1) := by decide +kernel
theorem dL_acts_22 : decode cL_acts 22 = .ok (.iconst 3, 1) := by decide +kernel
theorem dL_acts_23 : decode cL_acts 23 = .ok (.invokevirtual 19, 3) := by decide +kernel
theorem dL_acts_26 : decode cL_acts 26 = .ok (.invokevirtual 75, 3) := by decide +kernel
theorem dL_acts_29 : decode cL_acts 29 = .ok (.istore 7, 2) := by decide +kernel
theorem dL_acts_31 : decode cL_acts 31 = .ok (.iload_n 1, 1) := by decide +kernel
theorem dL_acts_32 : decode cL_acts 32 = .ok (.iconst 4, 1) := by decide +kernel
theorem dL_acts_33 : decode cL_acts 33 = .ok (.ishr, 1) := by decide +kernel
theorem dL_acts_34 : decode cL_acts 34 = .ok (.aload_n 0, 1) := by decide +kernel
theorem dL_acts_35 : decode cL_acts 35 = .ok (.iconst 0, 1) := by decide +kernel
theorem dL_acts_36 : decode cL_acts 36 = .ok (.invokevirtual 19, 3) := by decide +kernel
theorem dL_acts_39 : decode cL_acts 39 = .ok (.invokestatic 91, 3) := by decide +kernel
theorem dL_acts_42 : decode cL_acts 42 = .ok (.istore 8, 2) := by decide +kernel
theorem dL_acts_44 : decode cL_acts 44 = .ok (.aload_n 2, 1) := by decide +kernel
theorem dL_acts_45 : decode cL_acts 45 = .ok (.iload 8, 2) := by decide +kernel
theorem dL_acts_47 : decode cL_acts 47 = .ok (.iaload, 1) := by decide +kernel
theorem dL_acts_48 : decode cL_acts 48 = .ok (.istore 9, 2) := by decide +kernel
theorem dL_acts_50 : decode cL_acts 50 = .ok (.aload_n 0, 1) := by decide +kernel
theorem dL_acts_51 : decode cL_acts 51 = .ok (.iload_n 1, 1) := by decide +kernel
theorem dL_acts_52 : decode cL_acts 52 = .ok (.aload_n 2, 1) := by decide +kernel
theorem dL_acts_53 : decode cL_acts 53 = .ok (.invokestatic 98, 3) := by decide +kernel
theorem dL_acts_56 : decode cL_acts 56 = .ok (.istore 10, 2) := by decide +kernel
theorem dL_acts_58 : decode cL_acts 58 = .ok (.iload 10, 2) := by decide +kernel
theorem dL_acts_60 : decode cL_acts 60 = .ok (.ifCond .ge 29, 3) := by decide +kernel
theorem dL_acts_63 : decode cL_acts 63 = .ok (.aload_n 0, 1) := by decide +kernel
theorem dL_acts_64 : decode cL_acts 64 = .ok (.invokestatic 26, 3) := by decide +kernel
theorem dL_acts_67 : decode cL_acts 67 = .ok (.lload 4, 2) := by decide +kernel
theorem dL_acts_69 : decode cL_acts 69 = .ok (.lcmp, 1) := by decide +kernel
theorem dL_acts_70 : decode cL_acts 70 = .ok (.ifCond .ne 17, 3) := by decide +kernel
theorem dL_acts_73 : decode cL_acts 73 = .ok (.aload_n 0, 1) := by decide +kernel
theorem dL_acts_74 : decode cL_acts 74 = .ok (.bipush 8, 2) := by decide +kernel
theorem dL_acts_76 : decode cL_acts 76 = .ok (.invokevirtual 19, 3) := by decide +kernel
theorem dL_acts_79 : decode cL_acts 79 = .ok (.iload_n 3, 1) := by decide +kernel
theorem dL_acts_80 : decode cL_acts 80 = .ok (.if_icmp .ne 7, 3) := by decide +kernel
theorem dL_acts_83 : decode cL_acts 83 = .ok (.iconst 1, 1) := by decide +kernel
theorem dL_acts_84 : decode cL_acts 84 = .ok (.goto 4, 3) := by decide +kernel
theorem dL_acts_87 : decode cL_acts 87 = .ok (.iconst 0, 1) := by decide +kernel
theorem dL_acts_88 : decode cL_acts 88 = .ok (.ireturn, 1) := by decide +kernel
theorem dL_acts_89 : decode cL_acts 89 = .ok (.iload_n 1, 1) := by decide +kernel
theorem dL_acts_90 : decode cL_acts 90 = .ok (.bipush 12, 2) := by decide +kernel
theorem dL_acts_92 : decode cL_acts 92 = .ok (.invokestatic 91, 3) := by decide +kernel
theorem dL_acts_95 : decode cL_acts 95 = .ok (.iconst 3, 1) := by decide +kernel
theorem dL_acts_96 : decode cL_acts 96 = .ok (.if_icmp .le 18, 3) := by decide +kernel
theorem dL_acts_99 : decode cL_acts 99 = .ok (.iload_n 1, 1) := by decide +kernel
theorem dL_acts_100 : decode cL_acts 100 = .ok (.bipush 12, 2) := by decide +kernel
theorem dL_acts_102 : decode cL_acts 102 = .ok (.invokestatic 91, 3) := by decide +kernel
theorem dL_acts_105 : decode cL_acts 105 = .ok (.bipush 7, 2) := by decide +kernel
theorem dL_acts_107 : decode cL_acts 107 = .ok (.if_icmp .ge 7, 3) := by decide +kernel
theorem dL_acts_110 : decode cL_acts 110 = .ok (.iconst 1, 1) := by decide +kernel
theorem dL_acts_111 : decode cL_acts 111 = .ok (.goto 4, 3) := by decide +kernel
theorem dL_acts_114 : decode cL_acts 114 = .ok (.iconst 0, 1) := by decide +kernel
theorem dL_acts_115 : decode cL_acts 115 = .ok (.istore 11, 2) := by decide +kernel
theorem dL_acts_117 : decode cL_acts 117 = .ok (.aload_n 0, 1) := by decide +kernel
theorem dL_acts_118 : decode cL_acts 118 = .ok (.aload_n 2, 1) := by decide +kernel
theorem dL_acts_119 : decode cL_acts 119 = .ok (.invokestatic 102, 3) := by decide +kernel
theorem dL_acts_122 : decode cL_acts 122 = .ok (.ifCond .eq 69, 3) := by decide +kernel
theorem dL_acts_125 : decode cL_acts 125 = .ok (.aload_n 0, 1) := by decide +kernel
theorem dL_acts_126 : decode cL_acts 126 = .ok (.bipush 8, 2) := by decide +kernel
theorem dL_acts_128 : decode cL_acts 128 = .ok (.invokevirtual 19, 3) := by decide +kernel
theorem dL_acts_131 : decode cL_acts 131 = .ok (.iload_n 3, 1) := by decide +kernel
theorem dL_acts_132 : decode cL_acts 132 = .ok (.iconst 4, 1) := by decide +kernel
theorem dL_acts_133 : decode cL_acts 133 = .ok (.if_icmp .ge 9, 3) := by decide +kernel
theorem dL_acts_136 : decode cL_acts 136 = .ok (.iload_n 3, 1) := by decide +kernel
theorem dL_acts_137 : decode cL_acts 137 = .ok (.iconst 1, 1) := by decide +kernel
theorem dL_acts_138 : decode cL_acts 138 = .ok (.iadd, 1) := by decide +kernel
theorem dL_acts_139 : decode cL_acts 139 = .ok (.goto 4, 3) := by decide +kernel
theorem dL_acts_142 : decode cL_acts 142 = .ok (.iconst 4, 1) := by decide +kernel
theorem dL_acts_143 : decode cL_acts 143 = .ok (.if_icmp .ne 48, 3) := by decide +kernel
theorem dL_acts_146 : decode cL_acts 146 = .ok (.iload 11, 2) := by decide +kernel
theorem dL_acts_148 : decode cL_acts 148 = .ok (.ifCond .eq 29, 3) := by decide +kernel
theorem dL_acts_151 : decode cL_acts 151 = .ok (.iload 7, 2) := by decide +kernel
theorem dL_acts_153 : decode cL_acts 153 = .ok (.aload_n 0, 1) := by decide +kernel
theorem dL_acts_154 : decode cL_acts 154 = .ok (.aload_n 0, 1) := by decide +kernel
theorem dL_acts_155 : decode cL_acts 155 = .ok (.iconst 3, 1) := by decide +kernel
theorem dL_acts_156 : decode cL_acts 156 = .ok (.invokevirtual 19, 3) := by decide +kernel
theorem dL_acts_159 : decode cL_acts 159 = .ok (.invokevirtual 75, 3) := by decide +kernel
theorem dL_acts_162 : decode cL_acts 162 = .ok (.isub, 1) := by decide +kernel
theorem dL_acts_163 : decode cL_acts 163 = .ok (.aload_n 0, 1) := by decide +kernel
theorem dL_acts_164 : decode cL_acts 164 = .ok (.iconst 4, 1) := by decide +kernel
theorem dL_acts_165 : decode cL_acts 165 = .ok (.invokevirtual 13, 3) := by decide +kernel
theorem dL_acts_168 : decode cL_acts 168 = .ok (.iload 6, 2) := by decide +kernel
theorem dL_acts_170 : decode cL_acts 170 = .ok (.isub, 1) := by decide +kernel
theorem dL_acts_171 : decode cL_acts 171 = .ok (.if_icmp .ne 20, 3) := by decide +kernel
theorem dL_acts_174 : decode cL_acts 174 = .ok (.goto 13, 3) := by decide +kernel
theorem dL_acts_177 : decode cL_acts 177 = .ok (.aload_n 0, 1) := by decide +kernel
theorem dL_acts_178 : decode cL_acts 178 = .ok (.iconst 4, 1) := by decide +kernel
theorem dL_acts_179 : decode cL_acts 179 = .ok (.invokevirtual 13, 3) := by decide +kernel
theorem dL_acts_182 : decode cL_acts 182 = .ok (.iload 6, 2) := by decide +kernel
theorem dL_acts_184 : decode cL_acts 184 = .ok (.if_icmp .ne 7, 3) := by decide +kernel
theorem dL_acts_187 : decode cL_acts 187 = .ok (.iconst 1, 1) := by decide +kernel
theorem dL_acts_188 : decode cL_acts 188 = .ok (.goto 4, 3) := by decide +kernel
theorem dL_acts_191 : decode cL_acts 191 = .ok (.iconst 0, 1) := by decide +kernel
theorem dL_acts_192 : decode cL_acts 192 = .ok (.istore 12, 2) := by decide +kernel
theorem dL_acts_194 : decode cL_acts 194 = .ok (.iload 12, 2) := by decide +kernel
theorem dL_acts_196 : decode cL_acts 196 = .ok (.ifCond .eq 79, 3) := by decide +kernel
theorem dL_acts_199 : decode cL_acts 199 = .ok (.iload_n 1, 1) := by decide +kernel
theorem dL_acts_200 : decode cL_acts 200 = .ok (.bipush 12, 2) := by decide +kernel
theorem dL_acts_202 : decode cL_acts 202 = .ok (.invokestatic 91, 3) := by decide +kernel
theorem dL_acts_205 : decode cL_acts 205 = .ok (.bipush 6, 2) := by decide +kernel
theorem dL_acts_207 : decode cL_acts 207 = .ok (.if_icmp .ne 28, 3) := by decide +kernel
theorem dL_acts_210 : decode cL_acts 210 = .ok (.iload 10, 2) := by decide +kernel
theorem dL_acts_212 : decode cL_acts 212 = .ok (.iconst 1, 1) := by decide +kernel
theorem dL_acts_213 : decode cL_acts 213 = .ok (.iload_n 1, 1) := by decide +kernel
theorem dL_acts_214 : decode cL_acts 214 = .ok (.bipush 8, 2) := by decide +kernel
theorem dL_acts_216 : decode cL_acts 216 = .ok (.ishr, 1) := by decide +kernel
theorem dL_acts_217 : decode cL_acts 217 = .ok (.iconst 3, 1) := by decide +kernel
theorem dL_acts_218 : decode cL_acts 218 = .ok (.invokestatic 91, 3) := by decide +kernel
theorem dL_acts_221 : decode cL_acts 221 = .ok (.iadd, 1) := by decide +kernel
theorem dL_acts_222 : decode cL_acts 222 = .ok (.if_icmp .eq 13, 3) := by decide +kernel
theorem dL_acts_225 : decode cL_acts 225 = .ok (.aload_n 0, 1) := by decide +kernel
theorem dL_acts_226 : decode cL_acts 226 = .ok (.iconst 0, 1) := by decide +kernel
theorem dL_acts_227 : decode cL_acts 227 = .ok (.invokevirtual 69, 3) := by decide +kernel
theorem dL_acts_230 : decode cL_acts 230 = .ok (.bipush (-4), 2) := by decide +kernel
theorem dL_acts_232 : decode cL_acts 232 = .ok (.if_icmp .ne 43, 3) := by decide +kernel
theorem dL_acts_235 : decode cL_acts 235 = .ok (.iload_n 1, 1) := by decide +kernel
theorem dL_acts_236 : decode cL_acts 236 = .ok (.bipush 12, 2) := by decide +kernel
theorem dL_acts_238 : decode cL_acts 238 = .ok (.invokestatic 91, 3) := by decide +kernel
theorem dL_acts_241 : decode cL_acts 241 = .ok (.iconst 4, 1) := by decide +kernel
theorem dL_acts_242 : decode cL_acts 242 = .ok (.if_icmp .eq 13, 3) := by decide +kernel
theorem dL_acts_245 : decode cL_acts 245 = .ok (.iload_n 1, 1) := by decide +kernel
theorem dL_acts_246 : decode cL_acts 246 = .ok (.bipush 12, 2) := by decide +kernel
theorem dL_acts_248 : decode cL_acts 248 = .ok (.invokestatic 91, 3) := by decide +kernel
theorem dL_acts_251 : decode cL_acts 251 = .ok (.iconst 5, 1) := by decide +kernel
theorem dL_acts_252 : decode cL_acts 252 = .ok (.if_icmp .ne 19, 3) := by decide +kernel
theorem dL_acts_255 : decode cL_acts 255 = .ok (.iload 10, 2) := by decide +kernel
theorem dL_acts_257 : decode cL_acts 257 = .ok (.ldc 90, 2) := by decide +kernel
theorem dL_acts_259 : decode cL_acts 259 = .ok (.isub, 1) := by decide +kernel
theorem dL_acts_260 : decode cL_acts 260 = .ok (.aload_n 0, 1) := by decide +kernel
theorem dL_acts_261 : decode cL_acts 261 = .ok (.iconst 4, 1) := by decide +kernel
theorem dL_acts_262 : decode cL_acts 262 = .ok (.invokevirtual 13, 3) := by decide +kernel
theorem dL_acts_265 : decode cL_acts 265 = .ok (.iload 6, 2) := by decide +kernel
theorem dL_acts_267 : decode cL_acts 267 = .ok (.isub, 1) := by decide +kernel
theorem dL_acts_268 : decode cL_acts 268 = .ok (.if_icmp .ne 7, 3) := by decide +kernel
theorem dL_acts_271 : decode cL_acts 271 = .ok (.iconst 1, 1) := by decide +kernel
theorem dL_acts_272 : decode cL_acts 272 = .ok (.goto 4, 3) := by decide +kernel
theorem dL_acts_275 : decode cL_acts 275 = .ok (.iconst 0, 1) := by decide +kernel
theorem dL_acts_276 : decode cL_acts 276 = .ok (.istore 12, 2) := by decide +kernel
theorem dL_acts_278 : decode cL_acts 278 = .ok (.iload 12, 2) := by decide +kernel
theorem dL_acts_280 : decode cL_acts 280 = .ok (.ifCond .eq 12, 3) := by decide +kernel
theorem dL_acts_283 : decode cL_acts 283 = .ok (.iload_n 1, 1) := by decide +kernel
theorem dL_acts_284 : decode cL_acts 284 = .ok (.bipush 20, 2) := by decide +kernel
theorem dL_acts_286 : decode cL_acts 286 = .ok (.ishr, 1) := by decide +kernel
theorem dL_acts_287 : decode cL_acts 287 = .ok (.iconst 1, 1) := by decide +kernel
theorem dL_acts_288 : decode cL_acts 288 = .ok (.iand, 1) := by decide +kernel
theorem dL_acts_289 : decode cL_acts 289 = .ok (.ifCond .ne 6, 3) := by decide +kernel
theorem dL_acts_292 : decode cL_acts 292 = .ok (.iload 12, 2) := by decide +kernel
theorem dL_acts_294 : decode cL_acts 294 = .ok (.ireturn, 1) := by decide +kernel
theorem dL_acts_295 : decode cL_acts 295 = .ok (.aload_n 2, 1) := by decide +kernel
theorem dL_acts_296 : decode cL_acts 296 = .ok (.iload 8, 2) := by decide +kernel
theorem dL_acts_298 : decode cL_acts 298 = .ok (.iload 9, 2) := by decide +kernel
theorem dL_acts_300 : decode cL_acts 300 = .ok (.iastore, 1) := by decide +kernel
theorem dL_acts_301 : decode cL_acts 301 = .ok (.aload_n 0, 1) := by decide +kernel
theorem dL_acts_302 : decode cL_acts 302 = .ok (.invokevirtual 106, 3) := by decide +kernel
theorem dL_acts_305 : decode cL_acts 305 = .ok (.iload_n 3, 1) := by decide +kernel
theorem dL_acts_306 : decode cL_acts 306 = .ok (.iconst 4, 1) := by decide +kernel
theorem dL_acts_307 : decode cL_acts 307 = .ok (.if_icmp .ge 7, 3) := by decide +kernel
theorem dL_acts_310 : decode cL_acts 310 = .ok (.iload_n 3, 1) := by decide +kernel
theorem dL_acts_311 : decode cL_acts 311 = .ok (.goto 4, 3) := by decide +kernel
theorem dL_acts_314 : decode cL_acts 314 = .ok (.iconst 3, 1) := by decide +kernel
theorem dL_acts_315 : decode cL_acts 315 = .ok (.if_icmp .ne 17, 3) := by decide +kernel
theorem dL_acts_318 : decode cL_acts 318 = .ok (.aload_n 0, 1) := by decide +kernel
theorem dL_acts_319 : decode cL_acts 319 = .ok (.invokestatic 26, 3) := by decide +kernel
theorem dL_acts_322 : decode cL_acts 322 = .ok (.lload 4, 2) := by decide +kernel
theorem dL_acts_324 : decode cL_acts 324 = .ok (.lcmp, 1) := by decide +kernel
theorem dL_acts_325 : decode cL_acts 325 = .ok (.ifCond .ne 7, 3) := by decide +kernel
theorem dL_acts_328 : decode cL_acts 328 = .ok (.iconst 1, 1) := by decide +kernel
theorem dL_acts_329 : decode cL_acts 329 = .ok (.goto 4, 3) := by decide +kernel
theorem dL_acts_332 : decode cL_acts 332 = .ok (.iconst 0, 1) := by decide +kernel
theorem dL_acts_333 : decode cL_acts 333 = .ok (.ireturn, 1) := by decide +kernel
end
section
theorem mem_app {big a b : List Cond} (ha : ∀ w ∈ a, w ∈ big) (hb : ∀ w ∈ b, w ∈ big) : ∀ w ∈ a ++ b, w ∈ big := fun w h => (List.mem_append.mp h).elim (ha w) (hb w)
set_option maxRecDepth 20000 in
theorem ggL_law_X5_init : GoodIn wsL_law wsX5_init := goodIn_r _ [6, 7, 8, 9, 10, 11, 12, 13, 14, 15, 16, 17, 18, 19, 20, 21, 22, 23, 24, 25, 26, 27, 28, 29, 30, 31, 32, 3, 33, 34, 35, 36, 37, 38, 39, 40, 41, 42, 43, 44, 45, 46, 47, 48, 49, 50, 51, 52, 53, 54, 482, 483, 484, 485, 486, 487, 488, 489, 490, 491, 492, 493, 494, 495, 496, 497, 498, 499, 500, 501, 502, 503, 504, 505, 506, 507, 508, 509, 510, 511, 512, 513, 514, 515, 516, 517, 518] (by decide +kernel) (by decide +kernel)
set_option maxRecDepth 20000 in
theorem gL_law_X5_init : GoodIn wsL_law (wsX5_init) := ggL_law_X5_init
set_option maxRecDepth 20000 in
theorem ggL_law_X5_undo : GoodIn wsL_law wsX5_undo := goodIn_r _ [58, 59, 23, 11, 482, 483, 484, 485, 486, 487, 488, 489, 490] (by decide +kernel) (by decide +kernel)
set_option maxRecDepth 20000 in
theorem gL_law_X5_undo : GoodIn wsL_law (wsV RL 106 RX5 yX5_undo wsX5_undo) := goodIn_app (goodIn_of _ (by decide +kernel)) ggL_law_X5_undo
set_option maxRecDepth 20000 in
theorem ggL_law_X5_count : GoodIn wsL_law wsX5_count := goodIn_r _ [63, 59, 15, 23, 64, 65, 66, 22, 67, 68, 69, 42, 43, 47, 70, 71, 72, 73, 74, 75, 76, 77, 41, 78, 79, 80, 81, 82, 83, 84, 85, 86, 87, 88, 89, 90, 91, 92, 93, 482, 483, 484, 485, 486, 487, 488, 489, 490, 491, 492, 493, 494, 495, 496, 499, 500, 501, 502, 503, 504, 505, 506, 507, 508, 509, 510, 511] (by decide +kernel) (by decide +kernel)
set_option maxRecDepth 20000 in
theorem gL_law_X5_count : GoodIn wsL_law (wsV RL 19 RX5 yX5_count wsX5_count) := goodIn_app (goodIn_of _ (by decide +kernel)) ggL_law_X5_count
set_option maxRecDepth 20000 in
theorem ggL_law_X5_improve : GoodIn wsL_law wsX5_improve := goodIn_r _ [97, 24, 98, 99, 100, 2, 101, 23, 102, 103, 104, 22, 105, 38, 39, 40, 41, 42, 43, 44, 45, 46, 47, 51, 68, 69, 106, 107, 108, 109, 110, 111, 112, 113, 114, 115, 116, 117, 118, 119, 50, 120, 121, 122, 123, 124, 125, 126, 127, 128, 129, 130, 131, 132, 133, 134, 135, 136, 137, 138, 139, 140, 141, 78, 79, 80, 81, 142, 143, 144, 145, 146, 147, 148, 149, 150, 151, 152, 153, 154, 155, 156, 157, 158, 159, 160, 161, 82, 83, 84, 85, 162, 163, 164, 165, 166, 167, 168, 169, 86, 87, 88, 89, 170, 171, 172, 173, 174, 175, 176, 177, 178, 179, 180, 181, 182, 183, 184, 185, 186, 187, 188, 189, 190, 191, 192, 193, 194, 195, 59, 11, 196, 197, 198, 199, 482, 483, 484, 485, 486, 487, 488, 489, 490, 499, 500, 501, 502, 503, 504, 505, 506, 507, 508, 509, 510, 511, 512, 513, 514, 515, 516, 517, 518] (by decide +kernel) (by decide +kernel)
set_option maxRecDepth 20000 in
theorem gL_law_X5_improve : GoodIn wsL_law (wsV RL 72 RX5 yX5_improve wsX5_improve) := goodIn_app (goodIn_of _ (by decide +kernel)) ggL_law_X5_improve
set_option maxRecDepth 20000 in
theorem ggL_law_X5_best : GoodIn wsL_law wsX5_best := goodIn_r _ [203, 23, 204, 205, 206, 22, 207, 132, 2, 133, 134, 135, 136, 137, 68, 138, 139, 140, 141, 41, 46, 78, 79, 80, 81, 142, 143, 144, 145, 38, 146, 147, 148, 149, 150, 151, 152, 153, 154, 155, 156, 157, 158, 159, 160, 161, 82, 83, 84, 85, 69, 162, 163, 164, 165, 40, 166, 167, 168, 169, 86, 87, 88, 89, 170, 171, 172, 173, 174, 175, 176, 177, 178, 111, 179, 482, 483, 484, 485, 486, 487, 488, 489, 490, 499, 500, 501, 502, 503, 504, 505, 506, 507, 508, 509, 510, 511] (by decide +kernel) (by decide +kernel)
set_option maxRecDepth 20000 in
theorem gL_law_X5_best : GoodIn wsL_law (wsV RL 69 RX5 yX5_best wsX5_best) := goodIn_app (goodIn_of _ (by decide +kernel)) ggL_law_X5_best
set_option maxRecDepth 20000 in
theorem ggL_law_X5_play : GoodIn wsL_law wsX5_play := goodIn_r _ [211, 212, 213, 214, 215, 2, 216, 15, 217, 98, 99, 100, 101, 24, 23, 102, 103, 104, 22, 105, 38, 39, 40, 41, 42, 43, 44, 45, 46, 47, 51, 68, 69, 106, 107, 108, 109, 110, 111, 112, 113, 114, 115, 116, 117, 118, 119, 50, 120, 121, 122, 123, 124, 125, 126, 127, 218, 219, 220, 14, 221, 222, 223, 224, 225, 226, 227, 228, 229, 230, 231, 232, 233, 234, 235, 236, 237, 29, 238, 239, 240, 241, 242, 243, 244, 245, 246, 247, 248, 249, 250, 251, 252, 253, 254, 255, 256, 257, 258, 151, 152, 153, 259, 79, 80, 81, 260, 261, 262, 263, 264, 265, 266, 267, 150, 132, 133, 74, 75, 76, 77, 78, 268, 269, 270, 271, 272, 273, 274, 275, 276, 277, 278, 279, 166, 167, 168, 169, 280, 281, 282, 283, 284, 285, 286, 287, 288, 138, 139, 140, 141, 142, 143, 144, 145, 146, 147, 148, 149, 180, 181, 182, 183, 158, 159, 160, 161, 82, 83, 84, 85, 162, 163, 164, 165, 170, 171, 172, 173, 174, 175, 176, 177, 178, 179, 184, 185, 186, 187, 289, 290, 291, 292, 293, 294, 295, 296, 188, 189, 190, 191, 192, 193, 194, 195, 59, 11, 196, 197, 198, 199, 482, 483, 484, 485, 486, 487, 488, 489, 490, 491, 492, 493, 494, 495, 496, 499, 500, 501, 502, 503, 504, 505, 506, 507, 508, 509, 510, 511, 512, 513, 514, 515, 516, 517, 518] (by decide +kernel) (by decide +kernel)
set_option maxRecDepth 20000 in
theorem gL_law_X5_play : GoodIn wsL_law (wsV RL 110 RX5 yX5_play wsX5_play) := goodIn_app (goodIn_of _ (by decide +kernel)) ggL_law_X5_play
set_option maxRecDepth 20000 in
theorem ggL_law_X5_fault : GoodIn wsL_law wsX5_fault := goodIn_r _ [300, 212, 217, 213, 214, 215, 2, 216, 15, 98, 99, 100, 101, 24, 23, 102, 103, 104, 22, 105, 38, 39, 40, 41, 42, 43, 44, 45, 46, 47, 51, 68, 69, 106, 107, 108, 109, 110, 111, 112, 113, 114, 115, 116, 117, 118, 119, 50, 120, 121, 122, 123, 124, 125, 126, 127, 218, 219, 220, 14, 221, 222, 223, 224, 225, 226, 227, 228, 229, 230, 231, 232, 233, 234, 235, 236, 237, 29, 238, 239, 240, 241, 242, 243, 244, 245, 246, 247, 248, 249, 250, 251, 252, 253, 254, 255, 256, 257, 258, 151, 152, 153, 259, 79, 80, 81, 260, 261, 262, 263, 264, 265, 266, 267, 150, 132, 133, 74, 75, 76, 77, 78, 268, 269, 270, 271, 272, 273, 274, 275, 276, 277, 278, 279, 166, 167, 168, 169, 280, 281, 282, 283, 284, 285, 286, 287, 288, 138, 139, 140, 141, 142, 143, 144, 145, 146, 147, 148, 149, 180, 181, 182, 183, 158, 159, 160, 161, 82, 83, 84, 85, 162, 163, 164, 165, 170, 171, 172, 173, 174, 175, 176, 177, 178, 179, 184, 185, 186, 187, 289, 290, 291, 292, 293, 294, 295, 296, 482, 483, 484, 485, 486, 487, 488, 489, 490, 491, 492, 493, 494, 495, 496, 499, 500, 501, 502, 503, 504, 505, 506, 507, 508, 509, 510, 511, 512, 513, 514, 515, 516, 517, 518] (by decide +kernel) (by decide +kernel)
set_option maxRecDepth 20000 in
theorem gL_law_X5_fault : GoodIn wsL_law (wsV RL 87 RX5 yX5_fault wsX5_fault) := goodIn_app (goodIn_of _ (by decide +kernel)) ggL_law_X5_fault
set_option maxRecDepth 20000 in
theorem ggL_law_L_fails_0 : ∀ w ∈ ([Cond.code yL_fails cL_fails 6 (some .boolean)] : List Cond), w ∈ wsL_law := List.forall_mem_singleton.mpr (List.mem_of_getElem? (i := 304) rfl)
set_option maxRecDepth 20000 in
theorem ggL_law_L_fails_1 : ∀ w ∈ ([Cond.methodLink RL 26 yL_mark, Cond.static yL_mark, Cond.initialized RL, Cond.code yL_mark cL_mark 5 (some .long), Cond.constantLong RL 9 (17), Cond.constantLong RL 11 (31), Cond.methodLink RL 13 yX5_account, Cond.instanceMethod yX5_account, Cond.selects RX5 yX5_account yX5_account, Cond.initialized RX5, Cond.code yX5_account cX5_account 2 (some .int), Cond.fieldLink RX5 33 "PickSlots" "now" "LPickSlots$Warehouse;", Cond.methodLink RX5 109 yX4_numberOfAccount, Cond.instanceMethod yX4_numberOfAccount, Cond.selects RX4 yX4_numberOfAccount yX4_numberOfAccount, Cond.initialized RX4, Cond.code yX4_numberOfAccount cX4_numberOfAccount 2 (some .int), Cond.fieldLink RX4 47 "PickSlots$Warehouse" "accounts" "LPickSlots$Accounts;", Cond.constant RX4 145 (100000000), Cond.methodLink RX4 138 yX4_presentSeason, Cond.instanceMethod yX4_presentSeason, Cond.selects RX4 yX4_presentSeason yX4_presentSeason, Cond.code yX4_presentSeason cX4_presentSeason 1 (some .int), Cond.fieldLink RX4 63 "PickSlots$Warehouse" "week" "I"] : List Cond), w ∈ wsL_law := fun w h => (goodIn_r (big := wsL_law) [Cond.methodLink RL 26 yL_mark, Cond.static yL_mark, Cond.initialized RL, Cond.code yL_mark cL_mark 5 (some .long), Cond.constantLong RL 9 (17), Cond.constantLong RL 11 (31), Cond.methodLink RL 13 yX5_account, Cond.instanceMethod yX5_account, Cond.selects RX5 yX5_account yX5_account, Cond.initialized RX5, Cond.code yX5_account cX5_account 2 (some .int), Cond.fieldLink RX5 33 "PickSlots" "now" "LPickSlots$Warehouse;", Cond.methodLink RX5 109 yX4_numberOfAccount, Cond.instanceMethod yX4_numberOfAccount, Cond.selects RX4 yX4_numberOfAccount yX4_numberOfAccount, Cond.initialized RX4, Cond.code yX4_numberOfAccount cX4_numberOfAccount 2 (some .int), Cond.fieldLink RX4 47 "PickSlots$Warehouse" "accounts" "LPickSlots$Accounts;", Cond.constant RX4 145 (100000000), Cond.methodLink RX4 138 yX4_presentSeason, Cond.instanceMethod yX4_presentSeason, Cond.selects RX4 yX4_presentSeason yX4_presentSeason, Cond.code yX4_presentSeason cX4_presentSeason 1 (some .int), Cond.fieldLink RX4 63 "PickSlots$Warehouse" "week" "I"] [305, 306, 303, 307, 308, 309, 310, 311, 312, 2, 313, 23, 314, 315, 316, 22, 317, 51, 288, 82, 83, 84, 85, 69] (by decide +kernel) (by decide +kernel) w h).1
set_option maxRecDepth 20000 in
theorem ggL_law_L_fails_2 : ∀ w ∈ ([Cond.methodLink RX4 188 yX4_weeklyWalk, Cond.instanceMethod yX4_weeklyWalk, Cond.selects RX4 yX4_weeklyWalk yX4_weeklyWalk, Cond.code yX4_weeklyWalk cX4_weeklyWalk 4 (some .int), Cond.fieldLink RX4 59 "PickSlots$Warehouse" "goods" "I", Cond.fieldLink RX4 21 "PickSlots$Warehouse" "slotOfGood" "[I", Cond.methodLink RX4 100 yX4_isPlaced, Cond.instanceMethod yX4_isPlaced, Cond.selects RX4 yX4_isPlaced yX4_isPlaced, Cond.code yX4_isPlaced cX4_isPlaced 2 (some .boolean), Cond.methodLink RX4 78 yX2_isSlot, Cond.static yX2_isSlot, Cond.initialized RX2, Cond.code yX2_isSlot cX2_isSlot 1 (some .boolean), Cond.methodLink RX4 96 yX4_demandOf, Cond.instanceMethod yX4_demandOf, Cond.selects RX4 yX4_demandOf yX4_demandOf, Cond.code yX4_demandOf cX4_demandOf 3 (some .int), Cond.fieldLink RX4 18 "PickSlots$Warehouse" "seasonDemands" "[I", Cond.methodLink RX4 111 yX2_walkTo, Cond.static yX2_walkTo, Cond.code yX2_walkTo cX2_walkTo 1 (some .int), Cond.fieldLink RX2 9 "PickSlots$Slots" "REACHES" "[I", Cond.methodLink RL 19 yX5_count] : List Cond), w ∈ wsL_law := fun w h => (goodIn_r (big := wsL_law) [Cond.methodLink RX4 188 yX4_weeklyWalk, Cond.instanceMethod yX4_weeklyWalk, Cond.selects RX4 yX4_weeklyWalk yX4_weeklyWalk, Cond.code yX4_weeklyWalk cX4_weeklyWalk 4 (some .int), Cond.fieldLink RX4 59 "PickSlots$Warehouse" "goods" "I", Cond.fieldLink RX4 21 "PickSlots$Warehouse" "slotOfGood" "[I", Cond.methodLink RX4 100 yX4_isPlaced, Cond.instanceMethod yX4_isPlaced, Cond.selects RX4 yX4_isPlaced yX4_isPlaced, Cond.code yX4_isPlaced cX4_isPlaced 2 (some .boolean), Cond.methodLink RX4 78 yX2_isSlot, Cond.static yX2_isSlot, Cond.initialized RX2, Cond.code yX2_isSlot cX2_isSlot 1 (some .boolean), Cond.methodLink RX4 96 yX4_demandOf, Cond.instanceMethod yX4_demandOf, Cond.selects RX4 yX4_demandOf yX4_demandOf, Cond.code yX4_demandOf cX4_demandOf 3 (some .int), Cond.fieldLink RX4 18 "PickSlots$Warehouse" "seasonDemands" "[I", Cond.methodLink RX4 111 yX2_walkTo, Cond.static yX2_walkTo, Cond.code yX2_walkTo cX2_walkTo 1 (some .int), Cond.fieldLink RX2 9 "PickSlots$Slots" "REACHES" "[I", Cond.methodLink RL 19 yX5_count] [318, 319, 320, 321, 68, 41, 74, 75, 76, 77, 78, 79, 80, 81, 162, 163, 164, 165, 40, 166, 167, 168, 169, 60] (by decide +kernel) (by decide +kernel) w h).1
set_option maxRecDepth 20000 in
theorem ggL_law_L_fails_3 : ∀ w ∈ ([Cond.instanceMethod yX5_count, Cond.selects RX5 yX5_count yX5_count, Cond.code yX5_count cX5_count 2 (some .int), Cond.fieldLink RX5 112 "PickSlots" "states" "I", Cond.fieldLink RX5 18 "PickSlots" "text" "LPickSlots$OrderText;", Cond.methodLink RX5 119 yX4_numberOfWarehouse, Cond.instanceMethod yX4_numberOfWarehouse, Cond.selects RX4 yX4_numberOfWarehouse yX4_numberOfWarehouse, Cond.code yX4_numberOfWarehouse cX4_numberOfWarehouse 2 (some .int), Cond.fieldLink RX4 24 "PickSlots$Warehouse" "unitsInSlot" "[I", Cond.fieldLink RX4 27 "PickSlots$Warehouse" "unitsInStore" "[I", Cond.fieldLink RX4 41 "PickSlots$Warehouse" "settings" "[I", Cond.methodLink RX4 191 yX4_placedGoods, Cond.instanceMethod yX4_placedGoods, Cond.selects RX4 yX4_placedGoods yX4_placedGoods, Cond.code yX4_placedGoods cX4_placedGoods 4 (some .int), Cond.methodLink RX4 164 yX4_weeksLeft, Cond.instanceMethod yX4_weeksLeft, Cond.selects RX4 yX4_weeksLeft yX4_weeksLeft, Cond.code yX4_weeksLeft cX4_weeksLeft 1 (some .int), Cond.methodLink RX4 195 yX4_sumOf, Cond.instanceMethod yX4_sumOf, Cond.selects RX4 yX4_sumOf yX4_sumOf, Cond.code yX4_sumOf cX4_sumOf 4 (some .int)] : List Cond), w ∈ wsL_law := fun w h => (goodIn_r (big := wsL_law) [Cond.instanceMethod yX5_count, Cond.selects RX5 yX5_count yX5_count, Cond.code yX5_count cX5_count 2 (some .int), Cond.fieldLink RX5 112 "PickSlots" "states" "I", Cond.fieldLink RX5 18 "PickSlots" "text" "LPickSlots$OrderText;", Cond.methodLink RX5 119 yX4_numberOfWarehouse, Cond.instanceMethod yX4_numberOfWarehouse, Cond.selects RX4 yX4_numberOfWarehouse yX4_numberOfWarehouse, Cond.code yX4_numberOfWarehouse cX4_numberOfWarehouse 2 (some .int), Cond.fieldLink RX4 24 "PickSlots$Warehouse" "unitsInSlot" "[I", Cond.fieldLink RX4 27 "PickSlots$Warehouse" "unitsInStore" "[I", Cond.fieldLink RX4 41 "PickSlots$Warehouse" "settings" "[I", Cond.methodLink RX4 191 yX4_placedGoods, Cond.instanceMethod yX4_placedGoods, Cond.selects RX4 yX4_placedGoods yX4_placedGoods, Cond.code yX4_placedGoods cX4_placedGoods 4 (some .int), Cond.methodLink RX4 164 yX4_weeksLeft, Cond.instanceMethod yX4_weeksLeft, Cond.selects RX4 yX4_weeksLeft yX4_weeksLeft, Cond.code yX4_weeksLeft cX4_weeksLeft 1 (some .int), Cond.methodLink RX4 195 yX4_sumOf, Cond.instanceMethod yX4_sumOf, Cond.selects RX4 yX4_sumOf yX4_sumOf, Cond.code yX4_sumOf cX4_sumOf 4 (some .int)] [61, 62, 63, 59, 15, 64, 65, 66, 67, 42, 43, 47, 70, 71, 72, 73, 86, 87, 88, 89, 90, 91, 92, 93] (by decide +kernel) (by decide +kernel) w h).1
set_option maxRecDepth 20000 in
theorem ggL_law_L_fails_4 : ∀ w ∈ ([Cond.methodLink RL 22 yX5_goodOf, Cond.instanceMethod yX5_goodOf, Cond.selects RX5 yX5_goodOf yX5_goodOf, Cond.code yX5_goodOf cX5_goodOf 3 (some .int), Cond.methodLink RX5 64 yX4_numberOfGood, Cond.instanceMethod yX4_numberOfGood, Cond.selects RX4 yX4_numberOfGood yX4_numberOfGood, Cond.code yX4_numberOfGood cX4_numberOfGood 3 (some .int), Cond.fieldLink RX4 9 "PickSlots$Warehouse" "weights" "[I", Cond.fieldLink RX4 15 "PickSlots$Warehouse" "capacities" "[I", Cond.fieldLink RX4 30 "PickSlots$Warehouse" "weekPicks" "[I", Cond.fieldLink RX4 33 "PickSlots$Warehouse" "unitsPicked" "[I", Cond.methodLink RX4 90 yX4_isGood, Cond.instanceMethod yX4_isGood, Cond.selects RX4 yX4_isGood yX4_isGood, Cond.code yX4_isGood cX4_isGood 2 (some .boolean), Cond.static yX5_isIn, Cond.code yX5_isIn cX5_isIn 3 (some .boolean), Cond.methodLink RX4 114 yX2_greatestHeightFor, Cond.static yX2_greatestHeightFor, Cond.code yX2_greatestHeightFor cX2_greatestHeightFor 3 (some .int), Cond.fieldLink RX2 13 "PickSlots$Slots" "HEAVIEST" "[I", Cond.methodLink RL 32 yX5_good, Cond.instanceMethod yX5_good] : List Cond), w ∈ wsL_law := fun w h => (goodIn_r (big := wsL_law) [Cond.methodLink RL 22 yX5_goodOf, Cond.instanceMethod yX5_goodOf, Cond.selects RX5 yX5_goodOf yX5_goodOf, Cond.code yX5_goodOf cX5_goodOf 3 (some .int), Cond.methodLink RX5 64 yX4_numberOfGood, Cond.instanceMethod yX4_numberOfGood, Cond.selects RX4 yX4_numberOfGood yX4_numberOfGood, Cond.code yX4_numberOfGood cX4_numberOfGood 3 (some .int), Cond.fieldLink RX4 9 "PickSlots$Warehouse" "weights" "[I", Cond.fieldLink RX4 15 "PickSlots$Warehouse" "capacities" "[I", Cond.fieldLink RX4 30 "PickSlots$Warehouse" "weekPicks" "[I", Cond.fieldLink RX4 33 "PickSlots$Warehouse" "unitsPicked" "[I", Cond.methodLink RX4 90 yX4_isGood, Cond.instanceMethod yX4_isGood, Cond.selects RX4 yX4_isGood yX4_isGood, Cond.code yX4_isGood cX4_isGood 2 (some .boolean), Cond.static yX5_isIn, Cond.code yX5_isIn cX5_isIn 3 (some .boolean), Cond.methodLink RX4 114 yX2_greatestHeightFor, Cond.static yX2_greatestHeightFor, Cond.code yX2_greatestHeightFor cX2_greatestHeightFor 3 (some .int), Cond.fieldLink RX2 13 "PickSlots$Slots" "HEAVIEST" "[I", Cond.methodLink RL 32 yX5_good, Cond.instanceMethod yX5_good] [322, 323, 324, 325, 326, 327, 328, 329, 38, 39, 44, 45, 150, 151, 152, 153, 132, 133, 330, 331, 332, 149, 333, 334] (by decide +kernel) (by decide +kernel) w h).1
set_option maxRecDepth 20000 in
theorem ggL_law_L_fails_5 : ∀ w ∈ ([Cond.selects RX5 yX5_good yX5_good, Cond.code yX5_good cX5_good 3 (some .int), Cond.fieldLink RX5 37 "PickSlots" "trial" "LPickSlots$Warehouse;", Cond.methodLink RX5 40 yX5_startTrial, Cond.instanceMethod yX5_startTrial, Cond.selects RX5 yX5_startTrial yX5_startTrial, Cond.code yX5_startTrial cX5_startTrial 1 none, Cond.methodLink RX5 137 yX4_copyFrom, Cond.instanceMethod yX4_copyFrom, Cond.selects RX4 yX4_copyFrom yX4_copyFrom, Cond.code yX4_copyFrom cX4_copyFrom 2 none, Cond.fieldLink RX4 38 "PickSlots$Warehouse" "goodInSlot" "[I", Cond.methodLink RX4 51 yX4_copyRow, Cond.static yX4_copyRow, Cond.code yX4_copyRow cX4_copyRow 2 none, Cond.methodLink RX4 66 Lib.Math.min.name, Cond.static Lib.Math.min.name, Cond.initialized "java/lang/Math", Cond.code Lib.Math.min.name Lib.Math.min.code 2 (some .int), Cond.methodLink RX4 72 arraycopyName, Cond.native arraycopyName, Cond.static arraycopyName, Cond.initialized "java/lang/System", Cond.methodLink RX4 55 yX0_copyFrom] : List Cond), w ∈ wsL_law := fun w h => (goodIn_r (big := wsL_law) [Cond.selects RX5 yX5_good yX5_good, Cond.code yX5_good cX5_good 3 (some .int), Cond.fieldLink RX5 37 "PickSlots" "trial" "LPickSlots$Warehouse;", Cond.methodLink RX5 40 yX5_startTrial, Cond.instanceMethod yX5_startTrial, Cond.selects RX5 yX5_startTrial yX5_startTrial, Cond.code yX5_startTrial cX5_startTrial 1 none, Cond.methodLink RX5 137 yX4_copyFrom, Cond.instanceMethod yX4_copyFrom, Cond.selects RX4 yX4_copyFrom yX4_copyFrom, Cond.code yX4_copyFrom cX4_copyFrom 2 none, Cond.fieldLink RX4 38 "PickSlots$Warehouse" "goodInSlot" "[I", Cond.methodLink RX4 51 yX4_copyRow, Cond.static yX4_copyRow, Cond.code yX4_copyRow cX4_copyRow 2 none, Cond.methodLink RX4 66 Lib.Math.min.name, Cond.static Lib.Math.min.name, Cond.initialized "java/lang/Math", Cond.code Lib.Math.min.name Lib.Math.min.code 2 (some .int), Cond.methodLink RX4 72 arraycopyName, Cond.native arraycopyName, Cond.static arraycopyName, Cond.initialized "java/lang/System", Cond.methodLink RX4 55 yX0_copyFrom] [335, 336, 24, 98, 99, 100, 101, 102, 103, 104, 105, 46, 106, 107, 108, 109, 110, 111, 112, 113, 114, 115, 116, 117] (by decide +kernel) (by decide +kernel) w h).1
set_option maxRecDepth 20000 in
theorem ggL_law_L_fails_6 : ∀ w ∈ ([Cond.instanceMethod yX0_copyFrom, Cond.selects RX0 yX0_copyFrom yX0_copyFrom, Cond.initialized RX0, Cond.code yX0_copyFrom cX0_copyFrom 2 none, Cond.fieldLink RX0 7 "PickSlots$Accounts" "pickWalk" "I", Cond.fieldLink RX0 13 "PickSlots$Accounts" "refillWalk" "I", Cond.fieldLink RX0 16 "PickSlots$Accounts" "moveWalk" "I", Cond.fieldLink RX0 19 "PickSlots$Accounts" "trips" "I", Cond.fieldLink RX0 22 "PickSlots$Accounts" "saved" "I", Cond.fieldLink RX0 25 "PickSlots$Accounts" "moves" "I", Cond.fieldLink RX0 28 "PickSlots$Accounts" "picks" "I", Cond.methodLink RX5 43 yX4_addGood, Cond.instanceMethod yX4_addGood, Cond.selects RX4 yX4_addGood yX4_addGood, Cond.code yX4_addGood cX4_addGood 3 (some .int), Cond.methodLink RX5 47 yX5_endTrial, Cond.instanceMethod yX5_endTrial, Cond.selects RX5 yX5_endTrial yX5_endTrial, Cond.code yX5_endTrial cX5_endTrial 2 (some .int), Cond.methodLink RX5 141 yX5_keepTrial, Cond.instanceMethod yX5_keepTrial, Cond.selects RX5 yX5_keepTrial yX5_keepTrial, Cond.code yX5_keepTrial cX5_keepTrial 2 none, Cond.fieldLink RX5 11 "PickSlots" "history" "[LPickSlots$Warehouse;"] : List Cond), w ∈ wsL_law := fun w h => (goodIn_r (big := wsL_law) [Cond.instanceMethod yX0_copyFrom, Cond.selects RX0 yX0_copyFrom yX0_copyFrom, Cond.initialized RX0, Cond.code yX0_copyFrom cX0_copyFrom 2 none, Cond.fieldLink RX0 7 "PickSlots$Accounts" "pickWalk" "I", Cond.fieldLink RX0 13 "PickSlots$Accounts" "refillWalk" "I", Cond.fieldLink RX0 16 "PickSlots$Accounts" "moveWalk" "I", Cond.fieldLink RX0 19 "PickSlots$Accounts" "trips" "I", Cond.fieldLink RX0 22 "PickSlots$Accounts" "saved" "I", Cond.fieldLink RX0 25 "PickSlots$Accounts" "moves" "I", Cond.fieldLink RX0 28 "PickSlots$Accounts" "picks" "I", Cond.methodLink RX5 43 yX4_addGood, Cond.instanceMethod yX4_addGood, Cond.selects RX4 yX4_addGood yX4_addGood, Cond.code yX4_addGood cX4_addGood 3 (some .int), Cond.methodLink RX5 47 yX5_endTrial, Cond.instanceMethod yX5_endTrial, Cond.selects RX5 yX5_endTrial yX5_endTrial, Cond.code yX5_endTrial cX5_endTrial 2 (some .int), Cond.methodLink RX5 141 yX5_keepTrial, Cond.instanceMethod yX5_keepTrial, Cond.selects RX5 yX5_keepTrial yX5_keepTrial, Cond.code yX5_keepTrial cX5_keepTrial 2 none, Cond.fieldLink RX5 11 "PickSlots" "history" "[LPickSlots$Warehouse;"] [118, 119, 50, 120, 121, 122, 123, 124, 125, 126, 127, 337, 338, 339, 340, 188, 189, 190, 191, 192, 193, 194, 195, 11] (by decide +kernel) (by decide +kernel) w h).1
set_option maxRecDepth 20000 in
theorem ggL_law_L_fails_7 : ∀ w ∈ ([Cond.methodLink RX5 144 yX5_dropOldestState, Cond.instanceMethod yX5_dropOldestState, Cond.selects RX5 yX5_dropOldestState yX5_dropOldestState, Cond.code yX5_dropOldestState cX5_dropOldestState 3 none, Cond.methodLink RL 35 yX5_demand, Cond.instanceMethod yX5_demand, Cond.selects RX5 yX5_demand yX5_demand, Cond.code yX5_demand cX5_demand 4 (some .int), Cond.methodLink RX5 51 yX4_changeDemand, Cond.instanceMethod yX4_changeDemand, Cond.selects RX4 yX4_changeDemand yX4_changeDemand, Cond.code yX4_changeDemand cX4_changeDemand 5 (some .int), Cond.static yX5_isSeason, Cond.code yX5_isSeason cX5_isSeason 1 (some .boolean), Cond.methodLink RL 39 yX5_deliver, Cond.instanceMethod yX5_deliver, Cond.selects RX5 yX5_deliver yX5_deliver, Cond.code yX5_deliver cX5_deliver 3 (some .int), Cond.methodLink RX5 55 yX4_addToStore, Cond.instanceMethod yX4_addToStore, Cond.selects RX4 yX4_addToStore yX4_addToStore, Cond.code yX4_addToStore cX4_addToStore 3 (some .int), Cond.constant RX4 99 (100000), Cond.methodLink RL 42 yX5_place] : List Cond), w ∈ wsL_law := fun w h => (goodIn_r (big := wsL_law) [Cond.methodLink RX5 144 yX5_dropOldestState, Cond.instanceMethod yX5_dropOldestState, Cond.selects RX5 yX5_dropOldestState yX5_dropOldestState, Cond.code yX5_dropOldestState cX5_dropOldestState 3 none, Cond.methodLink RL 35 yX5_demand, Cond.instanceMethod yX5_demand, Cond.selects RX5 yX5_demand yX5_demand, Cond.code yX5_demand cX5_demand 4 (some .int), Cond.methodLink RX5 51 yX4_changeDemand, Cond.instanceMethod yX4_changeDemand, Cond.selects RX4 yX4_changeDemand yX4_changeDemand, Cond.code yX4_changeDemand cX4_changeDemand 5 (some .int), Cond.static yX5_isSeason, Cond.code yX5_isSeason cX5_isSeason 1 (some .boolean), Cond.methodLink RL 39 yX5_deliver, Cond.instanceMethod yX5_deliver, Cond.selects RX5 yX5_deliver yX5_deliver, Cond.code yX5_deliver cX5_deliver 3 (some .int), Cond.methodLink RX5 55 yX4_addToStore, Cond.instanceMethod yX4_addToStore, Cond.selects RX4 yX4_addToStore yX4_addToStore, Cond.code yX4_addToStore cX4_addToStore 3 (some .int), Cond.constant RX4 99 (100000), Cond.methodLink RL 42 yX5_place] [196, 197, 198, 199, 341, 342, 343, 344, 345, 346, 347, 348, 349, 350, 351, 352, 353, 354, 355, 356, 357, 358, 359, 360] (by decide +kernel) (by decide +kernel) w h).1
set_option maxRecDepth 20000 in
theorem ggL_law_L_fails_8 : ∀ w ∈ ([Cond.instanceMethod yX5_place, Cond.selects RX5 yX5_place yX5_place, Cond.code yX5_place cX5_place 3 (some .int), Cond.methodLink RX5 58 yX4_putIntoSlot, Cond.instanceMethod yX4_putIntoSlot, Cond.selects RX4 yX4_putIntoSlot yX4_putIntoSlot, Cond.code yX4_putIntoSlot cX4_putIntoSlot 3 (some .int), Cond.methodLink RX4 103 yX4_bears, Cond.instanceMethod yX4_bears, Cond.selects RX4 yX4_bears yX4_bears, Cond.code yX4_bears cX4_bears 3 (some .boolean), Cond.methodLink RX4 82 yX2_heaviestAt, Cond.static yX2_heaviestAt, Cond.code yX2_heaviestAt cX2_heaviestAt 1 (some .int), Cond.methodLink RX4 107 yX4_standIn, Cond.instanceMethod yX4_standIn, Cond.selects RX4 yX4_standIn yX4_standIn, Cond.code yX4_standIn cX4_standIn 3 none, Cond.methodLink RL 45 yX5_take, Cond.instanceMethod yX5_take, Cond.selects RX5 yX5_take yX5_take, Cond.code yX5_take cX5_take 2 (some .int), Cond.methodLink RX5 61 yX4_takeOutOfSlot, Cond.instanceMethod yX4_takeOutOfSlot] : List Cond), w ∈ wsL_law := fun w h => (goodIn_r (big := wsL_law) [Cond.instanceMethod yX5_place, Cond.selects RX5 yX5_place yX5_place, Cond.code yX5_place cX5_place 3 (some .int), Cond.methodLink RX5 58 yX4_putIntoSlot, Cond.instanceMethod yX4_putIntoSlot, Cond.selects RX4 yX4_putIntoSlot yX4_putIntoSlot, Cond.code yX4_putIntoSlot cX4_putIntoSlot 3 (some .int), Cond.methodLink RX4 103 yX4_bears, Cond.instanceMethod yX4_bears, Cond.selects RX4 yX4_bears yX4_bears, Cond.code yX4_bears cX4_bears 3 (some .boolean), Cond.methodLink RX4 82 yX2_heaviestAt, Cond.static yX2_heaviestAt, Cond.code yX2_heaviestAt cX2_heaviestAt 1 (some .int), Cond.methodLink RX4 107 yX4_standIn, Cond.instanceMethod yX4_standIn, Cond.selects RX4 yX4_standIn yX4_standIn, Cond.code yX4_standIn cX4_standIn 3 none, Cond.methodLink RL 45 yX5_take, Cond.instanceMethod yX5_take, Cond.selects RX5 yX5_take yX5_take, Cond.code yX5_take cX5_take 2 (some .int), Cond.methodLink RX5 61 yX4_takeOutOfSlot, Cond.instanceMethod yX4_takeOutOfSlot] [361, 362, 363, 364, 365, 366, 367, 142, 143, 144, 145, 146, 147, 148, 184, 185, 186, 187, 368, 369, 370, 371, 372, 373] (by decide +kernel) (by decide +kernel) w h).1
set_option maxRecDepth 20000 in
theorem ggL_law_L_fails_9 : ∀ w ∈ ([Cond.selects RX4 yX4_takeOutOfSlot yX4_takeOutOfSlot, Cond.code yX4_takeOutOfSlot cX4_takeOutOfSlot 3 (some .int), Cond.methodLink RL 48 yX5_slotOf, Cond.instanceMethod yX5_slotOf, Cond.selects RX5 yX5_slotOf yX5_slotOf, Cond.code yX5_slotOf cX5_slotOf 3 (some .int), Cond.methodLink RX5 67 yX4_numberOfSlot, Cond.instanceMethod yX4_numberOfSlot, Cond.selects RX4 yX4_numberOfSlot yX4_numberOfSlot, Cond.code yX4_numberOfSlot cX4_numberOfSlot 3 (some .int), Cond.methodLink RL 51 yX5_nearest, Cond.instanceMethod yX5_nearest, Cond.selects RX5 yX5_nearest yX5_nearest, Cond.code yX5_nearest cX5_nearest 2 (some .int), Cond.methodLink RX5 70 yX4_nearestFreeSlot, Cond.instanceMethod yX4_nearestFreeSlot, Cond.selects RX4 yX4_nearestFreeSlot yX4_nearestFreeSlot, Cond.code yX4_nearestFreeSlot cX4_nearestFreeSlot 5 (some .int), Cond.methodLink RL 54 yX5_pick, Cond.instanceMethod yX5_pick, Cond.selects RX5 yX5_pick yX5_pick, Cond.code yX5_pick cX5_pick 3 (some .int), Cond.methodLink RX5 73 yX4_pickUnits, Cond.instanceMethod yX4_pickUnits] : List Cond), w ∈ wsL_law := fun w h => (goodIn_r (big := wsL_law) [Cond.selects RX4 yX4_takeOutOfSlot yX4_takeOutOfSlot, Cond.code yX4_takeOutOfSlot cX4_takeOutOfSlot 3 (some .int), Cond.methodLink RL 48 yX5_slotOf, Cond.instanceMethod yX5_slotOf, Cond.selects RX5 yX5_slotOf yX5_slotOf, Cond.code yX5_slotOf cX5_slotOf 3 (some .int), Cond.methodLink RX5 67 yX4_numberOfSlot, Cond.instanceMethod yX4_numberOfSlot, Cond.selects RX4 yX4_numberOfSlot yX4_numberOfSlot, Cond.code yX4_numberOfSlot cX4_numberOfSlot 3 (some .int), Cond.methodLink RL 51 yX5_nearest, Cond.instanceMethod yX5_nearest, Cond.selects RX5 yX5_nearest yX5_nearest, Cond.code yX5_nearest cX5_nearest 2 (some .int), Cond.methodLink RX5 70 yX4_nearestFreeSlot, Cond.instanceMethod yX4_nearestFreeSlot, Cond.selects RX4 yX4_nearestFreeSlot yX4_nearestFreeSlot, Cond.code yX4_nearestFreeSlot cX4_nearestFreeSlot 5 (some .int), Cond.methodLink RL 54 yX5_pick, Cond.instanceMethod yX5_pick, Cond.selects RX5 yX5_pick yX5_pick, Cond.code yX5_pick cX5_pick 3 (some .int), Cond.methodLink RX5 73 yX4_pickUnits, Cond.instanceMethod yX4_pickUnits] [374, 375, 376, 377, 378, 379, 380, 381, 382, 383, 384, 385, 386, 387, 388, 389, 390, 391, 392, 393, 394, 395, 264, 265] (by decide +kernel) (by decide +kernel) w h).1
set_option maxRecDepth 20000 in
theorem ggL_law_L_fails_10 : ∀ w ∈ ([Cond.selects RX4 yX4_pickUnits yX4_pickUnits, Cond.code yX4_pickUnits cX4_pickUnits 6 (some .int), Cond.methodLink RX4 117 yX4_unitsToBring, Cond.instanceMethod yX4_unitsToBring, Cond.selects RX4 yX4_unitsToBring yX4_unitsToBring, Cond.code yX4_unitsToBring cX4_unitsToBring 2 (some .int), Cond.methodLink RX4 120 yX4_bring, Cond.instanceMethod yX4_bring, Cond.selects RX4 yX4_bring yX4_bring, Cond.code yX4_bring cX4_bring 5 (some .int), Cond.methodLink RX4 129 yX4_tripsFor, Cond.instanceMethod yX4_tripsFor, Cond.selects RX4 yX4_tripsFor yX4_tripsFor, Cond.code yX4_tripsFor cX4_tripsFor 3 (some .int), Cond.methodLink RL 57 yX5_refill, Cond.instanceMethod yX5_refill, Cond.selects RX5 yX5_refill yX5_refill, Cond.code yX5_refill cX5_refill 2 (some .int), Cond.methodLink RX5 76 yX4_refillSlot, Cond.instanceMethod yX4_refillSlot, Cond.selects RX4 yX4_refillSlot yX4_refillSlot, Cond.code yX4_refillSlot cX4_refillSlot 3 (some .int), Cond.methodLink RL 60 yX5_move, Cond.instanceMethod yX5_move] : List Cond), w ∈ wsL_law := fun w h => (goodIn_r (big := wsL_law) [Cond.selects RX4 yX4_pickUnits yX4_pickUnits, Cond.code yX4_pickUnits cX4_pickUnits 6 (some .int), Cond.methodLink RX4 117 yX4_unitsToBring, Cond.instanceMethod yX4_unitsToBring, Cond.selects RX4 yX4_unitsToBring yX4_unitsToBring, Cond.code yX4_unitsToBring cX4_unitsToBring 2 (some .int), Cond.methodLink RX4 120 yX4_bring, Cond.instanceMethod yX4_bring, Cond.selects RX4 yX4_bring yX4_bring, Cond.code yX4_bring cX4_bring 5 (some .int), Cond.methodLink RX4 129 yX4_tripsFor, Cond.instanceMethod yX4_tripsFor, Cond.selects RX4 yX4_tripsFor yX4_tripsFor, Cond.code yX4_tripsFor cX4_tripsFor 3 (some .int), Cond.methodLink RL 57 yX5_refill, Cond.instanceMethod yX5_refill, Cond.selects RX5 yX5_refill yX5_refill, Cond.code yX5_refill cX5_refill 2 (some .int), Cond.methodLink RX5 76 yX4_refillSlot, Cond.instanceMethod yX4_refillSlot, Cond.selects RX4 yX4_refillSlot yX4_refillSlot, Cond.code yX4_refillSlot cX4_refillSlot 3 (some .int), Cond.methodLink RL 60 yX5_move, Cond.instanceMethod yX5_move] [266, 267, 268, 269, 270, 271, 272, 273, 274, 275, 276, 277, 278, 279, 396, 397, 398, 399, 280, 281, 282, 283, 400, 401] (by decide +kernel) (by decide +kernel) w h).1
set_option maxRecDepth 20000 in
theorem ggL_law_L_fails_11 : ∀ w ∈ ([Cond.selects RX5 yX5_move yX5_move, Cond.code yX5_move cX5_move 3 (some .int), Cond.methodLink RX5 83 yX4_moveGood, Cond.instanceMethod yX4_moveGood, Cond.selects RX4 yX4_moveGood yX4_moveGood, Cond.code yX4_moveGood cX4_moveGood 3 (some .int), Cond.methodLink RX4 142 yX4_canGo, Cond.instanceMethod yX4_canGo, Cond.selects RX4 yX4_canGo yX4_canGo, Cond.code yX4_canGo cX4_canGo 5 (some .boolean), Cond.methodLink RX4 146 yX4_goTo, Cond.instanceMethod yX4_goTo, Cond.selects RX4 yX4_goTo yX4_goTo, Cond.code yX4_goTo cX4_goTo 6 (some .int), Cond.methodLink RX4 155 yX4_savedByGoing, Cond.instanceMethod yX4_savedByGoing, Cond.selects RX4 yX4_savedByGoing yX4_savedByGoing, Cond.code yX4_savedByGoing cX4_savedByGoing 5 (some .int), Cond.methodLink RX4 149 yX4_walkOfGoing, Cond.instanceMethod yX4_walkOfGoing, Cond.selects RX4 yX4_walkOfGoing yX4_walkOfGoing, Cond.code yX4_walkOfGoing cX4_walkOfGoing 6 (some .int), Cond.methodLink RX4 161 yX2_wayBetween, Cond.static yX2_wayBetween] : List Cond), w ∈ wsL_law := fun w h => (goodIn_r (big := wsL_law) [Cond.selects RX5 yX5_move yX5_move, Cond.code yX5_move cX5_move 3 (some .int), Cond.methodLink RX5 83 yX4_moveGood, Cond.instanceMethod yX4_moveGood, Cond.selects RX4 yX4_moveGood yX4_moveGood, Cond.code yX4_moveGood cX4_moveGood 3 (some .int), Cond.methodLink RX4 142 yX4_canGo, Cond.instanceMethod yX4_canGo, Cond.selects RX4 yX4_canGo yX4_canGo, Cond.code yX4_canGo cX4_canGo 5 (some .boolean), Cond.methodLink RX4 146 yX4_goTo, Cond.instanceMethod yX4_goTo, Cond.selects RX4 yX4_goTo yX4_goTo, Cond.code yX4_goTo cX4_goTo 6 (some .int), Cond.methodLink RX4 155 yX4_savedByGoing, Cond.instanceMethod yX4_savedByGoing, Cond.selects RX4 yX4_savedByGoing yX4_savedByGoing, Cond.code yX4_savedByGoing cX4_savedByGoing 5 (some .int), Cond.methodLink RX4 149 yX4_walkOfGoing, Cond.instanceMethod yX4_walkOfGoing, Cond.selects RX4 yX4_walkOfGoing yX4_walkOfGoing, Cond.code yX4_walkOfGoing cX4_walkOfGoing 6 (some .int), Cond.methodLink RX4 161 yX2_wayBetween, Cond.static yX2_wayBetween] [402, 403, 284, 285, 286, 287, 138, 139, 140, 141, 180, 181, 182, 183, 158, 159, 160, 161, 170, 171, 172, 173, 174, 175] (by decide +kernel) (by decide +kernel) w h).1
set_option maxRecDepth 20000 in
theorem ggL_law_L_fails_12 : ∀ w ∈ ([Cond.code yX2_wayBetween cX2_wayBetween 3 (some .int), Cond.methodLink RX2 16 Lib.Math.abs.name, Cond.static Lib.Math.abs.name, Cond.code Lib.Math.abs.name Lib.Math.abs.code 1 (some .int), Cond.methodLink RL 63 yX5_exchange, Cond.instanceMethod yX5_exchange, Cond.selects RX5 yX5_exchange yX5_exchange, Cond.code yX5_exchange cX5_exchange 3 (some .int), Cond.methodLink RX5 86 yX4_exchangeGoods, Cond.instanceMethod yX4_exchangeGoods, Cond.selects RX4 yX4_exchangeGoods yX4_exchangeGoods, Cond.code yX4_exchangeGoods cX4_exchangeGoods 3 (some .int), Cond.methodLink RL 66 yX5_worth, Cond.instanceMethod yX5_worth, Cond.selects RX5 yX5_worth yX5_worth, Cond.code yX5_worth cX5_worth 4 (some .int), Cond.methodLink RX5 89 yX4_numberOfChange, Cond.instanceMethod yX4_numberOfChange, Cond.selects RX4 yX4_numberOfChange yX4_numberOfChange, Cond.code yX4_numberOfChange cX4_numberOfChange 4 (some .int), Cond.methodLink RX4 152 yX4_worthOfGoing, Cond.instanceMethod yX4_worthOfGoing, Cond.selects RX4 yX4_worthOfGoing yX4_worthOfGoing, Cond.code yX4_worthOfGoing cX4_worthOfGoing 3 (some .int)] : List Cond), w ∈ wsL_law := fun w h => (goodIn_r (big := wsL_law) [Cond.code yX2_wayBetween cX2_wayBetween 3 (some .int), Cond.methodLink RX2 16 Lib.Math.abs.name, Cond.static Lib.Math.abs.name, Cond.code Lib.Math.abs.name Lib.Math.abs.code 1 (some .int), Cond.methodLink RL 63 yX5_exchange, Cond.instanceMethod yX5_exchange, Cond.selects RX5 yX5_exchange yX5_exchange, Cond.code yX5_exchange cX5_exchange 3 (some .int), Cond.methodLink RX5 86 yX4_exchangeGoods, Cond.instanceMethod yX4_exchangeGoods, Cond.selects RX4 yX4_exchangeGoods yX4_exchangeGoods, Cond.code yX4_exchangeGoods cX4_exchangeGoods 3 (some .int), Cond.methodLink RL 66 yX5_worth, Cond.instanceMethod yX5_worth, Cond.selects RX5 yX5_worth yX5_worth, Cond.code yX5_worth cX5_worth 4 (some .int), Cond.methodLink RX5 89 yX4_numberOfChange, Cond.instanceMethod yX4_numberOfChange, Cond.selects RX4 yX4_numberOfChange yX4_numberOfChange, Cond.code yX4_numberOfChange cX4_numberOfChange 4 (some .int), Cond.methodLink RX4 152 yX4_worthOfGoing, Cond.instanceMethod yX4_worthOfGoing, Cond.selects RX4 yX4_worthOfGoing yX4_worthOfGoing, Cond.code yX4_worthOfGoing cX4_worthOfGoing 3 (some .int)] [176, 177, 178, 179, 404, 405, 406, 407, 289, 290, 291, 292, 408, 409, 410, 411, 412, 413, 414, 415, 154, 155, 156, 157] (by decide +kernel) (by decide +kernel) w h).1
set_option maxRecDepth 20000 in
theorem ggL_law_L_fails_13 : ∀ w ∈ ([Cond.methodLink RL 69 yX5_best, Cond.instanceMethod yX5_best, Cond.selects RX5 yX5_best yX5_best, Cond.code yX5_best cX5_best 2 (some .int), Cond.methodLink RX5 92 yX4_numberOfBest, Cond.instanceMethod yX4_numberOfBest, Cond.selects RX4 yX4_numberOfBest yX4_numberOfBest, Cond.code yX4_numberOfBest cX4_numberOfBest 5 (some .int), Cond.methodLink RX4 158 yX4_bestGoing, Cond.instanceMethod yX4_bestGoing, Cond.selects RX4 yX4_bestGoing yX4_bestGoing, Cond.code yX4_bestGoing cX4_bestGoing 5 (some .int), Cond.methodLink RL 72 yX5_improve, Cond.instanceMethod yX5_improve, Cond.selects RX5 yX5_improve yX5_improve, Cond.code yX5_improve cX5_improve 2 (some .int), Cond.methodLink RX5 95 yX4_doBest, Cond.instanceMethod yX4_doBest, Cond.selects RX4 yX4_doBest yX4_doBest, Cond.code yX4_doBest cX4_doBest 4 (some .int), Cond.methodLink RL 75 yX5_weekly, Cond.instanceMethod yX5_weekly, Cond.selects RX5 yX5_weekly yX5_weekly, Cond.code yX5_weekly cX5_weekly 2 (some .int)] : List Cond), w ∈ wsL_law := fun w h => (goodIn_r (big := wsL_law) [Cond.methodLink RL 69 yX5_best, Cond.instanceMethod yX5_best, Cond.selects RX5 yX5_best yX5_best, Cond.code yX5_best cX5_best 2 (some .int), Cond.methodLink RX5 92 yX4_numberOfBest, Cond.instanceMethod yX4_numberOfBest, Cond.selects RX4 yX4_numberOfBest yX4_numberOfBest, Cond.code yX4_numberOfBest cX4_numberOfBest 5 (some .int), Cond.methodLink RX4 158 yX4_bestGoing, Cond.instanceMethod yX4_bestGoing, Cond.selects RX4 yX4_bestGoing yX4_bestGoing, Cond.code yX4_bestGoing cX4_bestGoing 5 (some .int), Cond.methodLink RL 72 yX5_improve, Cond.instanceMethod yX5_improve, Cond.selects RX5 yX5_improve yX5_improve, Cond.code yX5_improve cX5_improve 2 (some .int), Cond.methodLink RX5 95 yX4_doBest, Cond.instanceMethod yX4_doBest, Cond.selects RX4 yX4_doBest yX4_doBest, Cond.code yX4_doBest cX4_doBest 4 (some .int), Cond.methodLink RL 75 yX5_weekly, Cond.instanceMethod yX5_weekly, Cond.selects RX5 yX5_weekly yX5_weekly, Cond.code yX5_weekly cX5_weekly 2 (some .int)] [200, 201, 202, 203, 204, 205, 206, 207, 134, 135, 136, 137, 94, 95, 96, 97, 128, 129, 130, 131, 416, 417, 418, 419] (by decide +kernel) (by decide +kernel) w h).1
set_option maxRecDepth 20000 in
theorem ggL_law_L_fails_14 : ∀ w ∈ ([Cond.methodLink RX5 98 yX5_isSeason, Cond.methodLink RX5 102 yX4_weeklyWalk, Cond.methodLink RL 78 yX5_atBest, Cond.instanceMethod yX5_atBest, Cond.selects RX5 yX5_atBest yX5_atBest, Cond.code yX5_atBest cX5_atBest 2 (some .int), Cond.fieldLink RX5 25 "PickSlots" "demands" "LPickSlots$SortedRow;", Cond.fieldLink RX5 29 "PickSlots" "walks" "LPickSlots$SortedRow;", Cond.methodLink RX5 105 yX4_shortestWalk, Cond.instanceMethod yX4_shortestWalk, Cond.selects RX4 yX4_shortestWalk yX4_shortestWalk, Cond.code yX4_shortestWalk cX4_shortestWalk 6 (some .int), Cond.methodLink RX4 181 yX3_insert, Cond.instanceMethod yX3_insert, Cond.selects RX3 yX3_insert yX3_insert, Cond.initialized RX3, Cond.code yX3_insert cX3_insert 3 none, Cond.fieldLink RX3 15 "PickSlots$SortedRow" "size" "I", Cond.fieldLink RX3 9 "PickSlots$SortedRow" "values" "[I", Cond.methodLink RX4 185 yX3_valueAt, Cond.instanceMethod yX3_valueAt, Cond.selects RX3 yX3_valueAt yX3_valueAt, Cond.code yX3_valueAt cX3_valueAt 2 (some .int), Cond.methodLink RL 81 yX5_set] : List Cond), w ∈ wsL_law := fun w h => (goodIn_r (big := wsL_law) [Cond.methodLink RX5 98 yX5_isSeason, Cond.methodLink RX5 102 yX4_weeklyWalk, Cond.methodLink RL 78 yX5_atBest, Cond.instanceMethod yX5_atBest, Cond.selects RX5 yX5_atBest yX5_atBest, Cond.code yX5_atBest cX5_atBest 2 (some .int), Cond.fieldLink RX5 25 "PickSlots" "demands" "LPickSlots$SortedRow;", Cond.fieldLink RX5 29 "PickSlots" "walks" "LPickSlots$SortedRow;", Cond.methodLink RX5 105 yX4_shortestWalk, Cond.instanceMethod yX4_shortestWalk, Cond.selects RX4 yX4_shortestWalk yX4_shortestWalk, Cond.code yX4_shortestWalk cX4_shortestWalk 6 (some .int), Cond.methodLink RX4 181 yX3_insert, Cond.instanceMethod yX3_insert, Cond.selects RX3 yX3_insert yX3_insert, Cond.initialized RX3, Cond.code yX3_insert cX3_insert 3 none, Cond.fieldLink RX3 15 "PickSlots$SortedRow" "size" "I", Cond.fieldLink RX3 9 "PickSlots$SortedRow" "values" "[I", Cond.methodLink RX4 185 yX3_valueAt, Cond.instanceMethod yX3_valueAt, Cond.selects RX3 yX3_valueAt yX3_valueAt, Cond.code yX3_valueAt cX3_valueAt 2 (some .int), Cond.methodLink RL 81 yX5_set] [420, 421, 422, 423, 424, 425, 19, 20, 426, 427, 428, 429, 430, 431, 432, 18, 433, 434, 33, 435, 436, 437, 438, 439] (by decide +kernel) (by decide +kernel) w h).1
set_option maxRecDepth 20000 in
theorem ggL_law_L_fails_15 : ∀ w ∈ ([Cond.instanceMethod yX5_set, Cond.selects RX5 yX5_set yX5_set, Cond.code yX5_set cX5_set 3 (some .int), Cond.methodLink RX5 122 yX4_changeSetting, Cond.instanceMethod yX4_changeSetting, Cond.selects RX4 yX4_changeSetting yX4_changeSetting, Cond.code yX4_changeSetting cX4_changeSetting 4 (some .int), Cond.fieldLink RX4 199 "PickSlots$Warehouse" "LEAST_SETTINGS" "[I", Cond.fieldLink RX4 202 "PickSlots$Warehouse" "GREATEST_SETTINGS" "[I", Cond.methodLink RL 84 yX5_type, Cond.instanceMethod yX5_type, Cond.selects RX5 yX5_type yX5_type, Cond.code yX5_type cX5_type 2 (some .int), Cond.methodLink RX5 125 yX1_append, Cond.instanceMethod yX1_append, Cond.selects RX1 yX1_append yX1_append, Cond.initialized RX1, Cond.code yX1_append cX1_append 2 (some .int), Cond.fieldLink RX1 19 "PickSlots$OrderText" "length" "I", Cond.fieldLink RX1 9 "PickSlots$OrderText" "signs" "[C", Cond.methodLink RL 87 yX5_fault, Cond.instanceMethod yX5_fault, Cond.selects RX5 yX5_fault yX5_fault, Cond.code yX5_fault cX5_fault 2 (some .int)] : List Cond), w ∈ wsL_law := fun w h => (goodIn_r (big := wsL_law) [Cond.instanceMethod yX5_set, Cond.selects RX5 yX5_set yX5_set, Cond.code yX5_set cX5_set 3 (some .int), Cond.methodLink RX5 122 yX4_changeSetting, Cond.instanceMethod yX4_changeSetting, Cond.selects RX4 yX4_changeSetting yX4_changeSetting, Cond.code yX4_changeSetting cX4_changeSetting 4 (some .int), Cond.fieldLink RX4 199 "PickSlots$Warehouse" "LEAST_SETTINGS" "[I", Cond.fieldLink RX4 202 "PickSlots$Warehouse" "GREATEST_SETTINGS" "[I", Cond.methodLink RL 84 yX5_type, Cond.instanceMethod yX5_type, Cond.selects RX5 yX5_type yX5_type, Cond.code yX5_type cX5_type 2 (some .int), Cond.methodLink RX5 125 yX1_append, Cond.instanceMethod yX1_append, Cond.selects RX1 yX1_append yX1_append, Cond.initialized RX1, Cond.code yX1_append cX1_append 2 (some .int), Cond.fieldLink RX1 19 "PickSlots$OrderText" "length" "I", Cond.fieldLink RX1 9 "PickSlots$OrderText" "signs" "[C", Cond.methodLink RL 87 yX5_fault, Cond.instanceMethod yX5_fault, Cond.selects RX5 yX5_fault yX5_fault, Cond.code yX5_fault cX5_fault 2 (some .int)] [440, 441, 442, 443, 444, 445, 446, 447, 448, 449, 450, 451, 452, 453, 454, 455, 14, 456, 227, 29, 297, 298, 299, 300] (by decide +kernel) (by decide +kernel) w h).1
set_option maxRecDepth 20000 in
theorem ggL_law_L_fails_16 : ∀ w ∈ ([Cond.fieldLink RX5 131 "PickSlots" "faultReason" "I", Cond.fieldLink RX5 134 "PickSlots" "faultPosition" "I", Cond.methodLink RX5 128 yX5_tryText, Cond.instanceMethod yX5_tryText, Cond.selects RX5 yX5_tryText yX5_tryText, Cond.code yX5_tryText cX5_tryText 2 (some .int), Cond.methodLink RX5 147 yX1_startReading, Cond.instanceMethod yX1_startReading, Cond.selects RX1 yX1_startReading yX1_startReading, Cond.code yX1_startReading cX1_startReading 1 none, Cond.fieldLink RX1 23 "PickSlots$OrderText" "at" "I", Cond.methodLink RX5 150 yX1_isAtEnd, Cond.instanceMethod yX1_isAtEnd, Cond.selects RX1 yX1_isAtEnd yX1_isAtEnd, Cond.code yX1_isAtEnd cX1_isAtEnd 1 (some .boolean), Cond.methodLink RX5 157 yX1_readOrder, Cond.instanceMethod yX1_readOrder, Cond.selects RX1 yX1_readOrder yX1_readOrder, Cond.code yX1_readOrder cX1_readOrder 1 (some .boolean), Cond.fieldLink RX1 30 "PickSlots$OrderText" "kind" "I", Cond.fieldLink RX1 41 "PickSlots$OrderText" "first" "I", Cond.methodLink RX1 26 yX1_nextSign, Cond.instanceMethod yX1_nextSign, Cond.selects RX1 yX1_nextSign yX1_nextSign] : List Cond), w ∈ wsL_law := fun w h => (goodIn_r (big := wsL_law) [Cond.fieldLink RX5 131 "PickSlots" "faultReason" "I", Cond.fieldLink RX5 134 "PickSlots" "faultPosition" "I", Cond.methodLink RX5 128 yX5_tryText, Cond.instanceMethod yX5_tryText, Cond.selects RX5 yX5_tryText yX5_tryText, Cond.code yX5_tryText cX5_tryText 2 (some .int), Cond.methodLink RX5 147 yX1_startReading, Cond.instanceMethod yX1_startReading, Cond.selects RX1 yX1_startReading yX1_startReading, Cond.code yX1_startReading cX1_startReading 1 none, Cond.fieldLink RX1 23 "PickSlots$OrderText" "at" "I", Cond.methodLink RX5 150 yX1_isAtEnd, Cond.instanceMethod yX1_isAtEnd, Cond.selects RX1 yX1_isAtEnd yX1_isAtEnd, Cond.code yX1_isAtEnd cX1_isAtEnd 1 (some .boolean), Cond.methodLink RX5 157 yX1_readOrder, Cond.instanceMethod yX1_readOrder, Cond.selects RX1 yX1_readOrder yX1_readOrder, Cond.code yX1_readOrder cX1_readOrder 1 (some .boolean), Cond.fieldLink RX1 30 "PickSlots$OrderText" "kind" "I", Cond.fieldLink RX1 41 "PickSlots$OrderText" "first" "I", Cond.methodLink RX1 26 yX1_nextSign, Cond.instanceMethod yX1_nextSign, Cond.selects RX1 yX1_nextSign yX1_nextSign] [212, 217, 213, 214, 215, 216, 218, 219, 220, 221, 222, 223, 224, 225, 226, 228, 229, 230, 231, 232, 233, 234, 235, 236] (by decide +kernel) (by decide +kernel) w h).1
set_option maxRecDepth 20000 in
theorem ggL_law_L_fails_17 : ∀ w ∈ ([Cond.code yX1_nextSign cX1_nextSign 1 (some .char), Cond.methodLink RX1 33 yX1_readSign, Cond.instanceMethod yX1_readSign, Cond.selects RX1 yX1_readSign yX1_readSign, Cond.code yX1_readSign cX1_readSign 2 (some .boolean), Cond.methodLink RX1 37 yX1_readNumber, Cond.instanceMethod yX1_readNumber, Cond.selects RX1 yX1_readNumber yX1_readNumber, Cond.code yX1_readNumber cX1_readNumber 3 (some .int), Cond.methodLink RX1 51 yX1_isDigit, Cond.static yX1_isDigit, Cond.code yX1_isDigit cX1_isDigit 1 (some .boolean), Cond.methodLink RX1 44 yX1_readTwoNumbers, Cond.instanceMethod yX1_readTwoNumbers, Cond.selects RX1 yX1_readTwoNumbers yX1_readTwoNumbers, Cond.code yX1_readTwoNumbers cX1_readTwoNumbers 1 (some .boolean), Cond.fieldLink RX1 48 "PickSlots$OrderText" "second" "I", Cond.methodLink RX5 169 yX5_hasGoodsAndSlots, Cond.instanceMethod yX5_hasGoodsAndSlots, Cond.selects RX5 yX5_hasGoodsAndSlots yX5_hasGoodsAndSlots, Cond.code yX5_hasGoodsAndSlots cX5_hasGoodsAndSlots 4 (some .boolean), Cond.methodLink RX5 176 yX4_isGood, Cond.methodLink RX5 179 yX2_isSlot, Cond.methodLink RX5 173 yX5_doOrder] : List Cond), w ∈ wsL_law := fun w h => (goodIn_r (big := wsL_law) [Cond.code yX1_nextSign cX1_nextSign 1 (some .char), Cond.methodLink RX1 33 yX1_readSign, Cond.instanceMethod yX1_readSign, Cond.selects RX1 yX1_readSign yX1_readSign, Cond.code yX1_readSign cX1_readSign 2 (some .boolean), Cond.methodLink RX1 37 yX1_readNumber, Cond.instanceMethod yX1_readNumber, Cond.selects RX1 yX1_readNumber yX1_readNumber, Cond.code yX1_readNumber cX1_readNumber 3 (some .int), Cond.methodLink RX1 51 yX1_isDigit, Cond.static yX1_isDigit, Cond.code yX1_isDigit cX1_isDigit 1 (some .boolean), Cond.methodLink RX1 44 yX1_readTwoNumbers, Cond.instanceMethod yX1_readTwoNumbers, Cond.selects RX1 yX1_readTwoNumbers yX1_readTwoNumbers, Cond.code yX1_readTwoNumbers cX1_readTwoNumbers 1 (some .boolean), Cond.fieldLink RX1 48 "PickSlots$OrderText" "second" "I", Cond.methodLink RX5 169 yX5_hasGoodsAndSlots, Cond.instanceMethod yX5_hasGoodsAndSlots, Cond.selects RX5 yX5_hasGoodsAndSlots yX5_hasGoodsAndSlots, Cond.code yX5_hasGoodsAndSlots cX5_hasGoodsAndSlots 4 (some .boolean), Cond.methodLink RX5 176 yX4_isGood, Cond.methodLink RX5 179 yX2_isSlot, Cond.methodLink RX5 173 yX5_doOrder] [237, 238, 239, 240, 241, 242, 243, 244, 245, 246, 247, 248, 249, 250, 251, 252, 253, 254, 255, 256, 257, 258, 259, 260] (by decide +kernel) (by decide +kernel) w h).1
set_option maxRecDepth 20000 in
theorem ggL_law_L_fails_18 : ∀ w ∈ ([Cond.instanceMethod yX5_doOrder, Cond.selects RX5 yX5_doOrder yX5_doOrder, Cond.code yX5_doOrder cX5_doOrder 4 (some .int), Cond.methodLink RX5 79 yX4_finishWeek, Cond.instanceMethod yX4_finishWeek, Cond.selects RX4 yX4_finishWeek yX4_finishWeek, Cond.code yX4_finishWeek cX4_finishWeek 4 (some .int)] : List Cond), w ∈ wsL_law := fun w h => (goodIn_r (big := wsL_law) [Cond.instanceMethod yX5_doOrder, Cond.selects RX5 yX5_doOrder yX5_doOrder, Cond.code yX5_doOrder cX5_doOrder 4 (some .int), Cond.methodLink RX5 79 yX4_finishWeek, Cond.instanceMethod yX4_finishWeek, Cond.selects RX4 yX4_finishWeek yX4_finishWeek, Cond.code yX4_finishWeek cX4_finishWeek 4 (some .int)] [261, 262, 263, 293, 294, 295, 296] (by decide +kernel) (by decide +kernel) w h).1
set_option maxRecDepth 20000 in
theorem ggL_law_L_fails_19 : ∀ w ∈ (wsX50 : List Cond), w ∈ wsL_law := fun w h => (goodIn_r (big := wsL_law) wsX50 [482, 483, 484, 485, 486, 487, 488, 489, 490] (by decide +kernel) (by decide +kernel) w h).1
set_option maxRecDepth 20000 in
theorem ggL_law_L_fails_20 : ∀ w ∈ (wsX40 : List Cond), w ∈ wsL_law := fun w h => (goodIn_r (big := wsL_law) wsX40 [499, 500, 501, 502, 503, 504, 505, 506, 507, 508, 509, 510, 511] (by decide +kernel) (by decide +kernel) w h).1
set_option maxRecDepth 20000 in
theorem ggL_law_L_fails_21 : ∀ w ∈ (wsX00 : List Cond), w ∈ wsL_law := fun w h => (goodIn_r (big := wsL_law) wsX00 [512, 513, 514, 515, 516, 517, 518] (by decide +kernel) (by decide +kernel) w h).1
set_option maxRecDepth 20000 in
theorem ggL_law_L_fails_22 : ∀ w ∈ (wsX10 : List Cond), w ∈ wsL_law := fun w h => (goodIn_r (big := wsL_law) wsX10 [491, 492, 493, 494, 495, 496] (by decide +kernel) (by decide +kernel) w h).1
set_option maxRecDepth 20000 in
theorem ggL_law_L_fails_23 : ∀ w ∈ (wsX30 : List Cond), w ∈ wsL_law := fun w h => (goodIn_r (big := wsL_law) wsX30 [497, 498] (by decide +kernel) (by decide +kernel) w h).1
set_option maxRecDepth 20000 in
theorem ggL_law_L_fails_m : ∀ w ∈ wsL_fails, w ∈ wsL_law := by
  show ∀ w ∈ (([Cond.code yL_fails cL_fails 6 (some .boolean)] : List Cond) ++ (([Cond.methodLink RL 26 yL_mark, Cond.static yL_mark, Cond.initialized RL, Cond.code yL_mark cL_mark 5 (some .long), Cond.constantLong RL 9 (17), Cond.constantLong RL 11 (31), Cond.methodLink RL 13 yX5_account, Cond.instanceMethod yX5_account, Cond.selects RX5 yX5_account yX5_account, Cond.initialized RX5, Cond.code yX5_account cX5_account 2 (some .int), Cond.fieldLink RX5 33 "PickSlots" "now" "LPickSlots$Warehouse;", Cond.methodLink RX5 109 yX4_numberOfAccount, Cond.instanceMethod yX4_numberOfAccount, Cond.selects RX4 yX4_numberOfAccount yX4_numberOfAccount, Cond.initialized RX4, Cond.code yX4_numberOfAccount cX4_numberOfAccount 2 (some .int), Cond.fieldLink RX4 47 "PickSlots$Warehouse" "accounts" "LPickSlots$Accounts;", Cond.constant RX4 145 (100000000), Cond.methodLink RX4 138 yX4_presentSeason, Cond.instanceMethod yX4_presentSeason, Cond.selects RX4 yX4_presentSeason yX4_presentSeason, Cond.code yX4_presentSeason cX4_presentSeason 1 (some .int), Cond.fieldLink RX4 63 "PickSlots$Warehouse" "week" "I"] : List Cond) ++ (([Cond.methodLink RX4 188 yX4_weeklyWalk, Cond.instanceMethod yX4_weeklyWalk, Cond.selects RX4 yX4_weeklyWalk yX4_weeklyWalk, Cond.code yX4_weeklyWalk cX4_weeklyWalk 4 (some .int), Cond.fieldLink RX4 59 "PickSlots$Warehouse" "goods" "I", Cond.fieldLink RX4 21 "PickSlots$Warehouse" "slotOfGood" "[I", Cond.methodLink RX4 100 yX4_isPlaced, Cond.instanceMethod yX4_isPlaced, Cond.selects RX4 yX4_isPlaced yX4_isPlaced, Cond.code yX4_isPlaced cX4_isPlaced 2 (some .boolean), Cond.methodLink RX4 78 yX2_isSlot, Cond.static yX2_isSlot, Cond.initialized RX2, Cond.code yX2_isSlot cX2_isSlot 1 (some .boolean), Cond.methodLink RX4 96 yX4_demandOf, Cond.instanceMethod yX4_demandOf, Cond.selects RX4 yX4_demandOf yX4_demandOf, Cond.code yX4_demandOf cX4_demandOf 3 (some .int), Cond.fieldLink RX4 18 "PickSlots$Warehouse" "seasonDemands" "[I", Cond.methodLink RX4 111 yX2_walkTo, Cond.static yX2_walkTo, Cond.code yX2_walkTo cX2_walkTo 1 (some .int), Cond.fieldLink RX2 9 "PickSlots$Slots" "REACHES" "[I", Cond.methodLink RL 19 yX5_count] : List Cond) ++ (([Cond.instanceMethod yX5_count, Cond.selects RX5 yX5_count yX5_count, Cond.code yX5_count cX5_count 2 (some .int), Cond.fieldLink RX5 112 "PickSlots" "states" "I", Cond.fieldLink RX5 18 "PickSlots" "text" "LPickSlots$OrderText;", Cond.methodLink RX5 119 yX4_numberOfWarehouse, Cond.instanceMethod yX4_numberOfWarehouse, Cond.selects RX4 yX4_numberOfWarehouse yX4_numberOfWarehouse, Cond.code yX4_numberOfWarehouse cX4_numberOfWarehouse 2 (some .int), Cond.fieldLink RX4 24 "PickSlots$Warehouse" "unitsInSlot" "[I", Cond.fieldLink RX4 27 "PickSlots$Warehouse" "unitsInStore" "[I", Cond.fieldLink RX4 41 "PickSlots$Warehouse" "settings" "[I", Cond.methodLink RX4 191 yX4_placedGoods, Cond.instanceMethod yX4_placedGoods, Cond.selects RX4 yX4_placedGoods yX4_placedGoods, Cond.code yX4_placedGoods cX4_placedGoods 4 (some .int), Cond.methodLink RX4 164 yX4_weeksLeft, Cond.instanceMethod yX4_weeksLeft, Cond.selects RX4 yX4_weeksLeft yX4_weeksLeft, Cond.code yX4_weeksLeft cX4_weeksLeft 1 (some .int), Cond.methodLink RX4 195 yX4_sumOf, Cond.instanceMethod yX4_sumOf, Cond.selects RX4 yX4_sumOf yX4_sumOf, Cond.code yX4_sumOf cX4_sumOf 4 (some .int)] : List Cond) ++ (([Cond.methodLink RL 22 yX5_goodOf, Cond.instanceMethod yX5_goodOf, Cond.selects RX5 yX5_goodOf yX5_goodOf, Cond.code yX5_goodOf cX5_goodOf 3 (some .int), Cond.methodLink RX5 64 yX4_numberOfGood, Cond.instanceMethod yX4_numberOfGood, Cond.selects RX4 yX4_numberOfGood yX4_numberOfGood, Cond.code yX4_numberOfGood cX4_numberOfGood 3 (some .int), Cond.fieldLink RX4 9 "PickSlots$Warehouse" "weights" "[I", Cond.fieldLink RX4 15 "PickSlots$Warehouse" "capacities" "[I", Cond.fieldLink RX4 30 "PickSlots$Warehouse" "weekPicks" "[I", Cond.fieldLink RX4 33 "PickSlots$Warehouse" "unitsPicked" "[I", Cond.methodLink RX4 90 yX4_isGood, Cond.instanceMethod yX4_isGood, Cond.selects RX4 yX4_isGood yX4_isGood, Cond.code yX4_isGood cX4_isGood 2 (some .boolean), Cond.static yX5_isIn, Cond.code yX5_isIn cX5_isIn 3 (some .boolean), Cond.methodLink RX4 114 yX2_greatestHeightFor, Cond.static yX2_greatestHeightFor, Cond.code yX2_greatestHeightFor cX2_greatestHeightFor 3 (some .int), Cond.fieldLink RX2 13 "PickSlots$Slots" "HEAVIEST" "[I", Cond.methodLink RL 32 yX5_good, Cond.instanceMethod yX5_good] : List Cond) ++ (([Cond.selects RX5 yX5_good yX5_good, Cond.code yX5_good cX5_good 3 (some .int), Cond.fieldLink RX5 37 "PickSlots" "trial" "LPickSlots$Warehouse;", Cond.methodLink RX5 40 yX5_startTrial, Cond.instanceMethod yX5_startTrial, Cond.selects RX5 yX5_startTrial yX5_startTrial, Cond.code yX5_startTrial cX5_startTrial 1 none, Cond.methodLink RX5 137 yX4_copyFrom, Cond.instanceMethod yX4_copyFrom, Cond.selects RX4 yX4_copyFrom yX4_copyFrom, Cond.code yX4_copyFrom cX4_copyFrom 2 none, Cond.fieldLink RX4 38 "PickSlots$Warehouse" "goodInSlot" "[I", Cond.methodLink RX4 51 yX4_copyRow, Cond.static yX4_copyRow, Cond.code yX4_copyRow cX4_copyRow 2 none, Cond.methodLink RX4 66 Lib.Math.min.name, Cond.static Lib.Math.min.name, Cond.initialized "java/lang/Math", Cond.code Lib.Math.min.name Lib.Math.min.code 2 (some .int), Cond.methodLink RX4 72 arraycopyName, Cond.native arraycopyName, Cond.static arraycopyName, Cond.initialized "java/lang/System", Cond.methodLink RX4 55 yX0_copyFrom] : List Cond) ++ (([Cond.instanceMethod yX0_copyFrom, Cond.selects RX0 yX0_copyFrom yX0_copyFrom, Cond.initialized RX0, Cond.code yX0_copyFrom cX0_copyFrom 2 none, Cond.fieldLink RX0 7 "PickSlots$Accounts" "pickWalk" "I", Cond.fieldLink RX0 13 "PickSlots$Accounts" "refillWalk" "I", Cond.fieldLink RX0 16 "PickSlots$Accounts" "moveWalk" "I", Cond.fieldLink RX0 19 "PickSlots$Accounts" "trips" "I", Cond.fieldLink RX0 22 "PickSlots$Accounts" "saved" "I", Cond.fieldLink RX0 25 "PickSlots$Accounts" "moves" "I", Cond.fieldLink RX0 28 "PickSlots$Accounts" "picks" "I", Cond.methodLink RX5 43 yX4_addGood, Cond.instanceMethod yX4_addGood, Cond.selects RX4 yX4_addGood yX4_addGood, Cond.code yX4_addGood cX4_addGood 3 (some .int), Cond.methodLink RX5 47 yX5_endTrial, Cond.instanceMethod yX5_endTrial, Cond.selects RX5 yX5_endTrial yX5_endTrial, Cond.code yX5_endTrial cX5_endTrial 2 (some .int), Cond.methodLink RX5 141 yX5_keepTrial, Cond.instanceMethod yX5_keepTrial, Cond.selects RX5 yX5_keepTrial yX5_keepTrial, Cond.code yX5_keepTrial cX5_keepTrial 2 none, Cond.fieldLink RX5 11 "PickSlots" "history" "[LPickSlots$Warehouse;"] : List Cond) ++ (([Cond.methodLink RX5 144 yX5_dropOldestState, Cond.instanceMethod yX5_dropOldestState, Cond.selects RX5 yX5_dropOldestState yX5_dropOldestState, Cond.code yX5_dropOldestState cX5_dropOldestState 3 none, Cond.methodLink RL 35 yX5_demand, Cond.instanceMethod yX5_demand, Cond.selects RX5 yX5_demand yX5_demand, Cond.code yX5_demand cX5_demand 4 (some .int), Cond.methodLink RX5 51 yX4_changeDemand, Cond.instanceMethod yX4_changeDemand, Cond.selects RX4 yX4_changeDemand yX4_changeDemand, Cond.code yX4_changeDemand cX4_changeDemand 5 (some .int), Cond.static yX5_isSeason, Cond.code yX5_isSeason cX5_isSeason 1 (some .boolean), Cond.methodLink RL 39 yX5_deliver, Cond.instanceMethod yX5_deliver, Cond.selects RX5 yX5_deliver yX5_deliver, Cond.code yX5_deliver cX5_deliver 3 (some .int), Cond.methodLink RX5 55 yX4_addToStore, Cond.instanceMethod yX4_addToStore, Cond.selects RX4 yX4_addToStore yX4_addToStore, Cond.code yX4_addToStore cX4_addToStore 3 (some .int), Cond.constant RX4 99 (100000), Cond.methodLink RL 42 yX5_place] : List Cond) ++ (([Cond.instanceMethod yX5_place, Cond.selects RX5 yX5_place yX5_place, Cond.code yX5_place cX5_place 3 (some .int), Cond.methodLink RX5 58 yX4_putIntoSlot, Cond.instanceMethod yX4_putIntoSlot, Cond.selects RX4 yX4_putIntoSlot yX4_putIntoSlot, Cond.code yX4_putIntoSlot cX4_putIntoSlot 3 (some .int), Cond.methodLink RX4 103 yX4_bears, Cond.instanceMethod yX4_bears, Cond.selects RX4 yX4_bears yX4_bears, Cond.code yX4_bears cX4_bears 3 (some .boolean), Cond.methodLink RX4 82 yX2_heaviestAt, Cond.static yX2_heaviestAt, Cond.code yX2_heaviestAt cX2_heaviestAt 1 (some .int), Cond.methodLink RX4 107 yX4_standIn, Cond.instanceMethod yX4_standIn, Cond.selects RX4 yX4_standIn yX4_standIn, Cond.code yX4_standIn cX4_standIn 3 none, Cond.methodLink RL 45 yX5_take, Cond.instanceMethod yX5_take, Cond.selects RX5 yX5_take yX5_take, Cond.code yX5_take cX5_take 2 (some .int), Cond.methodLink RX5 61 yX4_takeOutOfSlot, Cond.instanceMethod yX4_takeOutOfSlot] : List Cond) ++ (([Cond.selects RX4 yX4_takeOutOfSlot yX4_takeOutOfSlot, Cond.code yX4_takeOutOfSlot cX4_takeOutOfSlot 3 (some .int), Cond.methodLink RL 48 yX5_slotOf, Cond.instanceMethod yX5_slotOf, Cond.selects RX5 yX5_slotOf yX5_slotOf, Cond.code yX5_slotOf cX5_slotOf 3 (some .int), Cond.methodLink RX5 67 yX4_numberOfSlot, Cond.instanceMethod yX4_numberOfSlot, Cond.selects RX4 yX4_numberOfSlot yX4_numberOfSlot, Cond.code yX4_numberOfSlot cX4_numberOfSlot 3 (some .int), Cond.methodLink RL 51 yX5_nearest, Cond.instanceMethod yX5_nearest, Cond.selects RX5 yX5_nearest yX5_nearest, Cond.code yX5_nearest cX5_nearest 2 (some .int), Cond.methodLink RX5 70 yX4_nearestFreeSlot, Cond.instanceMethod yX4_nearestFreeSlot, Cond.selects RX4 yX4_nearestFreeSlot yX4_nearestFreeSlot, Cond.code yX4_nearestFreeSlot cX4_nearestFreeSlot 5 (some .int), Cond.methodLink RL 54 yX5_pick, Cond.instanceMethod yX5_pick, Cond.selects RX5 yX5_pick yX5_pick, Cond.code yX5_pick cX5_pick 3 (some .int), Cond.methodLink RX5 73 yX4_pickUnits, Cond.instanceMethod yX4_pickUnits] : List Cond) ++ (([Cond.selects RX4 yX4_pickUnits yX4_pickUnits, Cond.code yX4_pickUnits cX4_pickUnits 6 (some .int), Cond.methodLink RX4 117 yX4_unitsToBring, Cond.instanceMethod yX4_unitsToBring, Cond.selects RX4 yX4_unitsToBring yX4_unitsToBring, Cond.code yX4_unitsToBring cX4_unitsToBring 2 (some .int), Cond.methodLink RX4 120 yX4_bring, Cond.instanceMethod yX4_bring, Cond.selects RX4 yX4_bring yX4_bring, Cond.code yX4_bring cX4_bring 5 (some .int), Cond.methodLink RX4 129 yX4_tripsFor, Cond.instanceMethod yX4_tripsFor, Cond.selects RX4 yX4_tripsFor yX4_tripsFor, Cond.code yX4_tripsFor cX4_tripsFor 3 (some .int), Cond.methodLink RL 57 yX5_refill, Cond.instanceMethod yX5_refill, Cond.selects RX5 yX5_refill yX5_refill, Cond.code yX5_refill cX5_refill 2 (some .int), Cond.methodLink RX5 76 yX4_refillSlot, Cond.instanceMethod yX4_refillSlot, Cond.selects RX4 yX4_refillSlot yX4_refillSlot, Cond.code yX4_refillSlot cX4_refillSlot 3 (some .int), Cond.methodLink RL 60 yX5_move, Cond.instanceMethod yX5_move] : List Cond) ++ (([Cond.selects RX5 yX5_move yX5_move, Cond.code yX5_move cX5_move 3 (some .int), Cond.methodLink RX5 83 yX4_moveGood, Cond.instanceMethod yX4_moveGood, Cond.selects RX4 yX4_moveGood yX4_moveGood, Cond.code yX4_moveGood cX4_moveGood 3 (some .int), Cond.methodLink RX4 142 yX4_canGo, Cond.instanceMethod yX4_canGo, Cond.selects RX4 yX4_canGo yX4_canGo, Cond.code yX4_canGo cX4_canGo 5 (some .boolean), Cond.methodLink RX4 146 yX4_goTo, Cond.instanceMethod yX4_goTo, Cond.selects RX4 yX4_goTo yX4_goTo, Cond.code yX4_goTo cX4_goTo 6 (some .int), Cond.methodLink RX4 155 yX4_savedByGoing, Cond.instanceMethod yX4_savedByGoing, Cond.selects RX4 yX4_savedByGoing yX4_savedByGoing, Cond.code yX4_savedByGoing cX4_savedByGoing 5 (some .int), Cond.methodLink RX4 149 yX4_walkOfGoing, Cond.instanceMethod yX4_walkOfGoing, Cond.selects RX4 yX4_walkOfGoing yX4_walkOfGoing, Cond.code yX4_walkOfGoing cX4_walkOfGoing 6 (some .int), Cond.methodLink RX4 161 yX2_wayBetween, Cond.static yX2_wayBetween] : List Cond) ++ (([Cond.code yX2_wayBetween cX2_wayBetween 3 (some .int), Cond.methodLink RX2 16 Lib.Math.abs.name, Cond.static Lib.Math.abs.name, Cond.code Lib.Math.abs.name Lib.Math.abs.code 1 (some .int), Cond.methodLink RL 63 yX5_exchange, Cond.instanceMethod yX5_exchange, Cond.selects RX5 yX5_exchange yX5_exchange, Cond.code yX5_exchange cX5_exchange 3 (some .int), Cond.methodLink RX5 86 yX4_exchangeGoods, Cond.instanceMethod yX4_exchangeGoods, Cond.selects RX4 yX4_exchangeGoods yX4_exchangeGoods, Cond.code yX4_exchangeGoods cX4_exchangeGoods 3 (some .int), Cond.methodLink RL 66 yX5_worth, Cond.instanceMethod yX5_worth, Cond.selects RX5 yX5_worth yX5_worth, Cond.code yX5_worth cX5_worth 4 (some .int), Cond.methodLink RX5 89 yX4_numberOfChange, Cond.instanceMethod yX4_numberOfChange, Cond.selects RX4 yX4_numberOfChange yX4_numberOfChange, Cond.code yX4_numberOfChange cX4_numberOfChange 4 (some .int), Cond.methodLink RX4 152 yX4_worthOfGoing, Cond.instanceMethod yX4_worthOfGoing, Cond.selects RX4 yX4_worthOfGoing yX4_worthOfGoing, Cond.code yX4_worthOfGoing cX4_worthOfGoing 3 (some .int)] : List Cond) ++ (([Cond.methodLink RL 69 yX5_best, Cond.instanceMethod yX5_best, Cond.selects RX5 yX5_best yX5_best, Cond.code yX5_best cX5_best 2 (some .int), Cond.methodLink RX5 92 yX4_numberOfBest, Cond.instanceMethod yX4_numberOfBest, Cond.selects RX4 yX4_numberOfBest yX4_numberOfBest, Cond.code yX4_numberOfBest cX4_numberOfBest 5 (some .int), Cond.methodLink RX4 158 yX4_bestGoing, Cond.instanceMethod yX4_bestGoing, Cond.selects RX4 yX4_bestGoing yX4_bestGoing, Cond.code yX4_bestGoing cX4_bestGoing 5 (some .int), Cond.methodLink RL 72 yX5_improve, Cond.instanceMethod yX5_improve, Cond.selects RX5 yX5_improve yX5_improve, Cond.code yX5_improve cX5_improve 2 (some .int), Cond.methodLink RX5 95 yX4_doBest, Cond.instanceMethod yX4_doBest, Cond.selects RX4 yX4_doBest yX4_doBest, Cond.code yX4_doBest cX4_doBest 4 (some .int), Cond.methodLink RL 75 yX5_weekly, Cond.instanceMethod yX5_weekly, Cond.selects RX5 yX5_weekly yX5_weekly, Cond.code yX5_weekly cX5_weekly 2 (some .int)] : List Cond) ++ (([Cond.methodLink RX5 98 yX5_isSeason, Cond.methodLink RX5 102 yX4_weeklyWalk, Cond.methodLink RL 78 yX5_atBest, Cond.instanceMethod yX5_atBest, Cond.selects RX5 yX5_atBest yX5_atBest, Cond.code yX5_atBest cX5_atBest 2 (some .int), Cond.fieldLink RX5 25 "PickSlots" "demands" "LPickSlots$SortedRow;", Cond.fieldLink RX5 29 "PickSlots" "walks" "LPickSlots$SortedRow;", Cond.methodLink RX5 105 yX4_shortestWalk, Cond.instanceMethod yX4_shortestWalk, Cond.selects RX4 yX4_shortestWalk yX4_shortestWalk, Cond.code yX4_shortestWalk cX4_shortestWalk 6 (some .int), Cond.methodLink RX4 181 yX3_insert, Cond.instanceMethod yX3_insert, Cond.selects RX3 yX3_insert yX3_insert, Cond.initialized RX3, Cond.code yX3_insert cX3_insert 3 none, Cond.fieldLink RX3 15 "PickSlots$SortedRow" "size" "I", Cond.fieldLink RX3 9 "PickSlots$SortedRow" "values" "[I", Cond.methodLink RX4 185 yX3_valueAt, Cond.instanceMethod yX3_valueAt, Cond.selects RX3 yX3_valueAt yX3_valueAt, Cond.code yX3_valueAt cX3_valueAt 2 (some .int), Cond.methodLink RL 81 yX5_set] : List Cond) ++ (([Cond.instanceMethod yX5_set, Cond.selects RX5 yX5_set yX5_set, Cond.code yX5_set cX5_set 3 (some .int), Cond.methodLink RX5 122 yX4_changeSetting, Cond.instanceMethod yX4_changeSetting, Cond.selects RX4 yX4_changeSetting yX4_changeSetting, Cond.code yX4_changeSetting cX4_changeSetting 4 (some .int), Cond.fieldLink RX4 199 "PickSlots$Warehouse" "LEAST_SETTINGS" "[I", Cond.fieldLink RX4 202 "PickSlots$Warehouse" "GREATEST_SETTINGS" "[I", Cond.methodLink RL 84 yX5_type, Cond.instanceMethod yX5_type, Cond.selects RX5 yX5_type yX5_type, Cond.code yX5_type cX5_type 2 (some .int), Cond.methodLink RX5 125 yX1_append, Cond.instanceMethod yX1_append, Cond.selects RX1 yX1_append yX1_append, Cond.initialized RX1, Cond.code yX1_append cX1_append 2 (some .int), Cond.fieldLink RX1 19 "PickSlots$OrderText" "length" "I", Cond.fieldLink RX1 9 "PickSlots$OrderText" "signs" "[C", Cond.methodLink RL 87 yX5_fault, Cond.instanceMethod yX5_fault, Cond.selects RX5 yX5_fault yX5_fault, Cond.code yX5_fault cX5_fault 2 (some .int)] : List Cond) ++ (([Cond.fieldLink RX5 131 "PickSlots" "faultReason" "I", Cond.fieldLink RX5 134 "PickSlots" "faultPosition" "I", Cond.methodLink RX5 128 yX5_tryText, Cond.instanceMethod yX5_tryText, Cond.selects RX5 yX5_tryText yX5_tryText, Cond.code yX5_tryText cX5_tryText 2 (some .int), Cond.methodLink RX5 147 yX1_startReading, Cond.instanceMethod yX1_startReading, Cond.selects RX1 yX1_startReading yX1_startReading, Cond.code yX1_startReading cX1_startReading 1 none, Cond.fieldLink RX1 23 "PickSlots$OrderText" "at" "I", Cond.methodLink RX5 150 yX1_isAtEnd, Cond.instanceMethod yX1_isAtEnd, Cond.selects RX1 yX1_isAtEnd yX1_isAtEnd, Cond.code yX1_isAtEnd cX1_isAtEnd 1 (some .boolean), Cond.methodLink RX5 157 yX1_readOrder, Cond.instanceMethod yX1_readOrder, Cond.selects RX1 yX1_readOrder yX1_readOrder, Cond.code yX1_readOrder cX1_readOrder 1 (some .boolean), Cond.fieldLink RX1 30 "PickSlots$OrderText" "kind" "I", Cond.fieldLink RX1 41 "PickSlots$OrderText" "first" "I", Cond.methodLink RX1 26 yX1_nextSign, Cond.instanceMethod yX1_nextSign, Cond.selects RX1 yX1_nextSign yX1_nextSign] : List Cond) ++ (([Cond.code yX1_nextSign cX1_nextSign 1 (some .char), Cond.methodLink RX1 33 yX1_readSign, Cond.instanceMethod yX1_readSign, Cond.selects RX1 yX1_readSign yX1_readSign, Cond.code yX1_readSign cX1_readSign 2 (some .boolean), Cond.methodLink RX1 37 yX1_readNumber, Cond.instanceMethod yX1_readNumber, Cond.selects RX1 yX1_readNumber yX1_readNumber, Cond.code yX1_readNumber cX1_readNumber 3 (some .int), Cond.methodLink RX1 51 yX1_isDigit, Cond.static yX1_isDigit, Cond.code yX1_isDigit cX1_isDigit 1 (some .boolean), Cond.methodLink RX1 44 yX1_readTwoNumbers, Cond.instanceMethod yX1_readTwoNumbers, Cond.selects RX1 yX1_readTwoNumbers yX1_readTwoNumbers, Cond.code yX1_readTwoNumbers cX1_readTwoNumbers 1 (some .boolean), Cond.fieldLink RX1 48 "PickSlots$OrderText" "second" "I", Cond.methodLink RX5 169 yX5_hasGoodsAndSlots, Cond.instanceMethod yX5_hasGoodsAndSlots, Cond.selects RX5 yX5_hasGoodsAndSlots yX5_hasGoodsAndSlots, Cond.code yX5_hasGoodsAndSlots cX5_hasGoodsAndSlots 4 (some .boolean), Cond.methodLink RX5 176 yX4_isGood, Cond.methodLink RX5 179 yX2_isSlot, Cond.methodLink RX5 173 yX5_doOrder] : List Cond) ++ (([Cond.instanceMethod yX5_doOrder, Cond.selects RX5 yX5_doOrder yX5_doOrder, Cond.code yX5_doOrder cX5_doOrder 4 (some .int), Cond.methodLink RX5 79 yX4_finishWeek, Cond.instanceMethod yX4_finishWeek, Cond.selects RX4 yX4_finishWeek yX4_finishWeek, Cond.code yX4_finishWeek cX4_finishWeek 4 (some .int)] : List Cond) ++ ((wsX50 : List Cond) ++ ((wsX40 : List Cond) ++ ((wsX00 : List Cond) ++ ((wsX10 : List Cond) ++ ((wsX30 : List Cond))))))))))))))))))))))))), w ∈ wsL_law
  exact mem_app ggL_law_L_fails_0 (mem_app ggL_law_L_fails_1 (mem_app ggL_law_L_fails_2 (mem_app ggL_law_L_fails_3 (mem_app ggL_law_L_fails_4 (mem_app ggL_law_L_fails_5 (mem_app ggL_law_L_fails_6 (mem_app ggL_law_L_fails_7 (mem_app ggL_law_L_fails_8 (mem_app ggL_law_L_fails_9 (mem_app ggL_law_L_fails_10 (mem_app ggL_law_L_fails_11 (mem_app ggL_law_L_fails_12 (mem_app ggL_law_L_fails_13 (mem_app ggL_law_L_fails_14 (mem_app ggL_law_L_fails_15 (mem_app ggL_law_L_fails_16 (mem_app ggL_law_L_fails_17 (mem_app ggL_law_L_fails_18 (mem_app ggL_law_L_fails_19 (mem_app ggL_law_L_fails_20 (mem_app ggL_law_L_fails_21 (mem_app ggL_law_L_fails_22 (ggL_law_L_fails_23)))))))))))))))))))))))
set_option maxRecDepth 20000 in
theorem ggL_law_L_fails : GoodIn wsL_law wsL_fails := goodIn_sub ggL_law_L_fails_m (by decide +kernel)
set_option maxRecDepth 20000 in
theorem gL_law_L_fails : GoodIn wsL_law (va_wsS RL 113 yL_fails wsL_fails) := goodIn_app (goodIn_of _ (by decide +kernel)) ggL_law_L_fails
set_option maxRecDepth 20000 in
theorem ggL_law_L_sound_0 : ∀ w ∈ ([Cond.code yL_sound cL_sound 13 (some .boolean)] : List Cond), w ∈ wsL_law := List.forall_mem_singleton.mpr (List.mem_of_getElem? (i := 459) rfl)
set_option maxRecDepth 20000 in
theorem ggL_law_L_sound_1 : ∀ w ∈ ([Cond.methodLink RL 19 yX5_count, Cond.instanceMethod yX5_count, Cond.selects RX5 yX5_count yX5_count, Cond.initialized RX5, Cond.code yX5_count cX5_count 2 (some .int), Cond.fieldLink RX5 112 "PickSlots" "states" "I", Cond.fieldLink RX5 18 "PickSlots" "text" "LPickSlots$OrderText;", Cond.fieldLink RX5 33 "PickSlots" "now" "LPickSlots$Warehouse;", Cond.methodLink RX5 119 yX4_numberOfWarehouse, Cond.instanceMethod yX4_numberOfWarehouse, Cond.selects RX4 yX4_numberOfWarehouse yX4_numberOfWarehouse, Cond.initialized RX4, Cond.code yX4_numberOfWarehouse cX4_numberOfWarehouse 2 (some .int), Cond.fieldLink RX4 59 "PickSlots$Warehouse" "goods" "I", Cond.fieldLink RX4 63 "PickSlots$Warehouse" "week" "I", Cond.fieldLink RX4 24 "PickSlots$Warehouse" "unitsInSlot" "[I", Cond.fieldLink RX4 27 "PickSlots$Warehouse" "unitsInStore" "[I", Cond.fieldLink RX4 41 "PickSlots$Warehouse" "settings" "[I", Cond.methodLink RX4 191 yX4_placedGoods, Cond.instanceMethod yX4_placedGoods, Cond.selects RX4 yX4_placedGoods yX4_placedGoods, Cond.code yX4_placedGoods cX4_placedGoods 4 (some .int), Cond.methodLink RX4 100 yX4_isPlaced, Cond.instanceMethod yX4_isPlaced] : List Cond), w ∈ wsL_law := fun w h => (goodIn_r (big := wsL_law) [Cond.methodLink RL 19 yX5_count, Cond.instanceMethod yX5_count, Cond.selects RX5 yX5_count yX5_count, Cond.initialized RX5, Cond.code yX5_count cX5_count 2 (some .int), Cond.fieldLink RX5 112 "PickSlots" "states" "I", Cond.fieldLink RX5 18 "PickSlots" "text" "LPickSlots$OrderText;", Cond.fieldLink RX5 33 "PickSlots" "now" "LPickSlots$Warehouse;", Cond.methodLink RX5 119 yX4_numberOfWarehouse, Cond.instanceMethod yX4_numberOfWarehouse, Cond.selects RX4 yX4_numberOfWarehouse yX4_numberOfWarehouse, Cond.initialized RX4, Cond.code yX4_numberOfWarehouse cX4_numberOfWarehouse 2 (some .int), Cond.fieldLink RX4 59 "PickSlots$Warehouse" "goods" "I", Cond.fieldLink RX4 63 "PickSlots$Warehouse" "week" "I", Cond.fieldLink RX4 24 "PickSlots$Warehouse" "unitsInSlot" "[I", Cond.fieldLink RX4 27 "PickSlots$Warehouse" "unitsInStore" "[I", Cond.fieldLink RX4 41 "PickSlots$Warehouse" "settings" "[I", Cond.methodLink RX4 191 yX4_placedGoods, Cond.instanceMethod yX4_placedGoods, Cond.selects RX4 yX4_placedGoods yX4_placedGoods, Cond.code yX4_placedGoods cX4_placedGoods 4 (some .int), Cond.methodLink RX4 100 yX4_isPlaced, Cond.instanceMethod yX4_isPlaced] [60, 61, 62, 2, 63, 59, 15, 23, 64, 65, 66, 22, 67, 68, 69, 42, 43, 47, 70, 71, 72, 73, 74, 75] (by decide +kernel) (by decide +kernel) w h).1
set_option maxRecDepth 20000 in
theorem ggL_law_L_sound_2 : ∀ w ∈ ([Cond.selects RX4 yX4_isPlaced yX4_isPlaced, Cond.code yX4_isPlaced cX4_isPlaced 2 (some .boolean), Cond.fieldLink RX4 21 "PickSlots$Warehouse" "slotOfGood" "[I", Cond.methodLink RX4 78 yX2_isSlot, Cond.static yX2_isSlot, Cond.initialized RX2, Cond.code yX2_isSlot cX2_isSlot 1 (some .boolean), Cond.methodLink RX4 138 yX4_presentSeason, Cond.instanceMethod yX4_presentSeason, Cond.selects RX4 yX4_presentSeason yX4_presentSeason, Cond.code yX4_presentSeason cX4_presentSeason 1 (some .int), Cond.methodLink RX4 164 yX4_weeksLeft, Cond.instanceMethod yX4_weeksLeft, Cond.selects RX4 yX4_weeksLeft yX4_weeksLeft, Cond.code yX4_weeksLeft cX4_weeksLeft 1 (some .int), Cond.methodLink RX4 195 yX4_sumOf, Cond.instanceMethod yX4_sumOf, Cond.selects RX4 yX4_sumOf yX4_sumOf, Cond.code yX4_sumOf cX4_sumOf 4 (some .int), Cond.methodLink RL 22 yX5_goodOf, Cond.instanceMethod yX5_goodOf, Cond.selects RX5 yX5_goodOf yX5_goodOf, Cond.code yX5_goodOf cX5_goodOf 3 (some .int), Cond.methodLink RX5 64 yX4_numberOfGood] : List Cond), w ∈ wsL_law := fun w h => (goodIn_r (big := wsL_law) [Cond.selects RX4 yX4_isPlaced yX4_isPlaced, Cond.code yX4_isPlaced cX4_isPlaced 2 (some .boolean), Cond.fieldLink RX4 21 "PickSlots$Warehouse" "slotOfGood" "[I", Cond.methodLink RX4 78 yX2_isSlot, Cond.static yX2_isSlot, Cond.initialized RX2, Cond.code yX2_isSlot cX2_isSlot 1 (some .boolean), Cond.methodLink RX4 138 yX4_presentSeason, Cond.instanceMethod yX4_presentSeason, Cond.selects RX4 yX4_presentSeason yX4_presentSeason, Cond.code yX4_presentSeason cX4_presentSeason 1 (some .int), Cond.methodLink RX4 164 yX4_weeksLeft, Cond.instanceMethod yX4_weeksLeft, Cond.selects RX4 yX4_weeksLeft yX4_weeksLeft, Cond.code yX4_weeksLeft cX4_weeksLeft 1 (some .int), Cond.methodLink RX4 195 yX4_sumOf, Cond.instanceMethod yX4_sumOf, Cond.selects RX4 yX4_sumOf yX4_sumOf, Cond.code yX4_sumOf cX4_sumOf 4 (some .int), Cond.methodLink RL 22 yX5_goodOf, Cond.instanceMethod yX5_goodOf, Cond.selects RX5 yX5_goodOf yX5_goodOf, Cond.code yX5_goodOf cX5_goodOf 3 (some .int), Cond.methodLink RX5 64 yX4_numberOfGood] [76, 77, 41, 78, 79, 80, 81, 82, 83, 84, 85, 86, 87, 88, 89, 90, 91, 92, 93, 322, 323, 324, 325, 326] (by decide +kernel) (by decide +kernel) w h).1
set_option maxRecDepth 20000 in
theorem ggL_law_L_sound_3 : ∀ w ∈ ([Cond.instanceMethod yX4_numberOfGood, Cond.selects RX4 yX4_numberOfGood yX4_numberOfGood, Cond.code yX4_numberOfGood cX4_numberOfGood 3 (some .int), Cond.fieldLink RX4 9 "PickSlots$Warehouse" "weights" "[I", Cond.fieldLink RX4 15 "PickSlots$Warehouse" "capacities" "[I", Cond.fieldLink RX4 30 "PickSlots$Warehouse" "weekPicks" "[I", Cond.fieldLink RX4 33 "PickSlots$Warehouse" "unitsPicked" "[I", Cond.methodLink RX4 90 yX4_isGood, Cond.instanceMethod yX4_isGood, Cond.selects RX4 yX4_isGood yX4_isGood, Cond.code yX4_isGood cX4_isGood 2 (some .boolean), Cond.static yX5_isIn, Cond.code yX5_isIn cX5_isIn 3 (some .boolean), Cond.methodLink RX4 114 yX2_greatestHeightFor, Cond.static yX2_greatestHeightFor, Cond.code yX2_greatestHeightFor cX2_greatestHeightFor 3 (some .int), Cond.fieldLink RX2 13 "PickSlots$Slots" "HEAVIEST" "[I", Cond.methodLink RX4 96 yX4_demandOf, Cond.instanceMethod yX4_demandOf, Cond.selects RX4 yX4_demandOf yX4_demandOf, Cond.code yX4_demandOf cX4_demandOf 3 (some .int), Cond.fieldLink RX4 18 "PickSlots$Warehouse" "seasonDemands" "[I", Cond.methodLink RL 48 yX5_slotOf, Cond.instanceMethod yX5_slotOf] : List Cond), w ∈ wsL_law := fun w h => (goodIn_r (big := wsL_law) [Cond.instanceMethod yX4_numberOfGood, Cond.selects RX4 yX4_numberOfGood yX4_numberOfGood, Cond.code yX4_numberOfGood cX4_numberOfGood 3 (some .int), Cond.fieldLink RX4 9 "PickSlots$Warehouse" "weights" "[I", Cond.fieldLink RX4 15 "PickSlots$Warehouse" "capacities" "[I", Cond.fieldLink RX4 30 "PickSlots$Warehouse" "weekPicks" "[I", Cond.fieldLink RX4 33 "PickSlots$Warehouse" "unitsPicked" "[I", Cond.methodLink RX4 90 yX4_isGood, Cond.instanceMethod yX4_isGood, Cond.selects RX4 yX4_isGood yX4_isGood, Cond.code yX4_isGood cX4_isGood 2 (some .boolean), Cond.static yX5_isIn, Cond.code yX5_isIn cX5_isIn 3 (some .boolean), Cond.methodLink RX4 114 yX2_greatestHeightFor, Cond.static yX2_greatestHeightFor, Cond.code yX2_greatestHeightFor cX2_greatestHeightFor 3 (some .int), Cond.fieldLink RX2 13 "PickSlots$Slots" "HEAVIEST" "[I", Cond.methodLink RX4 96 yX4_demandOf, Cond.instanceMethod yX4_demandOf, Cond.selects RX4 yX4_demandOf yX4_demandOf, Cond.code yX4_demandOf cX4_demandOf 3 (some .int), Cond.fieldLink RX4 18 "PickSlots$Warehouse" "seasonDemands" "[I", Cond.methodLink RL 48 yX5_slotOf, Cond.instanceMethod yX5_slotOf] [327, 328, 329, 38, 39, 44, 45, 150, 151, 152, 153, 132, 133, 330, 331, 332, 149, 162, 163, 164, 165, 40, 376, 377] (by decide +kernel) (by decide +kernel) w h).1
set_option maxRecDepth 20000 in
theorem ggL_law_L_sound_4 : ∀ w ∈ ([Cond.selects RX5 yX5_slotOf yX5_slotOf, Cond.code yX5_slotOf cX5_slotOf 3 (some .int), Cond.methodLink RX5 67 yX4_numberOfSlot, Cond.instanceMethod yX4_numberOfSlot, Cond.selects RX4 yX4_numberOfSlot yX4_numberOfSlot, Cond.code yX4_numberOfSlot cX4_numberOfSlot 3 (some .int), Cond.fieldLink RX4 38 "PickSlots$Warehouse" "goodInSlot" "[I", Cond.methodLink RX4 111 yX2_walkTo, Cond.static yX2_walkTo, Cond.code yX2_walkTo cX2_walkTo 1 (some .int), Cond.fieldLink RX2 9 "PickSlots$Slots" "REACHES" "[I", Cond.methodLink RX4 82 yX2_heaviestAt, Cond.static yX2_heaviestAt, Cond.code yX2_heaviestAt cX2_heaviestAt 1 (some .int), Cond.methodLink RL 51 yX5_nearest, Cond.instanceMethod yX5_nearest, Cond.selects RX5 yX5_nearest yX5_nearest, Cond.code yX5_nearest cX5_nearest 2 (some .int), Cond.methodLink RX5 70 yX4_nearestFreeSlot, Cond.instanceMethod yX4_nearestFreeSlot, Cond.selects RX4 yX4_nearestFreeSlot yX4_nearestFreeSlot, Cond.code yX4_nearestFreeSlot cX4_nearestFreeSlot 5 (some .int), Cond.methodLink RX4 103 yX4_bears, Cond.instanceMethod yX4_bears] : List Cond), w ∈ wsL_law := fun w h => (goodIn_r (big := wsL_law) [Cond.selects RX5 yX5_slotOf yX5_slotOf, Cond.code yX5_slotOf cX5_slotOf 3 (some .int), Cond.methodLink RX5 67 yX4_numberOfSlot, Cond.instanceMethod yX4_numberOfSlot, Cond.selects RX4 yX4_numberOfSlot yX4_numberOfSlot, Cond.code yX4_numberOfSlot cX4_numberOfSlot 3 (some .int), Cond.fieldLink RX4 38 "PickSlots$Warehouse" "goodInSlot" "[I", Cond.methodLink RX4 111 yX2_walkTo, Cond.static yX2_walkTo, Cond.code yX2_walkTo cX2_walkTo 1 (some .int), Cond.fieldLink RX2 9 "PickSlots$Slots" "REACHES" "[I", Cond.methodLink RX4 82 yX2_heaviestAt, Cond.static yX2_heaviestAt, Cond.code yX2_heaviestAt cX2_heaviestAt 1 (some .int), Cond.methodLink RL 51 yX5_nearest, Cond.instanceMethod yX5_nearest, Cond.selects RX5 yX5_nearest yX5_nearest, Cond.code yX5_nearest cX5_nearest 2 (some .int), Cond.methodLink RX5 70 yX4_nearestFreeSlot, Cond.instanceMethod yX4_nearestFreeSlot, Cond.selects RX4 yX4_nearestFreeSlot yX4_nearestFreeSlot, Cond.code yX4_nearestFreeSlot cX4_nearestFreeSlot 5 (some .int), Cond.methodLink RX4 103 yX4_bears, Cond.instanceMethod yX4_bears] [378, 379, 380, 381, 382, 383, 46, 166, 167, 168, 169, 146, 147, 148, 384, 385, 386, 387, 388, 389, 390, 391, 142, 143] (by decide +kernel) (by decide +kernel) w h).1
set_option maxRecDepth 20000 in
theorem ggL_law_L_sound_5 : ∀ w ∈ ([Cond.selects RX4 yX4_bears yX4_bears, Cond.code yX4_bears cX4_bears 3 (some .boolean), Cond.methodLink RL 78 yX5_atBest, Cond.instanceMethod yX5_atBest, Cond.selects RX5 yX5_atBest yX5_atBest, Cond.code yX5_atBest cX5_atBest 2 (some .int), Cond.fieldLink RX5 25 "PickSlots" "demands" "LPickSlots$SortedRow;", Cond.fieldLink RX5 29 "PickSlots" "walks" "LPickSlots$SortedRow;", Cond.methodLink RX5 98 yX5_isSeason, Cond.static yX5_isSeason, Cond.code yX5_isSeason cX5_isSeason 1 (some .boolean), Cond.methodLink RX5 105 yX4_shortestWalk, Cond.instanceMethod yX4_shortestWalk, Cond.selects RX4 yX4_shortestWalk yX4_shortestWalk, Cond.code yX4_shortestWalk cX4_shortestWalk 6 (some .int), Cond.methodLink RX4 181 yX3_insert, Cond.instanceMethod yX3_insert, Cond.selects RX3 yX3_insert yX3_insert, Cond.initialized RX3, Cond.code yX3_insert cX3_insert 3 none, Cond.fieldLink RX3 15 "PickSlots$SortedRow" "size" "I", Cond.fieldLink RX3 9 "PickSlots$SortedRow" "values" "[I", Cond.methodLink RX4 185 yX3_valueAt, Cond.instanceMethod yX3_valueAt] : List Cond), w ∈ wsL_law := fun w h => (goodIn_r (big := wsL_law) [Cond.selects RX4 yX4_bears yX4_bears, Cond.code yX4_bears cX4_bears 3 (some .boolean), Cond.methodLink RL 78 yX5_atBest, Cond.instanceMethod yX5_atBest, Cond.selects RX5 yX5_atBest yX5_atBest, Cond.code yX5_atBest cX5_atBest 2 (some .int), Cond.fieldLink RX5 25 "PickSlots" "demands" "LPickSlots$SortedRow;", Cond.fieldLink RX5 29 "PickSlots" "walks" "LPickSlots$SortedRow;", Cond.methodLink RX5 98 yX5_isSeason, Cond.static yX5_isSeason, Cond.code yX5_isSeason cX5_isSeason 1 (some .boolean), Cond.methodLink RX5 105 yX4_shortestWalk, Cond.instanceMethod yX4_shortestWalk, Cond.selects RX4 yX4_shortestWalk yX4_shortestWalk, Cond.code yX4_shortestWalk cX4_shortestWalk 6 (some .int), Cond.methodLink RX4 181 yX3_insert, Cond.instanceMethod yX3_insert, Cond.selects RX3 yX3_insert yX3_insert, Cond.initialized RX3, Cond.code yX3_insert cX3_insert 3 none, Cond.fieldLink RX3 15 "PickSlots$SortedRow" "size" "I", Cond.fieldLink RX3 9 "PickSlots$SortedRow" "values" "[I", Cond.methodLink RX4 185 yX3_valueAt, Cond.instanceMethod yX3_valueAt] [144, 145, 422, 423, 424, 425, 19, 20, 420, 349, 350, 426, 427, 428, 429, 430, 431, 432, 18, 433, 434, 33, 435, 436] (by decide +kernel) (by decide +kernel) w h).1
set_option maxRecDepth 20000 in
theorem ggL_law_L_sound_6 : ∀ w ∈ ([Cond.selects RX3 yX3_valueAt yX3_valueAt, Cond.code yX3_valueAt cX3_valueAt 2 (some .int), Cond.methodLink RL 75 yX5_weekly, Cond.instanceMethod yX5_weekly, Cond.selects RX5 yX5_weekly yX5_weekly, Cond.code yX5_weekly cX5_weekly 2 (some .int), Cond.methodLink RX5 102 yX4_weeklyWalk, Cond.instanceMethod yX4_weeklyWalk, Cond.selects RX4 yX4_weeklyWalk yX4_weeklyWalk, Cond.code yX4_weeklyWalk cX4_weeklyWalk 4 (some .int), Cond.methodLink RL 13 yX5_account, Cond.instanceMethod yX5_account, Cond.selects RX5 yX5_account yX5_account, Cond.code yX5_account cX5_account 2 (some .int), Cond.methodLink RX5 109 yX4_numberOfAccount, Cond.instanceMethod yX4_numberOfAccount, Cond.selects RX4 yX4_numberOfAccount yX4_numberOfAccount, Cond.code yX4_numberOfAccount cX4_numberOfAccount 2 (some .int), Cond.fieldLink RX4 47 "PickSlots$Warehouse" "accounts" "LPickSlots$Accounts;", Cond.constant RX4 145 (100000000), Cond.methodLink RX4 188 yX4_weeklyWalk] : List Cond), w ∈ wsL_law := fun w h => (goodIn_r (big := wsL_law) [Cond.selects RX3 yX3_valueAt yX3_valueAt, Cond.code yX3_valueAt cX3_valueAt 2 (some .int), Cond.methodLink RL 75 yX5_weekly, Cond.instanceMethod yX5_weekly, Cond.selects RX5 yX5_weekly yX5_weekly, Cond.code yX5_weekly cX5_weekly 2 (some .int), Cond.methodLink RX5 102 yX4_weeklyWalk, Cond.instanceMethod yX4_weeklyWalk, Cond.selects RX4 yX4_weeklyWalk yX4_weeklyWalk, Cond.code yX4_weeklyWalk cX4_weeklyWalk 4 (some .int), Cond.methodLink RL 13 yX5_account, Cond.instanceMethod yX5_account, Cond.selects RX5 yX5_account yX5_account, Cond.code yX5_account cX5_account 2 (some .int), Cond.methodLink RX5 109 yX4_numberOfAccount, Cond.instanceMethod yX4_numberOfAccount, Cond.selects RX4 yX4_numberOfAccount yX4_numberOfAccount, Cond.code yX4_numberOfAccount cX4_numberOfAccount 2 (some .int), Cond.fieldLink RX4 47 "PickSlots$Warehouse" "accounts" "LPickSlots$Accounts;", Cond.constant RX4 145 (100000000), Cond.methodLink RX4 188 yX4_weeklyWalk] [437, 438, 416, 417, 418, 419, 421, 319, 320, 321, 310, 311, 312, 313, 314, 315, 316, 317, 51, 288, 318] (by decide +kernel) (by decide +kernel) w h).1
set_option maxRecDepth 20000 in
theorem ggL_law_L_sound_7 : ∀ w ∈ (wsX50 : List Cond), w ∈ wsL_law := fun w h => (goodIn_r (big := wsL_law) wsX50 [482, 483, 484, 485, 486, 487, 488, 489, 490] (by decide +kernel) (by decide +kernel) w h).1
set_option maxRecDepth 20000 in
theorem ggL_law_L_sound_8 : ∀ w ∈ (wsX10 : List Cond), w ∈ wsL_law := fun w h => (goodIn_r (big := wsL_law) wsX10 [491, 492, 493, 494, 495, 496] (by decide +kernel) (by decide +kernel) w h).1
set_option maxRecDepth 20000 in
theorem ggL_law_L_sound_9 : ∀ w ∈ (wsX40 : List Cond), w ∈ wsL_law := fun w h => (goodIn_r (big := wsL_law) wsX40 [499, 500, 501, 502, 503, 504, 505, 506, 507, 508, 509, 510, 511] (by decide +kernel) (by decide +kernel) w h).1
set_option maxRecDepth 20000 in
theorem ggL_law_L_sound_10 : ∀ w ∈ (wsX30 : List Cond), w ∈ wsL_law := fun w h => (goodIn_r (big := wsL_law) wsX30 [497, 498] (by decide +kernel) (by decide +kernel) w h).1
set_option maxRecDepth 20000 in
theorem ggL_law_L_sound_11 : ∀ w ∈ (wsX00 : List Cond), w ∈ wsL_law := fun w h => (goodIn_r (big := wsL_law) wsX00 [512, 513, 514, 515, 516, 517, 518] (by decide +kernel) (by decide +kernel) w h).1
set_option maxRecDepth 20000 in
theorem ggL_law_L_sound_m : ∀ w ∈ wsL_sound, w ∈ wsL_law := by
  show ∀ w ∈ (([Cond.code yL_sound cL_sound 13 (some .boolean)] : List Cond) ++ (([Cond.methodLink RL 19 yX5_count, Cond.instanceMethod yX5_count, Cond.selects RX5 yX5_count yX5_count, Cond.initialized RX5, Cond.code yX5_count cX5_count 2 (some .int), Cond.fieldLink RX5 112 "PickSlots" "states" "I", Cond.fieldLink RX5 18 "PickSlots" "text" "LPickSlots$OrderText;", Cond.fieldLink RX5 33 "PickSlots" "now" "LPickSlots$Warehouse;", Cond.methodLink RX5 119 yX4_numberOfWarehouse, Cond.instanceMethod yX4_numberOfWarehouse, Cond.selects RX4 yX4_numberOfWarehouse yX4_numberOfWarehouse, Cond.initialized RX4, Cond.code yX4_numberOfWarehouse cX4_numberOfWarehouse 2 (some .int), Cond.fieldLink RX4 59 "PickSlots$Warehouse" "goods" "I", Cond.fieldLink RX4 63 "PickSlots$Warehouse" "week" "I", Cond.fieldLink RX4 24 "PickSlots$Warehouse" "unitsInSlot" "[I", Cond.fieldLink RX4 27 "PickSlots$Warehouse" "unitsInStore" "[I", Cond.fieldLink RX4 41 "PickSlots$Warehouse" "settings" "[I", Cond.methodLink RX4 191 yX4_placedGoods, Cond.instanceMethod yX4_placedGoods, Cond.selects RX4 yX4_placedGoods yX4_placedGoods, Cond.code yX4_placedGoods cX4_placedGoods 4 (some .int), Cond.methodLink RX4 100 yX4_isPlaced, Cond.instanceMethod yX4_isPlaced] : List Cond) ++ (([Cond.selects RX4 yX4_isPlaced yX4_isPlaced, Cond.code yX4_isPlaced cX4_isPlaced 2 (some .boolean), Cond.fieldLink RX4 21 "PickSlots$Warehouse" "slotOfGood" "[I", Cond.methodLink RX4 78 yX2_isSlot, Cond.static yX2_isSlot, Cond.initialized RX2, Cond.code yX2_isSlot cX2_isSlot 1 (some .boolean), Cond.methodLink RX4 138 yX4_presentSeason, Cond.instanceMethod yX4_presentSeason, Cond.selects RX4 yX4_presentSeason yX4_presentSeason, Cond.code yX4_presentSeason cX4_presentSeason 1 (some .int), Cond.methodLink RX4 164 yX4_weeksLeft, Cond.instanceMethod yX4_weeksLeft, Cond.selects RX4 yX4_weeksLeft yX4_weeksLeft, Cond.code yX4_weeksLeft cX4_weeksLeft 1 (some .int), Cond.methodLink RX4 195 yX4_sumOf, Cond.instanceMethod yX4_sumOf, Cond.selects RX4 yX4_sumOf yX4_sumOf, Cond.code yX4_sumOf cX4_sumOf 4 (some .int), Cond.methodLink RL 22 yX5_goodOf, Cond.instanceMethod yX5_goodOf, Cond.selects RX5 yX5_goodOf yX5_goodOf, Cond.code yX5_goodOf cX5_goodOf 3 (some .int), Cond.methodLink RX5 64 yX4_numberOfGood] : List Cond) ++ (([Cond.instanceMethod yX4_numberOfGood, Cond.selects RX4 yX4_numberOfGood yX4_numberOfGood, Cond.code yX4_numberOfGood cX4_numberOfGood 3 (some .int), Cond.fieldLink RX4 9 "PickSlots$Warehouse" "weights" "[I", Cond.fieldLink RX4 15 "PickSlots$Warehouse" "capacities" "[I", Cond.fieldLink RX4 30 "PickSlots$Warehouse" "weekPicks" "[I", Cond.fieldLink RX4 33 "PickSlots$Warehouse" "unitsPicked" "[I", Cond.methodLink RX4 90 yX4_isGood, Cond.instanceMethod yX4_isGood, Cond.selects RX4 yX4_isGood yX4_isGood, Cond.code yX4_isGood cX4_isGood 2 (some .boolean), Cond.static yX5_isIn, Cond.code yX5_isIn cX5_isIn 3 (some .boolean), Cond.methodLink RX4 114 yX2_greatestHeightFor, Cond.static yX2_greatestHeightFor, Cond.code yX2_greatestHeightFor cX2_greatestHeightFor 3 (some .int), Cond.fieldLink RX2 13 "PickSlots$Slots" "HEAVIEST" "[I", Cond.methodLink RX4 96 yX4_demandOf, Cond.instanceMethod yX4_demandOf, Cond.selects RX4 yX4_demandOf yX4_demandOf, Cond.code yX4_demandOf cX4_demandOf 3 (some .int), Cond.fieldLink RX4 18 "PickSlots$Warehouse" "seasonDemands" "[I", Cond.methodLink RL 48 yX5_slotOf, Cond.instanceMethod yX5_slotOf] : List Cond) ++ (([Cond.selects RX5 yX5_slotOf yX5_slotOf, Cond.code yX5_slotOf cX5_slotOf 3 (some .int), Cond.methodLink RX5 67 yX4_numberOfSlot, Cond.instanceMethod yX4_numberOfSlot, Cond.selects RX4 yX4_numberOfSlot yX4_numberOfSlot, Cond.code yX4_numberOfSlot cX4_numberOfSlot 3 (some .int), Cond.fieldLink RX4 38 "PickSlots$Warehouse" "goodInSlot" "[I", Cond.methodLink RX4 111 yX2_walkTo, Cond.static yX2_walkTo, Cond.code yX2_walkTo cX2_walkTo 1 (some .int), Cond.fieldLink RX2 9 "PickSlots$Slots" "REACHES" "[I", Cond.methodLink RX4 82 yX2_heaviestAt, Cond.static yX2_heaviestAt, Cond.code yX2_heaviestAt cX2_heaviestAt 1 (some .int), Cond.methodLink RL 51 yX5_nearest, Cond.instanceMethod yX5_nearest, Cond.selects RX5 yX5_nearest yX5_nearest, Cond.code yX5_nearest cX5_nearest 2 (some .int), Cond.methodLink RX5 70 yX4_nearestFreeSlot, Cond.instanceMethod yX4_nearestFreeSlot, Cond.selects RX4 yX4_nearestFreeSlot yX4_nearestFreeSlot, Cond.code yX4_nearestFreeSlot cX4_nearestFreeSlot 5 (some .int), Cond.methodLink RX4 103 yX4_bears, Cond.instanceMethod yX4_bears] : List Cond) ++ (([Cond.selects RX4 yX4_bears yX4_bears, Cond.code yX4_bears cX4_bears 3 (some .boolean), Cond.methodLink RL 78 yX5_atBest, Cond.instanceMethod yX5_atBest, Cond.selects RX5 yX5_atBest yX5_atBest, Cond.code yX5_atBest cX5_atBest 2 (some .int), Cond.fieldLink RX5 25 "PickSlots" "demands" "LPickSlots$SortedRow;", Cond.fieldLink RX5 29 "PickSlots" "walks" "LPickSlots$SortedRow;", Cond.methodLink RX5 98 yX5_isSeason, Cond.static yX5_isSeason, Cond.code yX5_isSeason cX5_isSeason 1 (some .boolean), Cond.methodLink RX5 105 yX4_shortestWalk, Cond.instanceMethod yX4_shortestWalk, Cond.selects RX4 yX4_shortestWalk yX4_shortestWalk, Cond.code yX4_shortestWalk cX4_shortestWalk 6 (some .int), Cond.methodLink RX4 181 yX3_insert, Cond.instanceMethod yX3_insert, Cond.selects RX3 yX3_insert yX3_insert, Cond.initialized RX3, Cond.code yX3_insert cX3_insert 3 none, Cond.fieldLink RX3 15 "PickSlots$SortedRow" "size" "I", Cond.fieldLink RX3 9 "PickSlots$SortedRow" "values" "[I", Cond.methodLink RX4 185 yX3_valueAt, Cond.instanceMethod yX3_valueAt] : List Cond) ++ (([Cond.selects RX3 yX3_valueAt yX3_valueAt, Cond.code yX3_valueAt cX3_valueAt 2 (some .int), Cond.methodLink RL 75 yX5_weekly, Cond.instanceMethod yX5_weekly, Cond.selects RX5 yX5_weekly yX5_weekly, Cond.code yX5_weekly cX5_weekly 2 (some .int), Cond.methodLink RX5 102 yX4_weeklyWalk, Cond.instanceMethod yX4_weeklyWalk, Cond.selects RX4 yX4_weeklyWalk yX4_weeklyWalk, Cond.code yX4_weeklyWalk cX4_weeklyWalk 4 (some .int), Cond.methodLink RL 13 yX5_account, Cond.instanceMethod yX5_account, Cond.selects RX5 yX5_account yX5_account, Cond.code yX5_account cX5_account 2 (some .int), Cond.methodLink RX5 109 yX4_numberOfAccount, Cond.instanceMethod yX4_numberOfAccount, Cond.selects RX4 yX4_numberOfAccount yX4_numberOfAccount, Cond.code yX4_numberOfAccount cX4_numberOfAccount 2 (some .int), Cond.fieldLink RX4 47 "PickSlots$Warehouse" "accounts" "LPickSlots$Accounts;", Cond.constant RX4 145 (100000000), Cond.methodLink RX4 188 yX4_weeklyWalk] : List Cond) ++ ((wsX50 : List Cond) ++ ((wsX10 : List Cond) ++ ((wsX40 : List Cond) ++ ((wsX30 : List Cond) ++ ((wsX00 : List Cond))))))))))))), w ∈ wsL_law
  exact mem_app ggL_law_L_sound_0 (mem_app ggL_law_L_sound_1 (mem_app ggL_law_L_sound_2 (mem_app ggL_law_L_sound_3 (mem_app ggL_law_L_sound_4 (mem_app ggL_law_L_sound_5 (mem_app ggL_law_L_sound_6 (mem_app ggL_law_L_sound_7 (mem_app ggL_law_L_sound_8 (mem_app ggL_law_L_sound_9 (mem_app ggL_law_L_sound_10 (ggL_law_L_sound_11)))))))))))
set_option maxRecDepth 20000 in
theorem ggL_law_L_sound : GoodIn wsL_law wsL_sound := goodIn_sub ggL_law_L_sound_m (by decide +kernel)
set_option maxRecDepth 20000 in
theorem gL_law_L_sound : GoodIn wsL_law (va_wsS RL 102 yL_sound wsL_sound) := goodIn_app (goodIn_of _ (by decide +kernel)) ggL_law_L_sound
set_option maxRecDepth 20000 in
theorem ggL_law_L_cell : GoodIn wsL_law wsL_cell := goodIn_r _ [462, 463] (by decide +kernel) (by decide +kernel)
set_option maxRecDepth 20000 in
theorem gL_law_L_cell : GoodIn wsL_law (va_wsS RL 117 yL_cell wsL_cell) := goodIn_app (goodIn_of _ (by decide +kernel)) ggL_law_L_cell
set_option maxRecDepth 20000 in
theorem ggL_law_L_up : GoodIn wsL_law wsL_up := goodIn_r _ [466, 467] (by decide +kernel) (by decide +kernel)
set_option maxRecDepth 20000 in
theorem gL_law_L_up : GoodIn wsL_law (va_wsS RL 91 yL_up wsL_up) := goodIn_app (goodIn_of _ (by decide +kernel)) ggL_law_L_up
set_option maxRecDepth 20000 in
theorem ggL_law_X5_good : GoodIn wsL_law wsX5_good := goodIn_r _ [336, 24, 98, 99, 100, 2, 101, 23, 102, 103, 104, 22, 105, 38, 39, 40, 41, 42, 43, 44, 45, 46, 47, 51, 68, 69, 106, 107, 108, 109, 110, 111, 112, 113, 114, 115, 116, 117, 118, 119, 50, 120, 121, 122, 123, 124, 125, 126, 127, 337, 338, 339, 340, 132, 133, 188, 189, 190, 191, 192, 193, 194, 195, 59, 11, 196, 197, 198, 199, 482, 483, 484, 485, 486, 487, 488, 489, 490, 499, 500, 501, 502, 503, 504, 505, 506, 507, 508, 509, 510, 511, 512, 513, 514, 515, 516, 517, 518] (by decide +kernel) (by decide +kernel)
set_option maxRecDepth 20000 in
theorem gL_law_X5_good : GoodIn wsL_law (wsV RL 32 RX5 yX5_good wsX5_good) := goodIn_app (goodIn_of _ (by decide +kernel)) ggL_law_X5_good
set_option maxRecDepth 20000 in
theorem ggL_law_X5_goodOf : GoodIn wsL_law wsX5_goodOf := goodIn_r _ [325, 23, 326, 327, 328, 22, 329, 38, 39, 41, 42, 43, 44, 45, 150, 151, 152, 153, 68, 132, 2, 133, 74, 75, 76, 77, 78, 79, 80, 81, 330, 331, 332, 149, 162, 163, 164, 165, 40, 482, 483, 484, 485, 486, 487, 488, 489, 490, 499, 500, 501, 502, 503, 504, 505, 506, 507, 508, 509, 510, 511] (by decide +kernel) (by decide +kernel)
set_option maxRecDepth 20000 in
theorem gL_law_X5_goodOf : GoodIn wsL_law (wsV RL 22 RX5 yX5_goodOf wsX5_goodOf) := goodIn_app (goodIn_of _ (by decide +kernel)) ggL_law_X5_goodOf
set_option maxRecDepth 20000 in
theorem ggL_law_X5_nearest : GoodIn wsL_law wsX5_nearest := goodIn_r _ [387, 23, 388, 389, 390, 22, 391, 46, 150, 151, 152, 153, 68, 142, 143, 144, 145, 38, 146, 147, 80, 148, 149, 166, 167, 168, 169, 482, 483, 484, 485, 486, 487, 488, 489, 490, 499, 500, 501, 502, 503, 504, 505, 506, 507, 508, 509, 510, 511] (by decide +kernel) (by decide +kernel)
set_option maxRecDepth 20000 in
theorem gL_law_X5_nearest : GoodIn wsL_law (wsV RL 51 RX5 yX5_nearest wsX5_nearest) := goodIn_app (goodIn_of _ (by decide +kernel)) ggL_law_X5_nearest
set_option maxRecDepth 20000 in
theorem ggL_law_X5_deliver : GoodIn wsL_law wsX5_deliver := goodIn_r _ [354, 24, 98, 99, 100, 2, 101, 23, 102, 103, 104, 22, 105, 38, 39, 40, 41, 42, 43, 44, 45, 46, 47, 51, 68, 69, 106, 107, 108, 109, 110, 111, 112, 113, 114, 115, 116, 117, 118, 119, 50, 120, 121, 122, 123, 124, 125, 126, 127, 355, 356, 357, 358, 359, 150, 151, 152, 153, 132, 133, 188, 189, 190, 191, 192, 193, 194, 195, 59, 11, 196, 197, 198, 199, 482, 483, 484, 485, 486, 487, 488, 489, 490, 499, 500, 501, 502, 503, 504, 505, 506, 507, 508, 509, 510, 511, 512, 513, 514, 515, 516, 517, 518] (by decide +kernel) (by decide +kernel)
set_option maxRecDepth 20000 in
theorem gL_law_X5_deliver : GoodIn wsL_law (wsV RL 39 RX5 yX5_deliver wsX5_deliver) := goodIn_app (goodIn_of _ (by decide +kernel)) ggL_law_X5_deliver
set_option maxRecDepth 20000 in
theorem ggL_law_X5_demand : GoodIn wsL_law wsX5_demand := goodIn_r _ [344, 24, 98, 99, 100, 2, 101, 23, 102, 103, 104, 22, 105, 38, 39, 40, 41, 42, 43, 44, 45, 46, 47, 51, 68, 69, 106, 107, 108, 109, 110, 111, 112, 113, 114, 115, 116, 117, 118, 119, 50, 120, 121, 122, 123, 124, 125, 126, 127, 345, 346, 347, 348, 150, 151, 152, 153, 349, 350, 132, 133, 162, 163, 164, 165, 188, 189, 190, 191, 192, 193, 194, 195, 59, 11, 196, 197, 198, 199, 482, 483, 484, 485, 486, 487, 488, 489, 490, 499, 500, 501, 502, 503, 504, 505, 506, 507, 508, 509, 510, 511, 512, 513, 514, 515, 516, 517, 518] (by decide +kernel) (by decide +kernel)
set_option maxRecDepth 20000 in
theorem gL_law_X5_demand : GoodIn wsL_law (wsV RL 35 RX5 yX5_demand wsX5_demand) := goodIn_app (goodIn_of _ (by decide +kernel)) ggL_law_X5_demand
set_option maxRecDepth 20000 in
theorem ggL_law_X5_place : GoodIn wsL_law wsX5_place := goodIn_r _ [363, 24, 98, 99, 100, 2, 101, 23, 102, 103, 104, 22, 105, 38, 39, 40, 41, 42, 43, 44, 45, 46, 47, 51, 68, 69, 106, 107, 108, 109, 110, 111, 112, 113, 114, 115, 116, 117, 118, 119, 50, 120, 121, 122, 123, 124, 125, 126, 127, 364, 365, 366, 367, 150, 151, 152, 153, 78, 79, 80, 81, 74, 75, 76, 77, 142, 143, 144, 145, 146, 147, 148, 149, 184, 185, 186, 187, 166, 167, 168, 169, 188, 189, 190, 191, 192, 193, 194, 195, 59, 11, 196, 197, 198, 199, 482, 483, 484, 485, 486, 487, 488, 489, 490, 499, 500, 501, 502, 503, 504, 505, 506, 507, 508, 509, 510, 511, 512, 513, 514, 515, 516, 517, 518] (by decide +kernel) (by decide +kernel)
set_option maxRecDepth 20000 in
theorem gL_law_X5_place : GoodIn wsL_law (wsV RL 42 RX5 yX5_place wsX5_place) := goodIn_app (goodIn_of _ (by decide +kernel)) ggL_law_X5_place
set_option maxRecDepth 20000 in
theorem ggL_law_X5_slotOf : GoodIn wsL_law wsX5_slotOf := goodIn_r _ [379, 23, 380, 381, 382, 22, 383, 46, 78, 79, 80, 81, 150, 151, 152, 153, 68, 166, 167, 168, 169, 146, 147, 148, 149, 482, 483, 484, 485, 486, 487, 488, 489, 490, 499, 500, 501, 502, 503, 504, 505, 506, 507, 508, 509, 510, 511] (by decide +kernel) (by decide +kernel)
set_option maxRecDepth 20000 in
theorem gL_law_X5_slotOf : GoodIn wsL_law (wsV RL 48 RX5 yX5_slotOf wsX5_slotOf) := goodIn_app (goodIn_of _ (by decide +kernel)) ggL_law_X5_slotOf
set_option maxRecDepth 20000 in
theorem ggL_law_L_worths : GoodIn wsL_law wsL_worths := goodIn_r _ [470, 471, 60, 61, 62, 2, 63, 59, 15, 23, 64, 65, 66, 22, 67, 68, 69, 42, 43, 47, 70, 71, 72, 73, 74, 75, 76, 77, 41, 78, 79, 80, 81, 82, 83, 84, 85, 86, 87, 88, 89, 90, 91, 92, 93, 408, 409, 410, 411, 412, 413, 414, 415, 288, 150, 151, 152, 153, 132, 133, 138, 139, 140, 141, 46, 142, 143, 144, 145, 38, 146, 147, 148, 149, 170, 171, 172, 173, 174, 175, 176, 177, 178, 111, 179, 169, 154, 155, 156, 157, 158, 159, 160, 161, 162, 163, 164, 165, 40, 166, 167, 168, 376, 377, 378, 379, 380, 381, 382, 383, 322, 323, 324, 325, 326, 327, 328, 329, 39, 44, 45, 330, 331, 332, 200, 201, 202, 203, 204, 205, 206, 207, 134, 135, 136, 137, 482, 483, 484, 485, 486, 487, 488, 489, 490, 491, 492, 493, 494, 495, 496, 499, 500, 501, 502, 503, 504, 505, 506, 507, 508, 509, 510, 511] (by decide +kernel) (by decide +kernel)
set_option maxRecDepth 20000 in
theorem gL_law_L_worths : GoodIn wsL_law (va_wsS RL 121 yL_worths wsL_worths) := goodIn_app (goodIn_of _ (by decide +kernel)) ggL_law_L_worths
set_option maxRecDepth 20000 in
theorem ggL_law_L_acts_0 : ∀ w ∈ ([Cond.code yL_acts cL_acts 13 (some .boolean)] : List Cond), w ∈ wsL_law := List.forall_mem_singleton.mpr (List.mem_of_getElem? (i := 474) rfl)
set_option maxRecDepth 20000 in
theorem ggL_law_L_acts_1 : ∀ w ∈ ([Cond.constant RL 90 (100000000), Cond.methodLink RL 19 yX5_count, Cond.instanceMethod yX5_count, Cond.selects RX5 yX5_count yX5_count, Cond.initialized RX5, Cond.code yX5_count cX5_count 2 (some .int), Cond.fieldLink RX5 112 "PickSlots" "states" "I", Cond.fieldLink RX5 18 "PickSlots" "text" "LPickSlots$OrderText;", Cond.fieldLink RX5 33 "PickSlots" "now" "LPickSlots$Warehouse;", Cond.methodLink RX5 119 yX4_numberOfWarehouse, Cond.instanceMethod yX4_numberOfWarehouse, Cond.selects RX4 yX4_numberOfWarehouse yX4_numberOfWarehouse, Cond.initialized RX4, Cond.code yX4_numberOfWarehouse cX4_numberOfWarehouse 2 (some .int), Cond.fieldLink RX4 59 "PickSlots$Warehouse" "goods" "I", Cond.fieldLink RX4 63 "PickSlots$Warehouse" "week" "I", Cond.fieldLink RX4 24 "PickSlots$Warehouse" "unitsInSlot" "[I", Cond.fieldLink RX4 27 "PickSlots$Warehouse" "unitsInStore" "[I", Cond.fieldLink RX4 41 "PickSlots$Warehouse" "settings" "[I", Cond.methodLink RX4 191 yX4_placedGoods, Cond.instanceMethod yX4_placedGoods, Cond.selects RX4 yX4_placedGoods yX4_placedGoods, Cond.code yX4_placedGoods cX4_placedGoods 4 (some .int), Cond.methodLink RX4 100 yX4_isPlaced] : List Cond), w ∈ wsL_law := fun w h => (goodIn_r (big := wsL_law) [Cond.constant RL 90 (100000000), Cond.methodLink RL 19 yX5_count, Cond.instanceMethod yX5_count, Cond.selects RX5 yX5_count yX5_count, Cond.initialized RX5, Cond.code yX5_count cX5_count 2 (some .int), Cond.fieldLink RX5 112 "PickSlots" "states" "I", Cond.fieldLink RX5 18 "PickSlots" "text" "LPickSlots$OrderText;", Cond.fieldLink RX5 33 "PickSlots" "now" "LPickSlots$Warehouse;", Cond.methodLink RX5 119 yX4_numberOfWarehouse, Cond.instanceMethod yX4_numberOfWarehouse, Cond.selects RX4 yX4_numberOfWarehouse yX4_numberOfWarehouse, Cond.initialized RX4, Cond.code yX4_numberOfWarehouse cX4_numberOfWarehouse 2 (some .int), Cond.fieldLink RX4 59 "PickSlots$Warehouse" "goods" "I", Cond.fieldLink RX4 63 "PickSlots$Warehouse" "week" "I", Cond.fieldLink RX4 24 "PickSlots$Warehouse" "unitsInSlot" "[I", Cond.fieldLink RX4 27 "PickSlots$Warehouse" "unitsInStore" "[I", Cond.fieldLink RX4 41 "PickSlots$Warehouse" "settings" "[I", Cond.methodLink RX4 191 yX4_placedGoods, Cond.instanceMethod yX4_placedGoods, Cond.selects RX4 yX4_placedGoods yX4_placedGoods, Cond.code yX4_placedGoods cX4_placedGoods 4 (some .int), Cond.methodLink RX4 100 yX4_isPlaced] [471, 60, 61, 62, 2, 63, 59, 15, 23, 64, 65, 66, 22, 67, 68, 69, 42, 43, 47, 70, 71, 72, 73, 74] (by decide +kernel) (by decide +kernel) w h).1
set_option maxRecDepth 20000 in
theorem ggL_law_L_acts_2 : ∀ w ∈ ([Cond.instanceMethod yX4_isPlaced, Cond.selects RX4 yX4_isPlaced yX4_isPlaced, Cond.code yX4_isPlaced cX4_isPlaced 2 (some .boolean), Cond.fieldLink RX4 21 "PickSlots$Warehouse" "slotOfGood" "[I", Cond.methodLink RX4 78 yX2_isSlot, Cond.static yX2_isSlot, Cond.initialized RX2, Cond.code yX2_isSlot cX2_isSlot 1 (some .boolean), Cond.methodLink RX4 138 yX4_presentSeason, Cond.instanceMethod yX4_presentSeason, Cond.selects RX4 yX4_presentSeason yX4_presentSeason, Cond.code yX4_presentSeason cX4_presentSeason 1 (some .int), Cond.methodLink RX4 164 yX4_weeksLeft, Cond.instanceMethod yX4_weeksLeft, Cond.selects RX4 yX4_weeksLeft yX4_weeksLeft, Cond.code yX4_weeksLeft cX4_weeksLeft 1 (some .int), Cond.methodLink RX4 195 yX4_sumOf, Cond.instanceMethod yX4_sumOf, Cond.selects RX4 yX4_sumOf yX4_sumOf, Cond.code yX4_sumOf cX4_sumOf 4 (some .int), Cond.methodLink RL 26 yL_mark, Cond.static yL_mark, Cond.initialized RL, Cond.code yL_mark cL_mark 5 (some .long)] : List Cond), w ∈ wsL_law := fun w h => (goodIn_r (big := wsL_law) [Cond.instanceMethod yX4_isPlaced, Cond.selects RX4 yX4_isPlaced yX4_isPlaced, Cond.code yX4_isPlaced cX4_isPlaced 2 (some .boolean), Cond.fieldLink RX4 21 "PickSlots$Warehouse" "slotOfGood" "[I", Cond.methodLink RX4 78 yX2_isSlot, Cond.static yX2_isSlot, Cond.initialized RX2, Cond.code yX2_isSlot cX2_isSlot 1 (some .boolean), Cond.methodLink RX4 138 yX4_presentSeason, Cond.instanceMethod yX4_presentSeason, Cond.selects RX4 yX4_presentSeason yX4_presentSeason, Cond.code yX4_presentSeason cX4_presentSeason 1 (some .int), Cond.methodLink RX4 164 yX4_weeksLeft, Cond.instanceMethod yX4_weeksLeft, Cond.selects RX4 yX4_weeksLeft yX4_weeksLeft, Cond.code yX4_weeksLeft cX4_weeksLeft 1 (some .int), Cond.methodLink RX4 195 yX4_sumOf, Cond.instanceMethod yX4_sumOf, Cond.selects RX4 yX4_sumOf yX4_sumOf, Cond.code yX4_sumOf cX4_sumOf 4 (some .int), Cond.methodLink RL 26 yL_mark, Cond.static yL_mark, Cond.initialized RL, Cond.code yL_mark cL_mark 5 (some .long)] [75, 76, 77, 41, 78, 79, 80, 81, 82, 83, 84, 85, 86, 87, 88, 89, 90, 91, 92, 93, 305, 306, 303, 307] (by decide +kernel) (by decide +kernel) w h).1
set_option maxRecDepth 20000 in
theorem ggL_law_L_acts_3 : ∀ w ∈ ([Cond.constantLong RL 9 (17), Cond.constantLong RL 11 (31), Cond.methodLink RL 13 yX5_account, Cond.instanceMethod yX5_account, Cond.selects RX5 yX5_account yX5_account, Cond.code yX5_account cX5_account 2 (some .int), Cond.methodLink RX5 109 yX4_numberOfAccount, Cond.instanceMethod yX4_numberOfAccount, Cond.selects RX4 yX4_numberOfAccount yX4_numberOfAccount, Cond.code yX4_numberOfAccount cX4_numberOfAccount 2 (some .int), Cond.fieldLink RX4 47 "PickSlots$Warehouse" "accounts" "LPickSlots$Accounts;", Cond.constant RX4 145 (100000000), Cond.methodLink RX4 188 yX4_weeklyWalk, Cond.instanceMethod yX4_weeklyWalk, Cond.selects RX4 yX4_weeklyWalk yX4_weeklyWalk, Cond.code yX4_weeklyWalk cX4_weeklyWalk 4 (some .int), Cond.methodLink RX4 96 yX4_demandOf, Cond.instanceMethod yX4_demandOf, Cond.selects RX4 yX4_demandOf yX4_demandOf, Cond.code yX4_demandOf cX4_demandOf 3 (some .int), Cond.fieldLink RX4 18 "PickSlots$Warehouse" "seasonDemands" "[I", Cond.methodLink RX4 111 yX2_walkTo, Cond.static yX2_walkTo, Cond.code yX2_walkTo cX2_walkTo 1 (some .int)] : List Cond), w ∈ wsL_law := fun w h => (goodIn_r (big := wsL_law) [Cond.constantLong RL 9 (17), Cond.constantLong RL 11 (31), Cond.methodLink RL 13 yX5_account, Cond.instanceMethod yX5_account, Cond.selects RX5 yX5_account yX5_account, Cond.code yX5_account cX5_account 2 (some .int), Cond.methodLink RX5 109 yX4_numberOfAccount, Cond.instanceMethod yX4_numberOfAccount, Cond.selects RX4 yX4_numberOfAccount yX4_numberOfAccount, Cond.code yX4_numberOfAccount cX4_numberOfAccount 2 (some .int), Cond.fieldLink RX4 47 "PickSlots$Warehouse" "accounts" "LPickSlots$Accounts;", Cond.constant RX4 145 (100000000), Cond.methodLink RX4 188 yX4_weeklyWalk, Cond.instanceMethod yX4_weeklyWalk, Cond.selects RX4 yX4_weeklyWalk yX4_weeklyWalk, Cond.code yX4_weeklyWalk cX4_weeklyWalk 4 (some .int), Cond.methodLink RX4 96 yX4_demandOf, Cond.instanceMethod yX4_demandOf, Cond.selects RX4 yX4_demandOf yX4_demandOf, Cond.code yX4_demandOf cX4_demandOf 3 (some .int), Cond.fieldLink RX4 18 "PickSlots$Warehouse" "seasonDemands" "[I", Cond.methodLink RX4 111 yX2_walkTo, Cond.static yX2_walkTo, Cond.code yX2_walkTo cX2_walkTo 1 (some .int)] [308, 309, 310, 311, 312, 313, 314, 315, 316, 317, 51, 288, 318, 319, 320, 321, 162, 163, 164, 165, 40, 166, 167, 168] (by decide +kernel) (by decide +kernel) w h).1
set_option maxRecDepth 20000 in
theorem ggL_law_L_acts_4 : ∀ w ∈ ([Cond.fieldLink RX2 9 "PickSlots$Slots" "REACHES" "[I", Cond.methodLink RL 22 yX5_goodOf, Cond.instanceMethod yX5_goodOf, Cond.selects RX5 yX5_goodOf yX5_goodOf, Cond.code yX5_goodOf cX5_goodOf 3 (some .int), Cond.methodLink RX5 64 yX4_numberOfGood, Cond.instanceMethod yX4_numberOfGood, Cond.selects RX4 yX4_numberOfGood yX4_numberOfGood, Cond.code yX4_numberOfGood cX4_numberOfGood 3 (some .int), Cond.fieldLink RX4 9 "PickSlots$Warehouse" "weights" "[I", Cond.fieldLink RX4 15 "PickSlots$Warehouse" "capacities" "[I", Cond.fieldLink RX4 30 "PickSlots$Warehouse" "weekPicks" "[I", Cond.fieldLink RX4 33 "PickSlots$Warehouse" "unitsPicked" "[I", Cond.methodLink RX4 90 yX4_isGood, Cond.instanceMethod yX4_isGood, Cond.selects RX4 yX4_isGood yX4_isGood, Cond.code yX4_isGood cX4_isGood 2 (some .boolean), Cond.static yX5_isIn, Cond.code yX5_isIn cX5_isIn 3 (some .boolean), Cond.methodLink RX4 114 yX2_greatestHeightFor, Cond.static yX2_greatestHeightFor, Cond.code yX2_greatestHeightFor cX2_greatestHeightFor 3 (some .int), Cond.fieldLink RX2 13 "PickSlots$Slots" "HEAVIEST" "[I", Cond.methodLink RL 75 yX5_weekly] : List Cond), w ∈ wsL_law := fun w h => (goodIn_r (big := wsL_law) [Cond.fieldLink RX2 9 "PickSlots$Slots" "REACHES" "[I", Cond.methodLink RL 22 yX5_goodOf, Cond.instanceMethod yX5_goodOf, Cond.selects RX5 yX5_goodOf yX5_goodOf, Cond.code yX5_goodOf cX5_goodOf 3 (some .int), Cond.methodLink RX5 64 yX4_numberOfGood, Cond.instanceMethod yX4_numberOfGood, Cond.selects RX4 yX4_numberOfGood yX4_numberOfGood, Cond.code yX4_numberOfGood cX4_numberOfGood 3 (some .int), Cond.fieldLink RX4 9 "PickSlots$Warehouse" "weights" "[I", Cond.fieldLink RX4 15 "PickSlots$Warehouse" "capacities" "[I", Cond.fieldLink RX4 30 "PickSlots$Warehouse" "weekPicks" "[I", Cond.fieldLink RX4 33 "PickSlots$Warehouse" "unitsPicked" "[I", Cond.methodLink RX4 90 yX4_isGood, Cond.instanceMethod yX4_isGood, Cond.selects RX4 yX4_isGood yX4_isGood, Cond.code yX4_isGood cX4_isGood 2 (some .boolean), Cond.static yX5_isIn, Cond.code yX5_isIn cX5_isIn 3 (some .boolean), Cond.methodLink RX4 114 yX2_greatestHeightFor, Cond.static yX2_greatestHeightFor, Cond.code yX2_greatestHeightFor cX2_greatestHeightFor 3 (some .int), Cond.fieldLink RX2 13 "PickSlots$Slots" "HEAVIEST" "[I", Cond.methodLink RL 75 yX5_weekly] [169, 322, 323, 324, 325, 326, 327, 328, 329, 38, 39, 44, 45, 150, 151, 152, 153, 132, 133, 330, 331, 332, 149, 416] (by decide +kernel) (by decide +kernel) w h).1
set_option maxRecDepth 20000 in
theorem ggL_law_L_acts_5 : ∀ w ∈ ([Cond.instanceMethod yX5_weekly, Cond.selects RX5 yX5_weekly yX5_weekly, Cond.code yX5_weekly cX5_weekly 2 (some .int), Cond.methodLink RX5 98 yX5_isSeason, Cond.static yX5_isSeason, Cond.code yX5_isSeason cX5_isSeason 1 (some .boolean), Cond.methodLink RX5 102 yX4_weeklyWalk, Cond.methodLink RL 91 yL_up, Cond.static yL_up, Cond.code yL_up cL_up 2 (some .int), Cond.constant RL 8 (2147483647), Cond.methodLink RL 98 yL_act, Cond.static yL_act] : List Cond), w ∈ wsL_law := fun w h => (goodIn_r (big := wsL_law) [Cond.instanceMethod yX5_weekly, Cond.selects RX5 yX5_weekly yX5_weekly, Cond.code yX5_weekly cX5_weekly 2 (some .int), Cond.methodLink RX5 98 yX5_isSeason, Cond.static yX5_isSeason, Cond.code yX5_isSeason cX5_isSeason 1 (some .boolean), Cond.methodLink RX5 102 yX4_weeklyWalk, Cond.methodLink RL 91 yL_up, Cond.static yL_up, Cond.code yL_up cL_up 2 (some .int), Cond.constant RL 8 (2147483647), Cond.methodLink RL 98 yL_act, Cond.static yL_act] [417, 418, 419, 420, 349, 350, 421, 464, 465, 466, 467, 475, 476] (by decide +kernel) (by decide +kernel) w h).1
set_option maxRecDepth 20000 in
theorem ggL_law_L_acts_6 : ∀ w ∈ ([Cond.code yL_act cL_act 8 (some .int)] : List Cond), w ∈ wsL_law := List.forall_mem_singleton.mpr (List.mem_of_getElem? (i := 477) rfl)
set_option maxRecDepth 20000 in
theorem ggL_law_L_acts_7 : ∀ w ∈ ([Cond.methodLink RL 54 yX5_pick, Cond.instanceMethod yX5_pick, Cond.selects RX5 yX5_pick yX5_pick, Cond.code yX5_pick cX5_pick 3 (some .int), Cond.fieldLink RX5 37 "PickSlots" "trial" "LPickSlots$Warehouse;", Cond.methodLink RX5 40 yX5_startTrial, Cond.instanceMethod yX5_startTrial, Cond.selects RX5 yX5_startTrial yX5_startTrial, Cond.code yX5_startTrial cX5_startTrial 1 none, Cond.methodLink RX5 137 yX4_copyFrom, Cond.instanceMethod yX4_copyFrom, Cond.selects RX4 yX4_copyFrom yX4_copyFrom, Cond.code yX4_copyFrom cX4_copyFrom 2 none, Cond.fieldLink RX4 38 "PickSlots$Warehouse" "goodInSlot" "[I", Cond.methodLink RX4 51 yX4_copyRow, Cond.static yX4_copyRow, Cond.code yX4_copyRow cX4_copyRow 2 none, Cond.methodLink RX4 66 Lib.Math.min.name, Cond.static Lib.Math.min.name, Cond.initialized "java/lang/Math", Cond.code Lib.Math.min.name Lib.Math.min.code 2 (some .int), Cond.methodLink RX4 72 arraycopyName, Cond.native arraycopyName, Cond.static arraycopyName] : List Cond), w ∈ wsL_law := fun w h => (goodIn_r (big := wsL_law) [Cond.methodLink RL 54 yX5_pick, Cond.instanceMethod yX5_pick, Cond.selects RX5 yX5_pick yX5_pick, Cond.code yX5_pick cX5_pick 3 (some .int), Cond.fieldLink RX5 37 "PickSlots" "trial" "LPickSlots$Warehouse;", Cond.methodLink RX5 40 yX5_startTrial, Cond.instanceMethod yX5_startTrial, Cond.selects RX5 yX5_startTrial yX5_startTrial, Cond.code yX5_startTrial cX5_startTrial 1 none, Cond.methodLink RX5 137 yX4_copyFrom, Cond.instanceMethod yX4_copyFrom, Cond.selects RX4 yX4_copyFrom yX4_copyFrom, Cond.code yX4_copyFrom cX4_copyFrom 2 none, Cond.fieldLink RX4 38 "PickSlots$Warehouse" "goodInSlot" "[I", Cond.methodLink RX4 51 yX4_copyRow, Cond.static yX4_copyRow, Cond.code yX4_copyRow cX4_copyRow 2 none, Cond.methodLink RX4 66 Lib.Math.min.name, Cond.static Lib.Math.min.name, Cond.initialized "java/lang/Math", Cond.code Lib.Math.min.name Lib.Math.min.code 2 (some .int), Cond.methodLink RX4 72 arraycopyName, Cond.native arraycopyName, Cond.static arraycopyName] [392, 393, 394, 395, 24, 98, 99, 100, 101, 102, 103, 104, 105, 46, 106, 107, 108, 109, 110, 111, 112, 113, 114, 115] (by decide +kernel) (by decide +kernel) w h).1
set_option maxRecDepth 20000 in
theorem ggL_law_L_acts_8 : ∀ w ∈ ([Cond.initialized "java/lang/System", Cond.methodLink RX4 55 yX0_copyFrom, Cond.instanceMethod yX0_copyFrom, Cond.selects RX0 yX0_copyFrom yX0_copyFrom, Cond.initialized RX0, Cond.code yX0_copyFrom cX0_copyFrom 2 none, Cond.fieldLink RX0 7 "PickSlots$Accounts" "pickWalk" "I", Cond.fieldLink RX0 13 "PickSlots$Accounts" "refillWalk" "I", Cond.fieldLink RX0 16 "PickSlots$Accounts" "moveWalk" "I", Cond.fieldLink RX0 19 "PickSlots$Accounts" "trips" "I", Cond.fieldLink RX0 22 "PickSlots$Accounts" "saved" "I", Cond.fieldLink RX0 25 "PickSlots$Accounts" "moves" "I", Cond.fieldLink RX0 28 "PickSlots$Accounts" "picks" "I", Cond.methodLink RX5 73 yX4_pickUnits, Cond.instanceMethod yX4_pickUnits, Cond.selects RX4 yX4_pickUnits yX4_pickUnits, Cond.code yX4_pickUnits cX4_pickUnits 6 (some .int), Cond.methodLink RX4 117 yX4_unitsToBring, Cond.instanceMethod yX4_unitsToBring, Cond.selects RX4 yX4_unitsToBring yX4_unitsToBring, Cond.code yX4_unitsToBring cX4_unitsToBring 2 (some .int), Cond.methodLink RX4 120 yX4_bring, Cond.instanceMethod yX4_bring, Cond.selects RX4 yX4_bring yX4_bring] : List Cond), w ∈ wsL_law := fun w h => (goodIn_r (big := wsL_law) [Cond.initialized "java/lang/System", Cond.methodLink RX4 55 yX0_copyFrom, Cond.instanceMethod yX0_copyFrom, Cond.selects RX0 yX0_copyFrom yX0_copyFrom, Cond.initialized RX0, Cond.code yX0_copyFrom cX0_copyFrom 2 none, Cond.fieldLink RX0 7 "PickSlots$Accounts" "pickWalk" "I", Cond.fieldLink RX0 13 "PickSlots$Accounts" "refillWalk" "I", Cond.fieldLink RX0 16 "PickSlots$Accounts" "moveWalk" "I", Cond.fieldLink RX0 19 "PickSlots$Accounts" "trips" "I", Cond.fieldLink RX0 22 "PickSlots$Accounts" "saved" "I", Cond.fieldLink RX0 25 "PickSlots$Accounts" "moves" "I", Cond.fieldLink RX0 28 "PickSlots$Accounts" "picks" "I", Cond.methodLink RX5 73 yX4_pickUnits, Cond.instanceMethod yX4_pickUnits, Cond.selects RX4 yX4_pickUnits yX4_pickUnits, Cond.code yX4_pickUnits cX4_pickUnits 6 (some .int), Cond.methodLink RX4 117 yX4_unitsToBring, Cond.instanceMethod yX4_unitsToBring, Cond.selects RX4 yX4_unitsToBring yX4_unitsToBring, Cond.code yX4_unitsToBring cX4_unitsToBring 2 (some .int), Cond.methodLink RX4 120 yX4_bring, Cond.instanceMethod yX4_bring, Cond.selects RX4 yX4_bring yX4_bring] [116, 117, 118, 119, 50, 120, 121, 122, 123, 124, 125, 126, 127, 264, 265, 266, 267, 268, 269, 270, 271, 272, 273, 274] (by decide +kernel) (by decide +kernel) w h).1
set_option maxRecDepth 20000 in
theorem ggL_law_L_acts_9 : ∀ w ∈ ([Cond.code yX4_bring cX4_bring 5 (some .int), Cond.methodLink RX4 129 yX4_tripsFor, Cond.instanceMethod yX4_tripsFor, Cond.selects RX4 yX4_tripsFor yX4_tripsFor, Cond.code yX4_tripsFor cX4_tripsFor 3 (some .int), Cond.methodLink RX5 47 yX5_endTrial, Cond.instanceMethod yX5_endTrial, Cond.selects RX5 yX5_endTrial yX5_endTrial, Cond.code yX5_endTrial cX5_endTrial 2 (some .int), Cond.methodLink RX5 141 yX5_keepTrial, Cond.instanceMethod yX5_keepTrial, Cond.selects RX5 yX5_keepTrial yX5_keepTrial, Cond.code yX5_keepTrial cX5_keepTrial 2 none, Cond.fieldLink RX5 11 "PickSlots" "history" "[LPickSlots$Warehouse;", Cond.methodLink RX5 144 yX5_dropOldestState, Cond.instanceMethod yX5_dropOldestState, Cond.selects RX5 yX5_dropOldestState yX5_dropOldestState, Cond.code yX5_dropOldestState cX5_dropOldestState 3 none, Cond.methodLink RL 57 yX5_refill, Cond.instanceMethod yX5_refill, Cond.selects RX5 yX5_refill yX5_refill, Cond.code yX5_refill cX5_refill 2 (some .int), Cond.methodLink RX5 76 yX4_refillSlot, Cond.instanceMethod yX4_refillSlot] : List Cond), w ∈ wsL_law := fun w h => (goodIn_r (big := wsL_law) [Cond.code yX4_bring cX4_bring 5 (some .int), Cond.methodLink RX4 129 yX4_tripsFor, Cond.instanceMethod yX4_tripsFor, Cond.selects RX4 yX4_tripsFor yX4_tripsFor, Cond.code yX4_tripsFor cX4_tripsFor 3 (some .int), Cond.methodLink RX5 47 yX5_endTrial, Cond.instanceMethod yX5_endTrial, Cond.selects RX5 yX5_endTrial yX5_endTrial, Cond.code yX5_endTrial cX5_endTrial 2 (some .int), Cond.methodLink RX5 141 yX5_keepTrial, Cond.instanceMethod yX5_keepTrial, Cond.selects RX5 yX5_keepTrial yX5_keepTrial, Cond.code yX5_keepTrial cX5_keepTrial 2 none, Cond.fieldLink RX5 11 "PickSlots" "history" "[LPickSlots$Warehouse;", Cond.methodLink RX5 144 yX5_dropOldestState, Cond.instanceMethod yX5_dropOldestState, Cond.selects RX5 yX5_dropOldestState yX5_dropOldestState, Cond.code yX5_dropOldestState cX5_dropOldestState 3 none, Cond.methodLink RL 57 yX5_refill, Cond.instanceMethod yX5_refill, Cond.selects RX5 yX5_refill yX5_refill, Cond.code yX5_refill cX5_refill 2 (some .int), Cond.methodLink RX5 76 yX4_refillSlot, Cond.instanceMethod yX4_refillSlot] [275, 276, 277, 278, 279, 188, 189, 190, 191, 192, 193, 194, 195, 11, 196, 197, 198, 199, 396, 397, 398, 399, 280, 281] (by decide +kernel) (by decide +kernel) w h).1
set_option maxRecDepth 20000 in
theorem ggL_law_L_acts_10 : ∀ w ∈ ([Cond.selects RX4 yX4_refillSlot yX4_refillSlot, Cond.code yX4_refillSlot cX4_refillSlot 3 (some .int), Cond.methodLink RL 94 yX5_endWeek, Cond.instanceMethod yX5_endWeek, Cond.selects RX5 yX5_endWeek yX5_endWeek, Cond.code yX5_endWeek cX5_endWeek 1 (some .int), Cond.methodLink RX5 79 yX4_finishWeek, Cond.instanceMethod yX4_finishWeek, Cond.selects RX4 yX4_finishWeek yX4_finishWeek, Cond.code yX4_finishWeek cX4_finishWeek 4 (some .int), Cond.methodLink RL 60 yX5_move, Cond.instanceMethod yX5_move, Cond.selects RX5 yX5_move yX5_move, Cond.code yX5_move cX5_move 3 (some .int), Cond.methodLink RX5 83 yX4_moveGood, Cond.instanceMethod yX4_moveGood, Cond.selects RX4 yX4_moveGood yX4_moveGood, Cond.code yX4_moveGood cX4_moveGood 3 (some .int), Cond.methodLink RX4 142 yX4_canGo, Cond.instanceMethod yX4_canGo, Cond.selects RX4 yX4_canGo yX4_canGo, Cond.code yX4_canGo cX4_canGo 5 (some .boolean), Cond.methodLink RX4 103 yX4_bears, Cond.instanceMethod yX4_bears] : List Cond), w ∈ wsL_law := fun w h => (goodIn_r (big := wsL_law) [Cond.selects RX4 yX4_refillSlot yX4_refillSlot, Cond.code yX4_refillSlot cX4_refillSlot 3 (some .int), Cond.methodLink RL 94 yX5_endWeek, Cond.instanceMethod yX5_endWeek, Cond.selects RX5 yX5_endWeek yX5_endWeek, Cond.code yX5_endWeek cX5_endWeek 1 (some .int), Cond.methodLink RX5 79 yX4_finishWeek, Cond.instanceMethod yX4_finishWeek, Cond.selects RX4 yX4_finishWeek yX4_finishWeek, Cond.code yX4_finishWeek cX4_finishWeek 4 (some .int), Cond.methodLink RL 60 yX5_move, Cond.instanceMethod yX5_move, Cond.selects RX5 yX5_move yX5_move, Cond.code yX5_move cX5_move 3 (some .int), Cond.methodLink RX5 83 yX4_moveGood, Cond.instanceMethod yX4_moveGood, Cond.selects RX4 yX4_moveGood yX4_moveGood, Cond.code yX4_moveGood cX4_moveGood 3 (some .int), Cond.methodLink RX4 142 yX4_canGo, Cond.instanceMethod yX4_canGo, Cond.selects RX4 yX4_canGo yX4_canGo, Cond.code yX4_canGo cX4_canGo 5 (some .boolean), Cond.methodLink RX4 103 yX4_bears, Cond.instanceMethod yX4_bears] [282, 283, 478, 479, 480, 481, 293, 294, 295, 296, 400, 401, 402, 403, 284, 285, 286, 287, 138, 139, 140, 141, 142, 143] (by decide +kernel) (by decide +kernel) w h).1
set_option maxRecDepth 20000 in
theorem ggL_law_L_acts_11 : ∀ w ∈ ([Cond.selects RX4 yX4_bears yX4_bears, Cond.code yX4_bears cX4_bears 3 (some .boolean), Cond.methodLink RX4 82 yX2_heaviestAt, Cond.static yX2_heaviestAt, Cond.code yX2_heaviestAt cX2_heaviestAt 1 (some .int), Cond.methodLink RX4 146 yX4_goTo, Cond.instanceMethod yX4_goTo, Cond.selects RX4 yX4_goTo yX4_goTo, Cond.code yX4_goTo cX4_goTo 6 (some .int), Cond.methodLink RX4 155 yX4_savedByGoing, Cond.instanceMethod yX4_savedByGoing, Cond.selects RX4 yX4_savedByGoing yX4_savedByGoing, Cond.code yX4_savedByGoing cX4_savedByGoing 5 (some .int), Cond.methodLink RX4 149 yX4_walkOfGoing, Cond.instanceMethod yX4_walkOfGoing, Cond.selects RX4 yX4_walkOfGoing yX4_walkOfGoing, Cond.code yX4_walkOfGoing cX4_walkOfGoing 6 (some .int), Cond.methodLink RX4 161 yX2_wayBetween, Cond.static yX2_wayBetween, Cond.code yX2_wayBetween cX2_wayBetween 3 (some .int), Cond.methodLink RX2 16 Lib.Math.abs.name, Cond.static Lib.Math.abs.name, Cond.code Lib.Math.abs.name Lib.Math.abs.code 1 (some .int), Cond.methodLink RX4 107 yX4_standIn] : List Cond), w ∈ wsL_law := fun w h => (goodIn_r (big := wsL_law) [Cond.selects RX4 yX4_bears yX4_bears, Cond.code yX4_bears cX4_bears 3 (some .boolean), Cond.methodLink RX4 82 yX2_heaviestAt, Cond.static yX2_heaviestAt, Cond.code yX2_heaviestAt cX2_heaviestAt 1 (some .int), Cond.methodLink RX4 146 yX4_goTo, Cond.instanceMethod yX4_goTo, Cond.selects RX4 yX4_goTo yX4_goTo, Cond.code yX4_goTo cX4_goTo 6 (some .int), Cond.methodLink RX4 155 yX4_savedByGoing, Cond.instanceMethod yX4_savedByGoing, Cond.selects RX4 yX4_savedByGoing yX4_savedByGoing, Cond.code yX4_savedByGoing cX4_savedByGoing 5 (some .int), Cond.methodLink RX4 149 yX4_walkOfGoing, Cond.instanceMethod yX4_walkOfGoing, Cond.selects RX4 yX4_walkOfGoing yX4_walkOfGoing, Cond.code yX4_walkOfGoing cX4_walkOfGoing 6 (some .int), Cond.methodLink RX4 161 yX2_wayBetween, Cond.static yX2_wayBetween, Cond.code yX2_wayBetween cX2_wayBetween 3 (some .int), Cond.methodLink RX2 16 Lib.Math.abs.name, Cond.static Lib.Math.abs.name, Cond.code Lib.Math.abs.name Lib.Math.abs.code 1 (some .int), Cond.methodLink RX4 107 yX4_standIn] [144, 145, 146, 147, 148, 180, 181, 182, 183, 158, 159, 160, 161, 170, 171, 172, 173, 174, 175, 176, 177, 178, 179, 184] (by decide +kernel) (by decide +kernel) w h).1
set_option maxRecDepth 20000 in
theorem ggL_law_L_acts_12 : ∀ w ∈ ([Cond.instanceMethod yX4_standIn, Cond.selects RX4 yX4_standIn yX4_standIn, Cond.code yX4_standIn cX4_standIn 3 none, Cond.methodLink RL 63 yX5_exchange, Cond.instanceMethod yX5_exchange, Cond.selects RX5 yX5_exchange yX5_exchange, Cond.code yX5_exchange cX5_exchange 3 (some .int), Cond.methodLink RX5 86 yX4_exchangeGoods, Cond.instanceMethod yX4_exchangeGoods, Cond.selects RX4 yX4_exchangeGoods yX4_exchangeGoods, Cond.code yX4_exchangeGoods cX4_exchangeGoods 3 (some .int), Cond.methodLink RL 72 yX5_improve, Cond.instanceMethod yX5_improve, Cond.selects RX5 yX5_improve yX5_improve, Cond.code yX5_improve cX5_improve 2 (some .int), Cond.methodLink RX5 95 yX4_doBest, Cond.instanceMethod yX4_doBest, Cond.selects RX4 yX4_doBest yX4_doBest, Cond.code yX4_doBest cX4_doBest 4 (some .int), Cond.methodLink RX4 158 yX4_bestGoing, Cond.instanceMethod yX4_bestGoing, Cond.selects RX4 yX4_bestGoing yX4_bestGoing, Cond.code yX4_bestGoing cX4_bestGoing 5 (some .int), Cond.methodLink RX4 152 yX4_worthOfGoing] : List Cond), w ∈ wsL_law := fun w h => (goodIn_r (big := wsL_law) [Cond.instanceMethod yX4_standIn, Cond.selects RX4 yX4_standIn yX4_standIn, Cond.code yX4_standIn cX4_standIn 3 none, Cond.methodLink RL 63 yX5_exchange, Cond.instanceMethod yX5_exchange, Cond.selects RX5 yX5_exchange yX5_exchange, Cond.code yX5_exchange cX5_exchange 3 (some .int), Cond.methodLink RX5 86 yX4_exchangeGoods, Cond.instanceMethod yX4_exchangeGoods, Cond.selects RX4 yX4_exchangeGoods yX4_exchangeGoods, Cond.code yX4_exchangeGoods cX4_exchangeGoods 3 (some .int), Cond.methodLink RL 72 yX5_improve, Cond.instanceMethod yX5_improve, Cond.selects RX5 yX5_improve yX5_improve, Cond.code yX5_improve cX5_improve 2 (some .int), Cond.methodLink RX5 95 yX4_doBest, Cond.instanceMethod yX4_doBest, Cond.selects RX4 yX4_doBest yX4_doBest, Cond.code yX4_doBest cX4_doBest 4 (some .int), Cond.methodLink RX4 158 yX4_bestGoing, Cond.instanceMethod yX4_bestGoing, Cond.selects RX4 yX4_bestGoing yX4_bestGoing, Cond.code yX4_bestGoing cX4_bestGoing 5 (some .int), Cond.methodLink RX4 152 yX4_worthOfGoing] [185, 186, 187, 404, 405, 406, 407, 289, 290, 291, 292, 94, 95, 96, 97, 128, 129, 130, 131, 134, 135, 136, 137, 154] (by decide +kernel) (by decide +kernel) w h).1
set_option maxRecDepth 20000 in
theorem ggL_law_L_acts_13 : ∀ w ∈ ([Cond.instanceMethod yX4_worthOfGoing, Cond.selects RX4 yX4_worthOfGoing yX4_worthOfGoing, Cond.code yX4_worthOfGoing cX4_worthOfGoing 3 (some .int), Cond.methodLink RL 45 yX5_take, Cond.instanceMethod yX5_take, Cond.selects RX5 yX5_take yX5_take, Cond.code yX5_take cX5_take 2 (some .int), Cond.methodLink RX5 61 yX4_takeOutOfSlot, Cond.instanceMethod yX4_takeOutOfSlot, Cond.selects RX4 yX4_takeOutOfSlot yX4_takeOutOfSlot, Cond.code yX4_takeOutOfSlot cX4_takeOutOfSlot 3 (some .int), Cond.methodLink RL 35 yX5_demand, Cond.instanceMethod yX5_demand, Cond.selects RX5 yX5_demand yX5_demand, Cond.code yX5_demand cX5_demand 4 (some .int), Cond.methodLink RX5 51 yX4_changeDemand, Cond.instanceMethod yX4_changeDemand, Cond.selects RX4 yX4_changeDemand yX4_changeDemand, Cond.code yX4_changeDemand cX4_changeDemand 5 (some .int), Cond.methodLink RL 81 yX5_set, Cond.instanceMethod yX5_set, Cond.selects RX5 yX5_set yX5_set, Cond.code yX5_set cX5_set 3 (some .int), Cond.methodLink RX5 122 yX4_changeSetting] : List Cond), w ∈ wsL_law := fun w h => (goodIn_r (big := wsL_law) [Cond.instanceMethod yX4_worthOfGoing, Cond.selects RX4 yX4_worthOfGoing yX4_worthOfGoing, Cond.code yX4_worthOfGoing cX4_worthOfGoing 3 (some .int), Cond.methodLink RL 45 yX5_take, Cond.instanceMethod yX5_take, Cond.selects RX5 yX5_take yX5_take, Cond.code yX5_take cX5_take 2 (some .int), Cond.methodLink RX5 61 yX4_takeOutOfSlot, Cond.instanceMethod yX4_takeOutOfSlot, Cond.selects RX4 yX4_takeOutOfSlot yX4_takeOutOfSlot, Cond.code yX4_takeOutOfSlot cX4_takeOutOfSlot 3 (some .int), Cond.methodLink RL 35 yX5_demand, Cond.instanceMethod yX5_demand, Cond.selects RX5 yX5_demand yX5_demand, Cond.code yX5_demand cX5_demand 4 (some .int), Cond.methodLink RX5 51 yX4_changeDemand, Cond.instanceMethod yX4_changeDemand, Cond.selects RX4 yX4_changeDemand yX4_changeDemand, Cond.code yX4_changeDemand cX4_changeDemand 5 (some .int), Cond.methodLink RL 81 yX5_set, Cond.instanceMethod yX5_set, Cond.selects RX5 yX5_set yX5_set, Cond.code yX5_set cX5_set 3 (some .int), Cond.methodLink RX5 122 yX4_changeSetting] [155, 156, 157, 368, 369, 370, 371, 372, 373, 374, 375, 341, 342, 343, 344, 345, 346, 347, 348, 439, 440, 441, 442, 443] (by decide +kernel) (by decide +kernel) w h).1
set_option maxRecDepth 20000 in
theorem ggL_law_L_acts_14 : ∀ w ∈ ([Cond.instanceMethod yX4_changeSetting, Cond.selects RX4 yX4_changeSetting yX4_changeSetting, Cond.code yX4_changeSetting cX4_changeSetting 4 (some .int), Cond.fieldLink RX4 199 "PickSlots$Warehouse" "LEAST_SETTINGS" "[I", Cond.fieldLink RX4 202 "PickSlots$Warehouse" "GREATEST_SETTINGS" "[I", Cond.methodLink RL 42 yX5_place, Cond.instanceMethod yX5_place, Cond.selects RX5 yX5_place yX5_place, Cond.code yX5_place cX5_place 3 (some .int), Cond.methodLink RX5 58 yX4_putIntoSlot, Cond.instanceMethod yX4_putIntoSlot, Cond.selects RX4 yX4_putIntoSlot yX4_putIntoSlot, Cond.code yX4_putIntoSlot cX4_putIntoSlot 3 (some .int), Cond.methodLink RL 39 yX5_deliver, Cond.instanceMethod yX5_deliver, Cond.selects RX5 yX5_deliver yX5_deliver, Cond.code yX5_deliver cX5_deliver 3 (some .int), Cond.methodLink RX5 55 yX4_addToStore, Cond.instanceMethod yX4_addToStore, Cond.selects RX4 yX4_addToStore yX4_addToStore, Cond.code yX4_addToStore cX4_addToStore 3 (some .int), Cond.constant RX4 99 (100000), Cond.methodLink RL 102 yL_sound, Cond.static yL_sound] : List Cond), w ∈ wsL_law := fun w h => (goodIn_r (big := wsL_law) [Cond.instanceMethod yX4_changeSetting, Cond.selects RX4 yX4_changeSetting yX4_changeSetting, Cond.code yX4_changeSetting cX4_changeSetting 4 (some .int), Cond.fieldLink RX4 199 "PickSlots$Warehouse" "LEAST_SETTINGS" "[I", Cond.fieldLink RX4 202 "PickSlots$Warehouse" "GREATEST_SETTINGS" "[I", Cond.methodLink RL 42 yX5_place, Cond.instanceMethod yX5_place, Cond.selects RX5 yX5_place yX5_place, Cond.code yX5_place cX5_place 3 (some .int), Cond.methodLink RX5 58 yX4_putIntoSlot, Cond.instanceMethod yX4_putIntoSlot, Cond.selects RX4 yX4_putIntoSlot yX4_putIntoSlot, Cond.code yX4_putIntoSlot cX4_putIntoSlot 3 (some .int), Cond.methodLink RL 39 yX5_deliver, Cond.instanceMethod yX5_deliver, Cond.selects RX5 yX5_deliver yX5_deliver, Cond.code yX5_deliver cX5_deliver 3 (some .int), Cond.methodLink RX5 55 yX4_addToStore, Cond.instanceMethod yX4_addToStore, Cond.selects RX4 yX4_addToStore yX4_addToStore, Cond.code yX4_addToStore cX4_addToStore 3 (some .int), Cond.constant RX4 99 (100000), Cond.methodLink RL 102 yL_sound, Cond.static yL_sound] [444, 445, 446, 447, 448, 360, 361, 362, 363, 364, 365, 366, 367, 351, 352, 353, 354, 355, 356, 357, 358, 359, 457, 458] (by decide +kernel) (by decide +kernel) w h).1
set_option maxRecDepth 20000 in
theorem ggL_law_L_acts_15 : ∀ w ∈ ([Cond.code yL_sound cL_sound 13 (some .boolean)] : List Cond), w ∈ wsL_law := List.forall_mem_singleton.mpr (List.mem_of_getElem? (i := 459) rfl)
set_option maxRecDepth 20000 in
theorem ggL_law_L_acts_16 : ∀ w ∈ ([Cond.methodLink RL 48 yX5_slotOf, Cond.instanceMethod yX5_slotOf, Cond.selects RX5 yX5_slotOf yX5_slotOf, Cond.code yX5_slotOf cX5_slotOf 3 (some .int), Cond.methodLink RX5 67 yX4_numberOfSlot, Cond.instanceMethod yX4_numberOfSlot, Cond.selects RX4 yX4_numberOfSlot yX4_numberOfSlot, Cond.code yX4_numberOfSlot cX4_numberOfSlot 3 (some .int), Cond.methodLink RL 51 yX5_nearest, Cond.instanceMethod yX5_nearest, Cond.selects RX5 yX5_nearest yX5_nearest, Cond.code yX5_nearest cX5_nearest 2 (some .int), Cond.methodLink RX5 70 yX4_nearestFreeSlot, Cond.instanceMethod yX4_nearestFreeSlot, Cond.selects RX4 yX4_nearestFreeSlot yX4_nearestFreeSlot, Cond.code yX4_nearestFreeSlot cX4_nearestFreeSlot 5 (some .int), Cond.methodLink RL 78 yX5_atBest, Cond.instanceMethod yX5_atBest, Cond.selects RX5 yX5_atBest yX5_atBest, Cond.code yX5_atBest cX5_atBest 2 (some .int), Cond.fieldLink RX5 25 "PickSlots" "demands" "LPickSlots$SortedRow;", Cond.fieldLink RX5 29 "PickSlots" "walks" "LPickSlots$SortedRow;", Cond.methodLink RX5 105 yX4_shortestWalk, Cond.instanceMethod yX4_shortestWalk] : List Cond), w ∈ wsL_law := fun w h => (goodIn_r (big := wsL_law) [Cond.methodLink RL 48 yX5_slotOf, Cond.instanceMethod yX5_slotOf, Cond.selects RX5 yX5_slotOf yX5_slotOf, Cond.code yX5_slotOf cX5_slotOf 3 (some .int), Cond.methodLink RX5 67 yX4_numberOfSlot, Cond.instanceMethod yX4_numberOfSlot, Cond.selects RX4 yX4_numberOfSlot yX4_numberOfSlot, Cond.code yX4_numberOfSlot cX4_numberOfSlot 3 (some .int), Cond.methodLink RL 51 yX5_nearest, Cond.instanceMethod yX5_nearest, Cond.selects RX5 yX5_nearest yX5_nearest, Cond.code yX5_nearest cX5_nearest 2 (some .int), Cond.methodLink RX5 70 yX4_nearestFreeSlot, Cond.instanceMethod yX4_nearestFreeSlot, Cond.selects RX4 yX4_nearestFreeSlot yX4_nearestFreeSlot, Cond.code yX4_nearestFreeSlot cX4_nearestFreeSlot 5 (some .int), Cond.methodLink RL 78 yX5_atBest, Cond.instanceMethod yX5_atBest, Cond.selects RX5 yX5_atBest yX5_atBest, Cond.code yX5_atBest cX5_atBest 2 (some .int), Cond.fieldLink RX5 25 "PickSlots" "demands" "LPickSlots$SortedRow;", Cond.fieldLink RX5 29 "PickSlots" "walks" "LPickSlots$SortedRow;", Cond.methodLink RX5 105 yX4_shortestWalk, Cond.instanceMethod yX4_shortestWalk] [376, 377, 378, 379, 380, 381, 382, 383, 384, 385, 386, 387, 388, 389, 390, 391, 422, 423, 424, 425, 19, 20, 426, 427] (by decide +kernel) (by decide +kernel) w h).1
set_option maxRecDepth 20000 in
theorem ggL_law_L_acts_17 : ∀ w ∈ ([Cond.selects RX4 yX4_shortestWalk yX4_shortestWalk, Cond.code yX4_shortestWalk cX4_shortestWalk 6 (some .int), Cond.methodLink RX4 181 yX3_insert, Cond.instanceMethod yX3_insert, Cond.selects RX3 yX3_insert yX3_insert, Cond.initialized RX3, Cond.code yX3_insert cX3_insert 3 none, Cond.fieldLink RX3 15 "PickSlots$SortedRow" "size" "I", Cond.fieldLink RX3 9 "PickSlots$SortedRow" "values" "[I", Cond.methodLink RX4 185 yX3_valueAt, Cond.instanceMethod yX3_valueAt, Cond.selects RX3 yX3_valueAt yX3_valueAt, Cond.code yX3_valueAt cX3_valueAt 2 (some .int), Cond.methodLink RL 69 yX5_best, Cond.instanceMethod yX5_best, Cond.selects RX5 yX5_best yX5_best, Cond.code yX5_best cX5_best 2 (some .int), Cond.methodLink RX5 92 yX4_numberOfBest, Cond.instanceMethod yX4_numberOfBest, Cond.selects RX4 yX4_numberOfBest yX4_numberOfBest, Cond.code yX4_numberOfBest cX4_numberOfBest 5 (some .int), Cond.methodLink RL 106 yX5_undo, Cond.instanceMethod yX5_undo, Cond.selects RX5 yX5_undo yX5_undo] : List Cond), w ∈ wsL_law := fun w h => (goodIn_r (big := wsL_law) [Cond.selects RX4 yX4_shortestWalk yX4_shortestWalk, Cond.code yX4_shortestWalk cX4_shortestWalk 6 (some .int), Cond.methodLink RX4 181 yX3_insert, Cond.instanceMethod yX3_insert, Cond.selects RX3 yX3_insert yX3_insert, Cond.initialized RX3, Cond.code yX3_insert cX3_insert 3 none, Cond.fieldLink RX3 15 "PickSlots$SortedRow" "size" "I", Cond.fieldLink RX3 9 "PickSlots$SortedRow" "values" "[I", Cond.methodLink RX4 185 yX3_valueAt, Cond.instanceMethod yX3_valueAt, Cond.selects RX3 yX3_valueAt yX3_valueAt, Cond.code yX3_valueAt cX3_valueAt 2 (some .int), Cond.methodLink RL 69 yX5_best, Cond.instanceMethod yX5_best, Cond.selects RX5 yX5_best yX5_best, Cond.code yX5_best cX5_best 2 (some .int), Cond.methodLink RX5 92 yX4_numberOfBest, Cond.instanceMethod yX4_numberOfBest, Cond.selects RX4 yX4_numberOfBest yX4_numberOfBest, Cond.code yX4_numberOfBest cX4_numberOfBest 5 (some .int), Cond.methodLink RL 106 yX5_undo, Cond.instanceMethod yX5_undo, Cond.selects RX5 yX5_undo yX5_undo] [428, 429, 430, 431, 432, 18, 433, 434, 33, 435, 436, 437, 438, 200, 201, 202, 203, 204, 205, 206, 207, 55, 56, 57] (by decide +kernel) (by decide +kernel) w h).1
set_option maxRecDepth 20000 in
theorem ggL_law_L_acts_18 : ∀ w ∈ ([Cond.code yX5_undo cX5_undo 2 (some .int)] : List Cond), w ∈ wsL_law := fun w h => (goodIn_r (big := wsL_law) [Cond.code yX5_undo cX5_undo 2 (some .int)] [58] (by decide +kernel) (by decide +kernel) w h).1
set_option maxRecDepth 20000 in
theorem ggL_law_L_acts_19 : ∀ w ∈ (wsX50 : List Cond), w ∈ wsL_law := fun w h => (goodIn_r (big := wsL_law) wsX50 [482, 483, 484, 485, 486, 487, 488, 489, 490] (by decide +kernel) (by decide +kernel) w h).1
set_option maxRecDepth 20000 in
theorem ggL_law_L_acts_20 : ∀ w ∈ (wsX10 : List Cond), w ∈ wsL_law := fun w h => (goodIn_r (big := wsL_law) wsX10 [491, 492, 493, 494, 495, 496] (by decide +kernel) (by decide +kernel) w h).1
set_option maxRecDepth 20000 in
theorem ggL_law_L_acts_21 : ∀ w ∈ (wsX40 : List Cond), w ∈ wsL_law := fun w h => (goodIn_r (big := wsL_law) wsX40 [499, 500, 501, 502, 503, 504, 505, 506, 507, 508, 509, 510, 511] (by decide +kernel) (by decide +kernel) w h).1
set_option maxRecDepth 20000 in
theorem ggL_law_L_acts_22 : ∀ w ∈ (wsX00 : List Cond), w ∈ wsL_law := fun w h => (goodIn_r (big := wsL_law) wsX00 [512, 513, 514, 515, 516, 517, 518] (by decide +kernel) (by decide +kernel) w h).1
set_option maxRecDepth 20000 in
theorem ggL_law_L_acts_23 : ∀ w ∈ (wsX30 : List Cond), w ∈ wsL_law := fun w h => (goodIn_r (big := wsL_law) wsX30 [497, 498] (by decide +kernel) (by decide +kernel) w h).1
set_option maxRecDepth 20000 in
theorem ggL_law_L_acts_m : ∀ w ∈ wsL_acts, w ∈ wsL_law := by
  show ∀ w ∈ (([Cond.code yL_acts cL_acts 13 (some .boolean)] : List Cond) ++ (([Cond.constant RL 90 (100000000), Cond.methodLink RL 19 yX5_count, Cond.instanceMethod yX5_count, Cond.selects RX5 yX5_count yX5_count, Cond.initialized RX5, Cond.code yX5_count cX5_count 2 (some .int), Cond.fieldLink RX5 112 "PickSlots" "states" "I", Cond.fieldLink RX5 18 "PickSlots" "text" "LPickSlots$OrderText;", Cond.fieldLink RX5 33 "PickSlots" "now" "LPickSlots$Warehouse;", Cond.methodLink RX5 119 yX4_numberOfWarehouse, Cond.instanceMethod yX4_numberOfWarehouse, Cond.selects RX4 yX4_numberOfWarehouse yX4_numberOfWarehouse, Cond.initialized RX4, Cond.code yX4_numberOfWarehouse cX4_numberOfWarehouse 2 (some .int), Cond.fieldLink RX4 59 "PickSlots$Warehouse" "goods" "I", Cond.fieldLink RX4 63 "PickSlots$Warehouse" "week" "I", Cond.fieldLink RX4 24 "PickSlots$Warehouse" "unitsInSlot" "[I", Cond.fieldLink RX4 27 "PickSlots$Warehouse" "unitsInStore" "[I", Cond.fieldLink RX4 41 "PickSlots$Warehouse" "settings" "[I", Cond.methodLink RX4 191 yX4_placedGoods, Cond.instanceMethod yX4_placedGoods, Cond.selects RX4 yX4_placedGoods yX4_placedGoods, Cond.code yX4_placedGoods cX4_placedGoods 4 (some .int), Cond.methodLink RX4 100 yX4_isPlaced] : List Cond) ++ (([Cond.instanceMethod yX4_isPlaced, Cond.selects RX4 yX4_isPlaced yX4_isPlaced, Cond.code yX4_isPlaced cX4_isPlaced 2 (some .boolean), Cond.fieldLink RX4 21 "PickSlots$Warehouse" "slotOfGood" "[I", Cond.methodLink RX4 78 yX2_isSlot, Cond.static yX2_isSlot, Cond.initialized RX2, Cond.code yX2_isSlot cX2_isSlot 1 (some .boolean), Cond.methodLink RX4 138 yX4_presentSeason, Cond.instanceMethod yX4_presentSeason, Cond.selects RX4 yX4_presentSeason yX4_presentSeason, Cond.code yX4_presentSeason cX4_presentSeason 1 (some .int), Cond.methodLink RX4 164 yX4_weeksLeft, Cond.instanceMethod yX4_weeksLeft, Cond.selects RX4 yX4_weeksLeft yX4_weeksLeft, Cond.code yX4_weeksLeft cX4_weeksLeft 1 (some .int), Cond.methodLink RX4 195 yX4_sumOf, Cond.instanceMethod yX4_sumOf, Cond.selects RX4 yX4_sumOf yX4_sumOf, Cond.code yX4_sumOf cX4_sumOf 4 (some .int), Cond.methodLink RL 26 yL_mark, Cond.static yL_mark, Cond.initialized RL, Cond.code yL_mark cL_mark 5 (some .long)] : List Cond) ++ (([Cond.constantLong RL 9 (17), Cond.constantLong RL 11 (31), Cond.methodLink RL 13 yX5_account, Cond.instanceMethod yX5_account, Cond.selects RX5 yX5_account yX5_account, Cond.code yX5_account cX5_account 2 (some .int), Cond.methodLink RX5 109 yX4_numberOfAccount, Cond.instanceMethod yX4_numberOfAccount, Cond.selects RX4 yX4_numberOfAccount yX4_numberOfAccount, Cond.code yX4_numberOfAccount cX4_numberOfAccount 2 (some .int), Cond.fieldLink RX4 47 "PickSlots$Warehouse" "accounts" "LPickSlots$Accounts;", Cond.constant RX4 145 (100000000), Cond.methodLink RX4 188 yX4_weeklyWalk, Cond.instanceMethod yX4_weeklyWalk, Cond.selects RX4 yX4_weeklyWalk yX4_weeklyWalk, Cond.code yX4_weeklyWalk cX4_weeklyWalk 4 (some .int), Cond.methodLink RX4 96 yX4_demandOf, Cond.instanceMethod yX4_demandOf, Cond.selects RX4 yX4_demandOf yX4_demandOf, Cond.code yX4_demandOf cX4_demandOf 3 (some .int), Cond.fieldLink RX4 18 "PickSlots$Warehouse" "seasonDemands" "[I", Cond.methodLink RX4 111 yX2_walkTo, Cond.static yX2_walkTo, Cond.code yX2_walkTo cX2_walkTo 1 (some .int)] : List Cond) ++ (([Cond.fieldLink RX2 9 "PickSlots$Slots" "REACHES" "[I", Cond.methodLink RL 22 yX5_goodOf, Cond.instanceMethod yX5_goodOf, Cond.selects RX5 yX5_goodOf yX5_goodOf, Cond.code yX5_goodOf cX5_goodOf 3 (some .int), Cond.methodLink RX5 64 yX4_numberOfGood, Cond.instanceMethod yX4_numberOfGood, Cond.selects RX4 yX4_numberOfGood yX4_numberOfGood, Cond.code yX4_numberOfGood cX4_numberOfGood 3 (some .int), Cond.fieldLink RX4 9 "PickSlots$Warehouse" "weights" "[I", Cond.fieldLink RX4 15 "PickSlots$Warehouse" "capacities" "[I", Cond.fieldLink RX4 30 "PickSlots$Warehouse" "weekPicks" "[I", Cond.fieldLink RX4 33 "PickSlots$Warehouse" "unitsPicked" "[I", Cond.methodLink RX4 90 yX4_isGood, Cond.instanceMethod yX4_isGood, Cond.selects RX4 yX4_isGood yX4_isGood, Cond.code yX4_isGood cX4_isGood 2 (some .boolean), Cond.static yX5_isIn, Cond.code yX5_isIn cX5_isIn 3 (some .boolean), Cond.methodLink RX4 114 yX2_greatestHeightFor, Cond.static yX2_greatestHeightFor, Cond.code yX2_greatestHeightFor cX2_greatestHeightFor 3 (some .int), Cond.fieldLink RX2 13 "PickSlots$Slots" "HEAVIEST" "[I", Cond.methodLink RL 75 yX5_weekly] : List Cond) ++ (([Cond.instanceMethod yX5_weekly, Cond.selects RX5 yX5_weekly yX5_weekly, Cond.code yX5_weekly cX5_weekly 2 (some .int), Cond.methodLink RX5 98 yX5_isSeason, Cond.static yX5_isSeason, Cond.code yX5_isSeason cX5_isSeason 1 (some .boolean), Cond.methodLink RX5 102 yX4_weeklyWalk, Cond.methodLink RL 91 yL_up, Cond.static yL_up, Cond.code yL_up cL_up 2 (some .int), Cond.constant RL 8 (2147483647), Cond.methodLink RL 98 yL_act, Cond.static yL_act] : List Cond) ++ (([Cond.code yL_act cL_act 8 (some .int)] : List Cond) ++ (([Cond.methodLink RL 54 yX5_pick, Cond.instanceMethod yX5_pick, Cond.selects RX5 yX5_pick yX5_pick, Cond.code yX5_pick cX5_pick 3 (some .int), Cond.fieldLink RX5 37 "PickSlots" "trial" "LPickSlots$Warehouse;", Cond.methodLink RX5 40 yX5_startTrial, Cond.instanceMethod yX5_startTrial, Cond.selects RX5 yX5_startTrial yX5_startTrial, Cond.code yX5_startTrial cX5_startTrial 1 none, Cond.methodLink RX5 137 yX4_copyFrom, Cond.instanceMethod yX4_copyFrom, Cond.selects RX4 yX4_copyFrom yX4_copyFrom, Cond.code yX4_copyFrom cX4_copyFrom 2 none, Cond.fieldLink RX4 38 "PickSlots$Warehouse" "goodInSlot" "[I", Cond.methodLink RX4 51 yX4_copyRow, Cond.static yX4_copyRow, Cond.code yX4_copyRow cX4_copyRow 2 none, Cond.methodLink RX4 66 Lib.Math.min.name, Cond.static Lib.Math.min.name, Cond.initialized "java/lang/Math", Cond.code Lib.Math.min.name Lib.Math.min.code 2 (some .int), Cond.methodLink RX4 72 arraycopyName, Cond.native arraycopyName, Cond.static arraycopyName] : List Cond) ++ (([Cond.initialized "java/lang/System", Cond.methodLink RX4 55 yX0_copyFrom, Cond.instanceMethod yX0_copyFrom, Cond.selects RX0 yX0_copyFrom yX0_copyFrom, Cond.initialized RX0, Cond.code yX0_copyFrom cX0_copyFrom 2 none, Cond.fieldLink RX0 7 "PickSlots$Accounts" "pickWalk" "I", Cond.fieldLink RX0 13 "PickSlots$Accounts" "refillWalk" "I", Cond.fieldLink RX0 16 "PickSlots$Accounts" "moveWalk" "I", Cond.fieldLink RX0 19 "PickSlots$Accounts" "trips" "I", Cond.fieldLink RX0 22 "PickSlots$Accounts" "saved" "I", Cond.fieldLink RX0 25 "PickSlots$Accounts" "moves" "I", Cond.fieldLink RX0 28 "PickSlots$Accounts" "picks" "I", Cond.methodLink RX5 73 yX4_pickUnits, Cond.instanceMethod yX4_pickUnits, Cond.selects RX4 yX4_pickUnits yX4_pickUnits, Cond.code yX4_pickUnits cX4_pickUnits 6 (some .int), Cond.methodLink RX4 117 yX4_unitsToBring, Cond.instanceMethod yX4_unitsToBring, Cond.selects RX4 yX4_unitsToBring yX4_unitsToBring, Cond.code yX4_unitsToBring cX4_unitsToBring 2 (some .int), Cond.methodLink RX4 120 yX4_bring, Cond.instanceMethod yX4_bring, Cond.selects RX4 yX4_bring yX4_bring] : List Cond) ++ (([Cond.code yX4_bring cX4_bring 5 (some .int), Cond.methodLink RX4 129 yX4_tripsFor, Cond.instanceMethod yX4_tripsFor, Cond.selects RX4 yX4_tripsFor yX4_tripsFor, Cond.code yX4_tripsFor cX4_tripsFor 3 (some .int), Cond.methodLink RX5 47 yX5_endTrial, Cond.instanceMethod yX5_endTrial, Cond.selects RX5 yX5_endTrial yX5_endTrial, Cond.code yX5_endTrial cX5_endTrial 2 (some .int), Cond.methodLink RX5 141 yX5_keepTrial, Cond.instanceMethod yX5_keepTrial, Cond.selects RX5 yX5_keepTrial yX5_keepTrial, Cond.code yX5_keepTrial cX5_keepTrial 2 none, Cond.fieldLink RX5 11 "PickSlots" "history" "[LPickSlots$Warehouse;", Cond.methodLink RX5 144 yX5_dropOldestState, Cond.instanceMethod yX5_dropOldestState, Cond.selects RX5 yX5_dropOldestState yX5_dropOldestState, Cond.code yX5_dropOldestState cX5_dropOldestState 3 none, Cond.methodLink RL 57 yX5_refill, Cond.instanceMethod yX5_refill, Cond.selects RX5 yX5_refill yX5_refill, Cond.code yX5_refill cX5_refill 2 (some .int), Cond.methodLink RX5 76 yX4_refillSlot, Cond.instanceMethod yX4_refillSlot] : List Cond) ++ (([Cond.selects RX4 yX4_refillSlot yX4_refillSlot, Cond.code yX4_refillSlot cX4_refillSlot 3 (some .int), Cond.methodLink RL 94 yX5_endWeek, Cond.instanceMethod yX5_endWeek, Cond.selects RX5 yX5_endWeek yX5_endWeek, Cond.code yX5_endWeek cX5_endWeek 1 (some .int), Cond.methodLink RX5 79 yX4_finishWeek, Cond.instanceMethod yX4_finishWeek, Cond.selects RX4 yX4_finishWeek yX4_finishWeek, Cond.code yX4_finishWeek cX4_finishWeek 4 (some .int), Cond.methodLink RL 60 yX5_move, Cond.instanceMethod yX5_move, Cond.selects RX5 yX5_move yX5_move, Cond.code yX5_move cX5_move 3 (some .int), Cond.methodLink RX5 83 yX4_moveGood, Cond.instanceMethod yX4_moveGood, Cond.selects RX4 yX4_moveGood yX4_moveGood, Cond.code yX4_moveGood cX4_moveGood 3 (some .int), Cond.methodLink RX4 142 yX4_canGo, Cond.instanceMethod yX4_canGo, Cond.selects RX4 yX4_canGo yX4_canGo, Cond.code yX4_canGo cX4_canGo 5 (some .boolean), Cond.methodLink RX4 103 yX4_bears, Cond.instanceMethod yX4_bears] : List Cond) ++ (([Cond.selects RX4 yX4_bears yX4_bears, Cond.code yX4_bears cX4_bears 3 (some .boolean), Cond.methodLink RX4 82 yX2_heaviestAt, Cond.static yX2_heaviestAt, Cond.code yX2_heaviestAt cX2_heaviestAt 1 (some .int), Cond.methodLink RX4 146 yX4_goTo, Cond.instanceMethod yX4_goTo, Cond.selects RX4 yX4_goTo yX4_goTo, Cond.code yX4_goTo cX4_goTo 6 (some .int), Cond.methodLink RX4 155 yX4_savedByGoing, Cond.instanceMethod yX4_savedByGoing, Cond.selects RX4 yX4_savedByGoing yX4_savedByGoing, Cond.code yX4_savedByGoing cX4_savedByGoing 5 (some .int), Cond.methodLink RX4 149 yX4_walkOfGoing, Cond.instanceMethod yX4_walkOfGoing, Cond.selects RX4 yX4_walkOfGoing yX4_walkOfGoing, Cond.code yX4_walkOfGoing cX4_walkOfGoing 6 (some .int), Cond.methodLink RX4 161 yX2_wayBetween, Cond.static yX2_wayBetween, Cond.code yX2_wayBetween cX2_wayBetween 3 (some .int), Cond.methodLink RX2 16 Lib.Math.abs.name, Cond.static Lib.Math.abs.name, Cond.code Lib.Math.abs.name Lib.Math.abs.code 1 (some .int), Cond.methodLink RX4 107 yX4_standIn] : List Cond) ++ (([Cond.instanceMethod yX4_standIn, Cond.selects RX4 yX4_standIn yX4_standIn, Cond.code yX4_standIn cX4_standIn 3 none, Cond.methodLink RL 63 yX5_exchange, Cond.instanceMethod yX5_exchange, Cond.selects RX5 yX5_exchange yX5_exchange, Cond.code yX5_exchange cX5_exchange 3 (some .int), Cond.methodLink RX5 86 yX4_exchangeGoods, Cond.instanceMethod yX4_exchangeGoods, Cond.selects RX4 yX4_exchangeGoods yX4_exchangeGoods, Cond.code yX4_exchangeGoods cX4_exchangeGoods 3 (some .int), Cond.methodLink RL 72 yX5_improve, Cond.instanceMethod yX5_improve, Cond.selects RX5 yX5_improve yX5_improve, Cond.code yX5_improve cX5_improve 2 (some .int), Cond.methodLink RX5 95 yX4_doBest, Cond.instanceMethod yX4_doBest, Cond.selects RX4 yX4_doBest yX4_doBest, Cond.code yX4_doBest cX4_doBest 4 (some .int), Cond.methodLink RX4 158 yX4_bestGoing, Cond.instanceMethod yX4_bestGoing, Cond.selects RX4 yX4_bestGoing yX4_bestGoing, Cond.code yX4_bestGoing cX4_bestGoing 5 (some .int), Cond.methodLink RX4 152 yX4_worthOfGoing] : List Cond) ++ (([Cond.instanceMethod yX4_worthOfGoing, Cond.selects RX4 yX4_worthOfGoing yX4_worthOfGoing, Cond.code yX4_worthOfGoing cX4_worthOfGoing 3 (some .int), Cond.methodLink RL 45 yX5_take, Cond.instanceMethod yX5_take, Cond.selects RX5 yX5_take yX5_take, Cond.code yX5_take cX5_take 2 (some .int), Cond.methodLink RX5 61 yX4_takeOutOfSlot, Cond.instanceMethod yX4_takeOutOfSlot, Cond.selects RX4 yX4_takeOutOfSlot yX4_takeOutOfSlot, Cond.code yX4_takeOutOfSlot cX4_takeOutOfSlot 3 (some .int), Cond.methodLink RL 35 yX5_demand, Cond.instanceMethod yX5_demand, Cond.selects RX5 yX5_demand yX5_demand, Cond.code yX5_demand cX5_demand 4 (some .int), Cond.methodLink RX5 51 yX4_changeDemand, Cond.instanceMethod yX4_changeDemand, Cond.selects RX4 yX4_changeDemand yX4_changeDemand, Cond.code yX4_changeDemand cX4_changeDemand 5 (some .int), Cond.methodLink RL 81 yX5_set, Cond.instanceMethod yX5_set, Cond.selects RX5 yX5_set yX5_set, Cond.code yX5_set cX5_set 3 (some .int), Cond.methodLink RX5 122 yX4_changeSetting] : List Cond) ++ (([Cond.instanceMethod yX4_changeSetting, Cond.selects RX4 yX4_changeSetting yX4_changeSetting, Cond.code yX4_changeSetting cX4_changeSetting 4 (some .int), Cond.fieldLink RX4 199 "PickSlots$Warehouse" "LEAST_SETTINGS" "[I", Cond.fieldLink RX4 202 "PickSlots$Warehouse" "GREATEST_SETTINGS" "[I", Cond.methodLink RL 42 yX5_place, Cond.instanceMethod yX5_place, Cond.selects RX5 yX5_place yX5_place, Cond.code yX5_place cX5_place 3 (some .int), Cond.methodLink RX5 58 yX4_putIntoSlot, Cond.instanceMethod yX4_putIntoSlot, Cond.selects RX4 yX4_putIntoSlot yX4_putIntoSlot, Cond.code yX4_putIntoSlot cX4_putIntoSlot 3 (some .int), Cond.methodLink RL 39 yX5_deliver, Cond.instanceMethod yX5_deliver, Cond.selects RX5 yX5_deliver yX5_deliver, Cond.code yX5_deliver cX5_deliver 3 (some .int), Cond.methodLink RX5 55 yX4_addToStore, Cond.instanceMethod yX4_addToStore, Cond.selects RX4 yX4_addToStore yX4_addToStore, Cond.code yX4_addToStore cX4_addToStore 3 (some .int), Cond.constant RX4 99 (100000), Cond.methodLink RL 102 yL_sound, Cond.static yL_sound] : List Cond) ++ (([Cond.code yL_sound cL_sound 13 (some .boolean)] : List Cond) ++ (([Cond.methodLink RL 48 yX5_slotOf, Cond.instanceMethod yX5_slotOf, Cond.selects RX5 yX5_slotOf yX5_slotOf, Cond.code yX5_slotOf cX5_slotOf 3 (some .int), Cond.methodLink RX5 67 yX4_numberOfSlot, Cond.instanceMethod yX4_numberOfSlot, Cond.selects RX4 yX4_numberOfSlot yX4_numberOfSlot, Cond.code yX4_numberOfSlot cX4_numberOfSlot 3 (some .int), Cond.methodLink RL 51 yX5_nearest, Cond.instanceMethod yX5_nearest, Cond.selects RX5 yX5_nearest yX5_nearest, Cond.code yX5_nearest cX5_nearest 2 (some .int), Cond.methodLink RX5 70 yX4_nearestFreeSlot, Cond.instanceMethod yX4_nearestFreeSlot, Cond.selects RX4 yX4_nearestFreeSlot yX4_nearestFreeSlot, Cond.code yX4_nearestFreeSlot cX4_nearestFreeSlot 5 (some .int), Cond.methodLink RL 78 yX5_atBest, Cond.instanceMethod yX5_atBest, Cond.selects RX5 yX5_atBest yX5_atBest, Cond.code yX5_atBest cX5_atBest 2 (some .int), Cond.fieldLink RX5 25 "PickSlots" "demands" "LPickSlots$SortedRow;", Cond.fieldLink RX5 29 "PickSlots" "walks" "LPickSlots$SortedRow;", Cond.methodLink RX5 105 yX4_shortestWalk, Cond.instanceMethod yX4_shortestWalk] : List Cond) ++ (([Cond.selects RX4 yX4_shortestWalk yX4_shortestWalk, Cond.code yX4_shortestWalk cX4_shortestWalk 6 (some .int), Cond.methodLink RX4 181 yX3_insert, Cond.instanceMethod yX3_insert, Cond.selects RX3 yX3_insert yX3_insert, Cond.initialized RX3, Cond.code yX3_insert cX3_insert 3 none, Cond.fieldLink RX3 15 "PickSlots$SortedRow" "size" "I", Cond.fieldLink RX3 9 "PickSlots$SortedRow" "values" "[I", Cond.methodLink RX4 185 yX3_valueAt, Cond.instanceMethod yX3_valueAt, Cond.selects RX3 yX3_valueAt yX3_valueAt, Cond.code yX3_valueAt cX3_valueAt 2 (some .int), Cond.methodLink RL 69 yX5_best, Cond.instanceMethod yX5_best, Cond.selects RX5 yX5_best yX5_best, Cond.code yX5_best cX5_best 2 (some .int), Cond.methodLink RX5 92 yX4_numberOfBest, Cond.instanceMethod yX4_numberOfBest, Cond.selects RX4 yX4_numberOfBest yX4_numberOfBest, Cond.code yX4_numberOfBest cX4_numberOfBest 5 (some .int), Cond.methodLink RL 106 yX5_undo, Cond.instanceMethod yX5_undo, Cond.selects RX5 yX5_undo yX5_undo] : List Cond) ++ (([Cond.code yX5_undo cX5_undo 2 (some .int)] : List Cond) ++ ((wsX50 : List Cond) ++ ((wsX10 : List Cond) ++ ((wsX40 : List Cond) ++ ((wsX00 : List Cond) ++ ((wsX30 : List Cond))))))))))))))))))))))))), w ∈ wsL_law
  exact mem_app ggL_law_L_acts_0 (mem_app ggL_law_L_acts_1 (mem_app ggL_law_L_acts_2 (mem_app ggL_law_L_acts_3 (mem_app ggL_law_L_acts_4 (mem_app ggL_law_L_acts_5 (mem_app ggL_law_L_acts_6 (mem_app ggL_law_L_acts_7 (mem_app ggL_law_L_acts_8 (mem_app ggL_law_L_acts_9 (mem_app ggL_law_L_acts_10 (mem_app ggL_law_L_acts_11 (mem_app ggL_law_L_acts_12 (mem_app ggL_law_L_acts_13 (mem_app ggL_law_L_acts_14 (mem_app ggL_law_L_acts_15 (mem_app ggL_law_L_acts_16 (mem_app ggL_law_L_acts_17 (mem_app ggL_law_L_acts_18 (mem_app ggL_law_L_acts_19 (mem_app ggL_law_L_acts_20 (mem_app ggL_law_L_acts_21 (mem_app ggL_law_L_acts_22 (ggL_law_L_acts_23)))))))))))))))))))))))
set_option maxRecDepth 20000 in
theorem ggL_law_L_acts : GoodIn wsL_law wsL_acts := goodIn_sub ggL_law_L_acts_m (by decide +kernel)
set_option maxRecDepth 20000 in
theorem gL_law_L_acts : GoodIn wsL_law (va_wsS RL 124 yL_acts wsL_acts) := goodIn_app (goodIn_of _ (by decide +kernel)) ggL_law_L_acts
theorem dL_law_0 : decode cL_law 0 = .ok (.new 14, 3) := by decide +kernel
theorem dL_law_3 : decode cL_law 3 = .ok (.dup, 1) := by decide +kernel
theorem dL_law_4 : decode cL_law 4 = .ok (.invokespecial 109, 3) := by decide +kernel
theorem dL_law_7 : decode cL_law 7 = .ok (.astore_n 1, 1) := by decide +kernel
theorem dL_law_8 : decode cL_law 8 = .ok (.bipush 20, 2) := by decide +kernel
theorem dL_law_10 : decode cL_law 10 = .ok (.newarray .int, 2) := by decide +kernel
theorem dL_law_12 : decode cL_law 12 = .ok (.astore_n 2, 1) := by decide +kernel
theorem dL_law_13 : decode cL_law 13 = .ok (.aload_n 1, 1) := by decide +kernel
theorem dL_law_14 : decode cL_law 14 = .ok (.invokevirtual 106, 3) := by decide +kernel
theorem dL_law_17 : decode cL_law 17 = .ok (.bipush (-2), 2) := by decide +kernel
theorem dL_law_19 : decode cL_law 19 = .ok (.if_icmp .ne 104, 3) := by decide +kernel
theorem dL_law_22 : decode cL_law 22 = .ok (.aload_n 1, 1) := by decide +kernel
theorem dL_law_23 : decode cL_law 23 = .ok (.bipush 20, 2) := by decide +kernel
theorem dL_law_25 : decode cL_law 25 = .ok (.invokevirtual 19, 3) := by decide +kernel
theorem dL_law_28 : decode cL_law 28 = .ok (.bipush 30, 2) := by decide +kernel
theorem dL_law_30 : decode cL_law 30 = .ok (.if_icmp .ne 93, 3) := by decide +kernel
theorem dL_law_33 : decode cL_law 33 = .ok (.aload_n 1, 1) := by decide +kernel
theorem dL_law_34 : decode cL_law 34 = .ok (.bipush 21, 2) := by decide +kernel
theorem dL_law_36 : decode cL_law 36 = .ok (.invokevirtual 19, 3) := by decide +kernel
theorem dL_law_39 : decode cL_law 39 = .ok (.bipush 60, 2) := by decide +kernel
theorem dL_law_41 : decode cL_law 41 = .ok (.if_icmp .ne 82, 3) := by decide +kernel
theorem dL_law_44 : decode cL_law 44 = .ok (.aload_n 1, 1) := by decide +kernel
theorem dL_law_45 : decode cL_law 45 = .ok (.bipush 22, 2) := by decide +kernel
theorem dL_law_47 : decode cL_law 47 = .ok (.invokevirtual 19, 3) := by decide +kernel
theorem dL_law_50 : decode cL_law 50 = .ok (.iconst 1, 1) := by decide +kernel
theorem dL_law_51 : decode cL_law 51 = .ok (.if_icmp .ne 72, 3) := by decide +kernel
theorem dL_law_54 : decode cL_law 54 = .ok (.aload_n 1, 1) := by decide +kernel
theorem dL_law_55 : decode cL_law 55 = .ok (.iconst 4, 1) := by decide +kernel
theorem dL_law_56 : decode cL_law 56 = .ok (.invokevirtual 19, 3) := by decide +kernel
theorem dL_law_59 : decode cL_law 59 = .ok (.bipush 13, 2) := by decide +kernel
theorem dL_law_61 : decode cL_law 61 = .ok (.if_icmp .ne 62, 3) := by decide +kernel
theorem dL_law_64 : decode cL_law 64 = .ok (.aload_n 1, 1) := by decide +kernel
theorem dL_law_65 : decode cL_law 65 = .ok (.iconst 1, 1) := by decide +kernel
theorem dL_law_66 : decode cL_law 66 = .ok (.invokevirtual 72, 3) := by decide +kernel
theorem dL_law_69 : decode cL_law 69 = .ok (.bipush (-4), 2) := by decide +kernel
theorem dL_law_71 : decode cL_law 71 = .ok (.if_icmp .ne 52, 3) := by decide +kernel
theorem dL_law_74 : decode cL_law 74 = .ok (.aload_n 1, 1) := by decide +kernel
theorem dL_law_75 : decode cL_law 75 = .ok (.iconst 2, 1) := by decide +kernel
theorem dL_law_76 : decode cL_law 76 = .ok (.invokevirtual 69, 3) := by decide +kernel
theorem dL_law_79 : decode cL_law 79 = .ok (.bipush (-4), 2) := by decide +kernel
theorem dL_law_81 : decode cL_law 81 = .ok (.if_icmp .ne 42, 3) := by decide +kernel
theorem dL_law_84 : decode cL_law 84 = .ok (.aload_n 1, 1) := by decide +kernel
theorem dL_law_85 : decode cL_law 85 = .ok (.invokevirtual 110, 3) := by decide +kernel
theorem dL_law_88 : decode cL_law 88 = .ok (.ifCond .ne 35, 3) := by decide +kernel
theorem dL_law_91 : decode cL_law 91 = .ok (.aload_n 1, 1) := by decide +kernel
theorem dL_law_92 : decode cL_law 92 = .ok (.invokevirtual 106, 3) := by decide +kernel
theorem dL_law_95 : decode cL_law 95 = .ok (.ifCond .ne 28, 3) := by decide +kernel
theorem dL_law_98 : decode cL_law 98 = .ok (.aload_n 1, 1) := by decide +kernel
theorem dL_law_99 : decode cL_law 99 = .ok (.iconst 0, 1) := by decide +kernel
theorem dL_law_100 : decode cL_law 100 = .ok (.invokevirtual 87, 3) := by decide +kernel
theorem dL_law_103 : decode cL_law 103 = .ok (.bipush (-4), 2) := by decide +kernel
theorem dL_law_105 : decode cL_law 105 = .ok (.if_icmp .ne 18, 3) := by decide +kernel
theorem dL_law_108 : decode cL_law 108 = .ok (.aload_n 1, 1) := by decide +kernel
theorem dL_law_109 : decode cL_law 109 = .ok (.invokestatic 113, 3) := by decide +kernel
theorem dL_law_112 : decode cL_law 112 = .ok (.ifCond .eq 11, 3) := by decide +kernel
theorem dL_law_115 : decode cL_law 115 = .ok (.aload_n 1, 1) := by decide +kernel
theorem dL_law_116 : decode cL_law 116 = .ok (.aload_n 2, 1) := by decide +kernel
theorem dL_law_117 : decode cL_law 117 = .ok (.invokestatic 102, 3) := by decide +kernel
theorem dL_law_120 : decode cL_law 120 = .ok (.ifCond .ne 5, 3) := by decide +kernel
theorem dL_law_123 : decode cL_law 123 = .ok (.iconst 0, 1) := by decide +kernel
theorem dL_law_124 : decode cL_law 124 = .ok (.ireturn, 1) := by decide +kernel
theorem dL_law_125 : decode cL_law 125 = .ok (.iconst 2, 1) := by decide +kernel
theorem dL_law_126 : decode cL_law 126 = .ok (.aload_n 0, 1) := by decide +kernel
theorem dL_law_127 : decode cL_law 127 = .ok (.iconst 0, 1) := by decide +kernel
theorem dL_law_128 : decode cL_law 128 = .ok (.invokestatic 117, 3) := by decide +kernel
theorem dL_law_131 : decode cL_law 131 = .ok (.bipush 7, 2) := by decide +kernel
theorem dL_law_133 : decode cL_law 133 = .ok (.invokestatic 91, 3) := by decide +kernel
theorem dL_law_136 : decode cL_law 136 = .ok (.iadd, 1) := by decide +kernel
theorem dL_law_137 : decode cL_law 137 = .ok (.istore_n 3, 1) := by decide +kernel
theorem dL_law_138 : decode cL_law 138 = .ok (.iconst 0, 1) := by decide +kernel
theorem dL_law_139 : decode cL_law 139 = .ok (.istore 4, 2) := by decide +kernel
theorem dL_law_141 : decode cL_law 141 = .ok (.iload 4, 2) := by decide +kernel
theorem dL_law_143 : decode cL_law 143 = .ok (.iload_n 3, 1) := by decide +kernel
theorem dL_law_144 : decode cL_law 144 = .ok (.if_icmp .ge 164, 3) := by decide +kernel
theorem dL_law_147 : decode cL_law 147 = .ok (.aload_n 0, 1) := by decide +kernel
theorem dL_law_148 : decode cL_law 148 = .ok (.iconst 1, 1) := by decide +kernel
theorem dL_law_149 : decode cL_law 149 = .ok (.iload 4, 2) := by decide +kernel
theorem dL_law_151 : decode cL_law 151 = .ok (.iadd, 1) := by decide +kernel
theorem dL_law_152 : decode cL_law 152 = .ok (.invokestatic 117, 3) := by decide +kernel
theorem dL_law_155 : decode cL_law 155 = .ok (.istore 5, 2) := by decide +kernel
theorem dL_law_157 : decode cL_law 157 = .ok (.iload 5, 2) := by decide +kernel
theorem dL_law_159 : decode cL_law 159 = .ok (.iconst 3, 1) := by decide +kernel
theorem dL_law_160 : decode cL_law 160 = .ok (.iand, 1) := by decide +kernel
theorem dL_law_161 : decode cL_law 161 = .ok (.ifCond .ne 17, 3) := by decide +kernel
theorem dL_law_164 : decode cL_law 164 = .ok (.iconst 1, 1) := by decide +kernel
theorem dL_law_165 : decode cL_law 165 = .ok (.iload 5, 2) := by decide +kernel
theorem dL_law_167 : decode cL_law 167 = .ok (.iconst 2, 1) := by decide +kernel
theorem dL_law_168 : decode cL_law 168 = .ok (.ishr, 1) := by decide +kernel
theorem dL_law_169 : decode cL_law 169 = .ok (.bipush 40, 2) := by decide +kernel
theorem dL_law_171 : decode cL_law 171 = .ok (.invokestatic 91, 3) := by decide +kernel
theorem dL_law_174 : decode cL_law 174 = .ok (.iadd, 1) := by decide +kernel
theorem dL_law_175 : decode cL_law 175 = .ok (.goto 14, 3) := by decide +kernel
theorem dL_law_178 : decode cL_law 178 = .ok (.iconst 1, 1) := by decide +kernel
theorem dL_law_179 : decode cL_law 179 = .ok (.iload 5, 2) := by decide +kernel
theorem dL_law_181 : decode cL_law 181 = .ok (.iconst 2, 1) := by decide +kernel
theorem dL_law_182 : decode cL_law 182 = .ok (.ishr, 1) := by decide +kernel
theorem dL_law_183 : decode cL_law 183 = .ok (.bipush 8, 2) := by decide +kernel
theorem dL_law_185 : decode cL_law 185 = .ok (.invokestatic 91, 3) := by decide +kernel
theorem dL_law_188 : decode cL_law 188 = .ok (.iadd, 1) := by decide +kernel
theorem dL_law_189 : decode cL_law 189 = .ok (.istore 6, 2) := by decide +kernel
theorem dL_law_191 : decode cL_law 191 = .ok (.aload_n 1, 1) := by decide +kernel
theorem dL_law_192 : decode cL_law 192 = .ok (.iload 6, 2) := by decide +kernel
theorem dL_law_194 : decode cL_law 194 = .ok (.iconst 1, 1) := by decide +kernel
theorem dL_law_195 : decode cL_law 195 = .ok (.iload 5, 2) := by decide +kernel
theorem dL_law_197 : decode cL_law 197 = .ok (.bipush 8, 2) := by decide +kernel
theorem dL_law_199 : decode cL_law 199 = .ok (.ishr, 1) := by decide +kernel
theorem dL_law_200 : decode cL_law 200 = .ok (.bipush 60, 2) := by decide +kernel
theorem dL_law_202 : decode cL_law 202 = .ok (.invokestatic 91, 3) := by decide +kernel
theorem dL_law_205 : decode cL_law 205 = .ok (.iadd, 1) := by decide +kernel
theorem dL_law_206 : decode cL_law 206 = .ok (.invokevirtual 32, 3) := by decide +kernel
theorem dL_law_209 : decode cL_law 209 = .ok (.iload 4, 2) := by decide +kernel
theorem dL_law_211 : decode cL_law 211 = .ok (.if_icmp .ne 24, 3) := by decide +kernel
theorem dL_law_214 : decode cL_law 214 = .ok (.aload_n 1, 1) := by decide +kernel
theorem dL_law_215 : decode cL_law 215 = .ok (.iload 4, 2) := by decide +kernel
theorem dL_law_217 : decode cL_law 217 = .ok (.iconst 0, 1) := by decide +kernel
theorem dL_law_218 : decode cL_law 218 = .ok (.invokevirtual 22, 3) := by decide +kernel
theorem dL_law_221 : decode cL_law 221 = .ok (.iload 6, 2) := by decide +kernel
theorem dL_law_223 : decode cL_law 223 = .ok (.if_icmp .ne 12, 3) := by decide +kernel
theorem dL_law_226 : decode cL_law 226 = .ok (.aload_n 1, 1) := by decide +kernel
theorem dL_law_227 : decode cL_law 227 = .ok (.iload 4, 2) := by decide +kernel
theorem dL_law_229 : decode cL_law 229 = .ok (.invokevirtual 51, 3) := by decide +kernel
theorem dL_law_232 : decode cL_law 232 = .ok (.ifCond .ge 5, 3) := by decide +kernel
theorem dL_law_235 : decode cL_law 235 = .ok (.iconst 0, 1) := by decide +kernel
theorem dL_law_236 : decode cL_law 236 = .ok (.ireturn, 1) := by decide +kernel
theorem dL_law_237 : decode cL_law 237 = .ok (.aload_n 2, 1) := by decide +kernel
theorem dL_law_238 : decode cL_law 238 = .ok (.iload 4, 2) := by decide +kernel
theorem dL_law_240 : decode cL_law 240 = .ok (.iconst 1, 1) := by decide +kernel
theorem dL_law_241 : decode cL_law 241 = .ok (.iload 5, 2) := by decide +kernel
theorem dL_law_243 : decode cL_law 243 = .ok (.bipush 14, 2) := by decide +kernel
theorem dL_law_245 : decode cL_law 245 = .ok (.ishr, 1) := by decide +kernel
theorem dL_law_246 : decode cL_law 246 = .ok (.sipush 300, 3) := by decide +kernel
theorem dL_law_249 : decode cL_law 249 = .ok (.invokestatic 91, 3) := by decide +kernel
theorem dL_law_252 : decode cL_law 252 = .ok (.iadd, 1) := by decide +kernel
theorem dL_law_253 : decode cL_law 253 = .ok (.iastore, 1) := by decide +kernel
theorem dL_law_254 : decode cL_law 254 = .ok (.aload_n 1, 1) := by decide +kernel
theorem dL_law_255 : decode cL_law 255 = .ok (.iload 4, 2) := by decide +kernel
theorem dL_law_257 : decode cL_law 257 = .ok (.aload_n 2, 1) := by decide +kernel
theorem dL_law_258 : decode cL_law 258 = .ok (.iload 4, 2) := by decide +kernel
theorem dL_law_260 : decode cL_law 260 = .ok (.iaload, 1) := by decide +kernel
theorem dL_law_261 : decode cL_law 261 = .ok (.invokevirtual 39, 3) := by decide +kernel
theorem dL_law_264 : decode cL_law 264 = .ok (.aload_n 2, 1) := by decide +kernel
theorem dL_law_265 : decode cL_law 265 = .ok (.iload 4, 2) := by decide +kernel
theorem dL_law_267 : decode cL_law 267 = .ok (.iaload, 1) := by decide +kernel
theorem dL_law_268 : decode cL_law 268 = .ok (.if_icmp .ne 32, 3) := by decide +kernel
theorem dL_law_271 : decode cL_law 271 = .ok (.aload_n 1, 1) := by decide +kernel
theorem dL_law_272 : decode cL_law 272 = .ok (.iload 4, 2) := by decide +kernel
theorem dL_law_274 : decode cL_law 274 = .ok (.iload 5, 2) := by decide +kernel
theorem dL_law_276 : decode cL_law 276 = .ok (.bipush 23, 2) := by decide +kernel
theorem dL_law_278 : decode cL_law 278 = .ok (.ishr, 1) := by decide +kernel
theorem dL_law_279 : decode cL_law 279 = .ok (.iconst 2, 1) := by decide +kernel
theorem dL_law_280 : decode cL_law 280 = .ok (.invokestatic 91, 3) := by decide +kernel
theorem dL_law_283 : decode cL_law 283 = .ok (.iload 5, 2) := by decide +kernel
theorem dL_law_285 : decode cL_law 285 = .ok (.bipush 20, 2) := by decide +kernel
theorem dL_law_287 : decode cL_law 287 = .ok (.ishr, 1) := by decide +kernel
theorem dL_law_288 : decode cL_law 288 = .ok (.sipush 1000, 3) := by decide +kernel
theorem dL_law_291 : decode cL_law 291 = .ok (.invokestatic 91, 3) := by decide +kernel
theorem dL_law_294 : decode cL_law 294 = .ok (.invokevirtual 35, 3) := by decide +kernel
theorem dL_law_297 : decode cL_law 297 = .ok (.ifCond .eq 5, 3) := by decide +kernel
theorem dL_law_300 : decode cL_law 300 = .ok (.iconst 0, 1) := by decide +kernel
theorem dL_law_301 : decode cL_law 301 = .ok (.ireturn, 1) := by decide +kernel
theorem dL_law_302 : decode cL_law 302 = .ok (.iinc 4 1, 3) := by decide +kernel
theorem dL_law_305 : decode cL_law 305 = .ok (.goto (-164), 3) := by decide +kernel
theorem dL_law_308 : decode cL_law 308 = .ok (.iconst 0, 1) := by decide +kernel
theorem dL_law_309 : decode cL_law 309 = .ok (.istore 4, 2) := by decide +kernel
theorem dL_law_311 : decode cL_law 311 = .ok (.iload 4, 2) := by decide +kernel
theorem dL_law_313 : decode cL_law 313 = .ok (.iload_n 3, 1) := by decide +kernel
theorem dL_law_314 : decode cL_law 314 = .ok (.if_icmp .ge 110, 3) := by decide +kernel
theorem dL_law_317 : decode cL_law 317 = .ok (.aload_n 0, 1) := by decide +kernel
theorem dL_law_318 : decode cL_law 318 = .ok (.bipush 9, 2) := by decide +kernel
theorem dL_law_320 : decode cL_law 320 = .ok (.iload 4, 2) := by decide +kernel
theorem dL_law_322 : decode cL_law 322 = .ok (.iadd, 1) := by decide +kernel
theorem dL_law_323 : decode cL_law 323 = .ok (.invokestatic 117, 3) := by decide +kernel
theorem dL_law_326 : decode cL_law 326 = .ok (.istore 5, 2) := by decide +kernel
theorem dL_law_328 : decode cL_law 328 = .ok (.aload_n 1, 1) := by decide +kernel
theorem dL_law_329 : decode cL_law 329 = .ok (.iload 4, 2) := by decide +kernel
theorem dL_law_331 : decode cL_law 331 = .ok (.invokevirtual 51, 3) := by decide +kernel
theorem dL_law_334 : decode cL_law 334 = .ok (.istore 6, 2) := by decide +kernel
theorem dL_law_336 : decode cL_law 336 = .ok (.iload 5, 2) := by decide +kernel
theorem dL_law_338 : decode cL_law 338 = .ok (.iconst 3, 1) := by decide +kernel
theorem dL_law_339 : decode cL_law 339 = .ok (.iand, 1) := by decide +kernel
theorem dL_law_340 : decode cL_law 340 = .ok (.ifCond .ne 8, 3) := by decide +kernel
theorem dL_law_343 : decode cL_law 343 = .ok (.iload 6, 2) := by decide +kernel
theorem dL_law_345 : decode cL_law 345 = .ok (.goto 12, 3) := by decide +kernel
theorem dL_law_348 : decode cL_law 348 = .ok (.iload 5, 2) := by decide +kernel
theorem dL_law_350 : decode cL_law 350 = .ok (.iconst 2, 1) := by decide +kernel
theorem dL_law_351 : decode cL_law 351 = .ok (.ishr, 1) := by decide +kernel
theorem dL_law_352 : decode cL_law 352 = .ok (.bipush 60, 2) := by decide +kernel
theorem dL_law_354 : decode cL_law 354 = .ok (.invokestatic 91, 3) := by decide +kernel
theorem dL_law_357 : decode cL_law 357 = .ok (.istore 7, 2) := by decide +kernel
theorem dL_law_359 : decode cL_law 359 = .ok (.aload_n 1, 1) := by decide +kernel
theorem dL_law_360 : decode cL_law 360 = .ok (.iload 4, 2) := by decide +kernel
theorem dL_law_362 : decode cL_law 362 = .ok (.iload 7, 2) := by decide +kernel
theorem dL_law_364 : decode cL_law 364 = .ok (.invokevirtual 42, 3) := by decide +kernel
theorem dL_law_367 : decode cL_law 367 = .ok (.istore 8, 2) := by decide +kernel
theorem dL_law_369 : decode cL_law 369 = .ok (.iload 8, 2) := by decide +kernel
theorem dL_law_371 : decode cL_law 371 = .ok (.ifCond .lt 31, 3) := by decide +kernel
theorem dL_law_374 : decode cL_law 374 = .ok (.iload 8, 2) := by decide +kernel
theorem dL_law_376 : decode cL_law 376 = .ok (.aload_n 1, 1) := by decide +kernel
theorem dL_law_377 : decode cL_law 377 = .ok (.iload 7, 2) := by decide +kernel
theorem dL_law_379 : decode cL_law 379 = .ok (.iconst 1, 1) := by decide +kernel
theorem dL_law_380 : decode cL_law 380 = .ok (.invokevirtual 48, 3) := by decide +kernel
theorem dL_law_383 : decode cL_law 383 = .ok (.if_icmp .ne 33, 3) := by decide +kernel
theorem dL_law_386 : decode cL_law 386 = .ok (.aload_n 1, 1) := by decide +kernel
theorem dL_law_387 : decode cL_law 387 = .ok (.iload 4, 2) := by decide +kernel
theorem dL_law_389 : decode cL_law 389 = .ok (.bipush 6, 2) := by decide +kernel
theorem dL_law_391 : decode cL_law 391 = .ok (.invokevirtual 22, 3) := by decide +kernel
theorem dL_law_394 : decode cL_law 394 = .ok (.iload 7, 2) := by decide +kernel
theorem dL_law_396 : decode cL_law 396 = .ok (.if_icmp .eq 22, 3) := by decide +kernel
theorem dL_law_399 : decode cL_law 399 = .ok (.goto 17, 3) := by decide +kernel
theorem dL_law_402 : decode cL_law 402 = .ok (.iload 8, 2) := by decide +kernel
theorem dL_law_404 : decode cL_law 404 = .ok (.bipush (-2), 2) := by decide +kernel
theorem dL_law_406 : decode cL_law 406 = .ok (.if_icmp .ne 10, 3) := by decide +kernel
theorem dL_law_409 : decode cL_law 409 = .ok (.iload 7, 2) := by decide +kernel
theorem dL_law_411 : decode cL_law 411 = .ok (.iload 6, 2) := by decide +kernel
theorem dL_law_413 : decode cL_law 413 = .ok (.if_icmp .ne 5, 3) := by decide +kernel
theorem dL_law_416 : decode cL_law 416 = .ok (.iconst 0, 1) := by decide +kernel
theorem dL_law_417 : decode cL_law 417 = .ok (.ireturn, 1) := by decide +kernel
theorem dL_law_418 : decode cL_law 418 = .ok (.iinc 4 1, 3) := by decide +kernel
theorem dL_law_421 : decode cL_law 421 = .ok (.goto (-110), 3) := by decide +kernel
theorem dL_law_424 : decode cL_law 424 = .ok (.aload_n 1, 1) := by decide +kernel
theorem dL_law_425 : decode cL_law 425 = .ok (.aload_n 2, 1) := by decide +kernel
theorem dL_law_426 : decode cL_law 426 = .ok (.invokestatic 102, 3) := by decide +kernel
theorem dL_law_429 : decode cL_law 429 = .ok (.ifCond .eq 17, 3) := by decide +kernel
theorem dL_law_432 : decode cL_law 432 = .ok (.aload_n 1, 1) := by decide +kernel
theorem dL_law_433 : decode cL_law 433 = .ok (.invokestatic 121, 3) := by decide +kernel
theorem dL_law_436 : decode cL_law 436 = .ok (.ifCond .eq 10, 3) := by decide +kernel
theorem dL_law_439 : decode cL_law 439 = .ok (.aload_n 1, 1) := by decide +kernel
theorem dL_law_440 : decode cL_law 440 = .ok (.invokestatic 113, 3) := by decide +kernel
theorem dL_law_443 : decode cL_law 443 = .ok (.ifCond .ne 5, 3) := by decide +kernel
theorem dL_law_446 : decode cL_law 446 = .ok (.iconst 0, 1) := by decide +kernel
theorem dL_law_447 : decode cL_law 447 = .ok (.ireturn, 1) := by decide +kernel
theorem dL_law_448 : decode cL_law 448 = .ok (.iconst 0, 1) := by decide +kernel
theorem dL_law_449 : decode cL_law 449 = .ok (.istore 4, 2) := by decide +kernel
theorem dL_law_451 : decode cL_law 451 = .ok (.iload 4, 2) := by decide +kernel
theorem dL_law_453 : decode cL_law 453 = .ok (.bipush 14, 2) := by decide +kernel
theorem dL_law_455 : decode cL_law 455 = .ok (.if_icmp .ge 28, 3) := by decide +kernel
theorem dL_law_458 : decode cL_law 458 = .ok (.aload_n 1, 1) := by decide +kernel
theorem dL_law_459 : decode cL_law 459 = .ok (.aload_n 0, 1) := by decide +kernel
theorem dL_law_460 : decode cL_law 460 = .ok (.bipush 17, 2) := by decide +kernel
theorem dL_law_462 : decode cL_law 462 = .ok (.iload 4, 2) := by decide +kernel
theorem dL_law_464 : decode cL_law 464 = .ok (.iadd, 1) := by decide +kernel
theorem dL_law_465 : decode cL_law 465 = .ok (.invokestatic 117, 3) := by decide +kernel
theorem dL_law_468 : decode cL_law 468 = .ok (.aload_n 2, 1) := by decide +kernel
theorem dL_law_469 : decode cL_law 469 = .ok (.invokestatic 124, 3) := by decide +kernel
theorem dL_law_472 : decode cL_law 472 = .ok (.ifCond .ne 5, 3) := by decide +kernel
theorem dL_law_475 : decode cL_law 475 = .ok (.iconst 0, 1) := by decide +kernel
theorem dL_law_476 : decode cL_law 476 = .ok (.ireturn, 1) := by decide +kernel
theorem dL_law_477 : decode cL_law 477 = .ok (.iinc 4 1, 3) := by decide +kernel
theorem dL_law_480 : decode cL_law 480 = .ok (.goto (-29), 3) := by decide +kernel
theorem dL_law_483 : decode cL_law 483 = .ok (.aload_n 1, 1) := by decide +kernel
theorem dL_law_484 : decode cL_law 484 = .ok (.invokestatic 121, 3) := by decide +kernel
theorem dL_law_487 : decode cL_law 487 = .ok (.ifCond .eq 14, 3) := by decide +kernel
theorem dL_law_490 : decode cL_law 490 = .ok (.aload_n 1, 1) := by decide +kernel
theorem dL_law_491 : decode cL_law 491 = .ok (.invokestatic 113, 3) := by decide +kernel
theorem dL_law_494 : decode cL_law 494 = .ok (.ifCond .eq 7, 3) := by decide +kernel
theorem dL_law_497 : decode cL_law 497 = .ok (.iconst 1, 1) := by decide +kernel
theorem dL_law_498 : decode cL_law 498 = .ok (.goto 4, 3) := by decide +kernel
theorem dL_law_501 : decode cL_law 501 = .ok (.iconst 0, 1) := by decide +kernel
theorem dL_law_502 : decode cL_law 502 = .ok (.ireturn, 1) := by decide +kernel
end
