section
-- ===== PART A: goes FIRST, ahead of the names: the tables' words, and 'selects' of the private methods out of them =====
/-- a private method of a class that the tables say can be made, by its rows of tables_1 -/
def lw_okq (q : MethodName × Nat) : Prop := (q.1.cls ≠ "java/lang/invoke/MethodHandle" ∧ q.1.cls ≠ "java/lang/invoke/VarHandle") ∧ Cond.instantiable q.1.cls q.2 ∈ tables_1 ∧ Cond.privateMethod q.1 ∈ tables_1 ∧ Cond.instanceMethod q.1 ∈ tables_1
theorem lw_p0 : lw_okq (⟨"HiddenBids", "freshDraft", "()LHiddenBids$State;"⟩, 8) := ⟨⟨by decide +kernel, by decide +kernel⟩, List.mem_of_getElem? (i := 12) (by decide +kernel), List.mem_of_getElem? (i := 293) (by decide +kernel), List.mem_of_getElem? (i := 294) (by decide +kernel)⟩
theorem lw_p1 : lw_okq (⟨"HiddenBids", "adopt", "(I)I"⟩, 8) := ⟨⟨by decide +kernel, by decide +kernel⟩, List.mem_of_getElem? (i := 12) (by decide +kernel), List.mem_of_getElem? (i := 312) (by decide +kernel), List.mem_of_getElem? (i := 313) (by decide +kernel)⟩
def lw_privs_1 : List (MethodName × Nat) := [(⟨"HiddenBids", "freshDraft", "()LHiddenBids$State;"⟩, 8), (⟨"HiddenBids", "adopt", "(I)I"⟩, 8)]
theorem lw_r1 : ∀ q ∈ lw_privs_1, lw_okq q := List.forall_mem_cons.mpr ⟨lw_p0, List.forall_mem_cons.mpr ⟨lw_p1, fun _ h => absurd h List.not_mem_nil⟩⟩
def lw_privs : List (MethodName × Nat) := lw_privs_1
def lw_tbl : List Cond := k2_sels lw_privs ++ tables_1
theorem lw_privs_ok : ∀ q ∈ lw_privs, lw_okq q := lw_r1
-- ===== end of PART A; then your names; then what follows =====
def RX0 : String := "HiddenBids$Adviser"
def TX0 : u_T := fun k => match k with
  | 0 => ("HiddenBids$Adviser", "outcome", "LHiddenBids$Outcome;", true)
  | _ => ("HiddenBids$Adviser", "trial", "[I", true)
def tyX0 : Nat → FieldType := fun k => match k with
  | 0 => .object "HiddenBids$Outcome"
  | _ => .array .int
abbrev wsX00 : List Cond := u_ws RX0 TX0 2
theorem nmX0 : ∀ a, a < 2 → ∀ b, b < 2 → a ≠ b → (TX0 a).2.1 ≠ (TX0 b).2.1 := by decide +kernel
theorem tyX0_ok : ∀ k, k < 2 → parseFieldDescriptor (TX0 k).2.2.1 = some (tyX0 k) := by decide +kernel
abbrev cX0_init : ByteArray := prog_2_method_1_code
def yX0_init : MethodName := ⟨RX0, "<init>", "()V"⟩
def RX1 : String := "HiddenBids$History"
def TX1 : u_T := fun k => match k with
  | 0 => ("HiddenBids$History", "states", "[LHiddenBids$State;", true)
  | _ => ("HiddenBids$History", "size", "I", false)
def tyX1 : Nat → FieldType := fun k => match k with
  | 0 => .array (.object "HiddenBids$State")
  | _ => .int
abbrev wsX10 : List Cond := u_ws RX1 TX1 2
theorem nmX1 : ∀ a, a < 2 → ∀ b, b < 2 → a ≠ b → (TX1 a).2.1 ≠ (TX1 b).2.1 := by decide +kernel
theorem tyX1_ok : ∀ k, k < 2 → parseFieldDescriptor (TX1 k).2.2.1 = some (tyX1 k) := by decide +kernel
abbrev cX1_init : ByteArray := prog_3_method_1_code
def yX1_init : MethodName := ⟨RX1, "<init>", "()V"⟩
abbrev cX1_add : ByteArray := prog_3_method_2_code
def yX1_add : MethodName := ⟨RX1, "add", "(LHiddenBids$State;)LHiddenBids$State;"⟩
def RX2 : String := "HiddenBids$Outcome"
def TX2 : u_T := fun k => match k with
  | 0 => ("HiddenBids$Outcome", "winner", "I", false)
  | 1 => ("HiddenBids$Outcome", "greatest", "I", false)
  | 2 => ("HiddenBids$Outcome", "leaders", "I", false)
  | 3 => ("HiddenBids$Outcome", "pot", "I", false)
  | 4 => ("HiddenBids$Outcome", "paid", "[I", true)
  | _ => ("HiddenBids$Outcome", "got", "[I", true)
def tyX2 : Nat → FieldType := fun k => match k with
  | 0 => .int
  | 1 => .int
  | 2 => .int
  | 3 => .int
  | 4 => .array .int
  | _ => .array .int
abbrev wsX20 : List Cond := u_ws RX2 TX2 6
theorem nmX2 : ∀ a, a < 6 → ∀ b, b < 6 → a ≠ b → (TX2 a).2.1 ≠ (TX2 b).2.1 := by decide +kernel
theorem tyX2_ok : ∀ k, k < 6 → parseFieldDescriptor (TX2 k).2.2.1 = some (tyX2 k) := by decide +kernel
abbrev cX2_init : ByteArray := prog_4_method_1_code
def yX2_init : MethodName := ⟨RX2, "<init>", "()V"⟩
abbrev cX2_work : ByteArray := prog_4_method_2_code
def yX2_work : MethodName := ⟨RX2, "work", "(LHiddenBids$State;[I)V"⟩
abbrev cX2_findWinner : ByteArray := prog_4_method_3_code
def yX2_findWinner : MethodName := ⟨RX2, "findWinner", "(I[I)V"⟩
abbrev cX2_payment : ByteArray := prog_4_method_4_code
def yX2_payment : MethodName := ⟨RX2, "payment", "([III)I"⟩
abbrev cX2_sharePot : ByteArray := prog_4_method_5_code
def yX2_sharePot : MethodName := ⟨RX2, "sharePot", "(I)V"⟩
abbrev cX2_coinsBehind : ByteArray := prog_4_method_6_code
def yX2_coinsBehind : MethodName := ⟨RX2, "coinsBehind", "(LHiddenBids$State;I)I"⟩
def RX3 : String := "HiddenBids$PairList"
def TX3 : u_T := fun k => match k with
  | 0 => ("HiddenBids$PairList", "players", "[I", true)
  | 1 => ("HiddenBids$PairList", "bids", "[I", true)
  | 2 => ("HiddenBids$PairList", "times", "[I", true)
  | 3 => ("HiddenBids$PairList", "wins", "[I", true)
  | _ => ("HiddenBids$PairList", "size", "I", false)
def tyX3 : Nat → FieldType := fun k => match k with
  | 0 => .array .int
  | 1 => .array .int
  | 2 => .array .int
  | 3 => .array .int
  | _ => .int
abbrev wsX30 : List Cond := u_ws RX3 TX3 5
theorem nmX3 : ∀ a, a < 5 → ∀ b, b < 5 → a ≠ b → (TX3 a).2.1 ≠ (TX3 b).2.1 := by decide +kernel
theorem tyX3_ok : ∀ k, k < 5 → parseFieldDescriptor (TX3 k).2.2.1 = some (tyX3 k) := by decide +kernel
abbrev cX3_init : ByteArray := prog_5_method_1_code
def yX3_init : MethodName := ⟨RX3, "<init>", "()V"⟩
abbrev cX3_empty : ByteArray := prog_5_method_2_code
def yX3_empty : MethodName := ⟨RX3, "empty", "()V"⟩
abbrev cX3_copyFrom : ByteArray := prog_5_method_3_code
def yX3_copyFrom : MethodName := ⟨RX3, "copyFrom", "(LHiddenBids$PairList;)V"⟩
abbrev cX3_note : ByteArray := prog_5_method_4_code
def yX3_note : MethodName := ⟨RX3, "note", "(IIZ)V"⟩
abbrev cX3_indexOf : ByteArray := prog_5_method_5_code
def yX3_indexOf : MethodName := ⟨RX3, "indexOf", "(II)I"⟩
abbrev cX3_numberOfPair : ByteArray := prog_5_method_6_code
def yX3_numberOfPair : MethodName := ⟨RX3, "numberOfPair", "(II)I"⟩
def RX4 : String := "HiddenBids$RoundLog"
def TX4 : u_T := fun k => match k with
  | 0 => ("HiddenBids$RoundLog", "numbers", "[I", true)
  | 1 => ("HiddenBids$RoundLog", "size", "I", false)
  | _ => ("HiddenBids$RoundLog", "latest", "I", false)
def tyX4 : Nat → FieldType := fun k => match k with
  | 0 => .array .int
  | 1 => .int
  | _ => .int
abbrev wsX40 : List Cond := u_ws RX4 TX4 3
theorem nmX4 : ∀ a, a < 3 → ∀ b, b < 3 → a ≠ b → (TX4 a).2.1 ≠ (TX4 b).2.1 := by decide +kernel
theorem tyX4_ok : ∀ k, k < 3 → parseFieldDescriptor (TX4 k).2.2.1 = some (tyX4 k) := by decide +kernel
abbrev cX4_init : ByteArray := prog_6_method_1_code
def yX4_init : MethodName := ⟨RX4, "<init>", "()V"⟩
abbrev cX4_empty : ByteArray := prog_6_method_2_code
def yX4_empty : MethodName := ⟨RX4, "empty", "()V"⟩
abbrev cX4_copyFrom : ByteArray := prog_6_method_3_code
def yX4_copyFrom : MethodName := ⟨RX4, "copyFrom", "(LHiddenBids$RoundLog;)V"⟩
abbrev cX4_add : ByteArray := prog_6_method_4_code
def yX4_add : MethodName := ⟨RX4, "add", "(LHiddenBids$Outcome;I[I)V"⟩
abbrev cX4_numberOfRound : ByteArray := prog_6_method_5_code
def yX4_numberOfRound : MethodName := ⟨RX4, "numberOfRound", "(III)I"⟩
abbrev cX4_columnOf : ByteArray := prog_6_method_6_code
def yX4_columnOf : MethodName := ⟨RX4, "columnOf", "(II)I"⟩
def RX5 : String := "HiddenBids$State"
def TX5 : u_T := fun k => match k with
  | 0 => ("HiddenBids$State", "players", "I", false)
  | 1 => ("HiddenBids$State", "pot", "I", false)
  | 2 => ("HiddenBids$State", "rounds", "I", false)
  | 3 => ("HiddenBids$State", "openRounds", "I", false)
  | 4 => ("HiddenBids$State", "tableSize", "I", false)
  | 5 => ("HiddenBids$State", "tableSum", "I", false)
  | 6 => ("HiddenBids$State", "rowSize", "I", false)
  | 7 => ("HiddenBids$State", "coins", "[I", true)
  | 8 => ("HiddenBids$State", "points", "[I", true)
  | 9 => ("HiddenBids$State", "bids", "[I", true)
  | 10 => ("HiddenBids$State", "won", "[I", true)
  | 11 => ("HiddenBids$State", "paid", "[I", true)
  | 12 => ("HiddenBids$State", "got", "[I", true)
  | 13 => ("HiddenBids$State", "settings", "[I", true)
  | 14 => ("HiddenBids$State", "lots", "[I", true)
  | 15 => ("HiddenBids$State", "log", "LHiddenBids$RoundLog;", true)
  | _ => ("HiddenBids$State", "pairs", "LHiddenBids$PairList;", true)
def tyX5 : Nat → FieldType := fun k => match k with
  | 0 => .int
  | 1 => .int
  | 2 => .int
  | 3 => .int
  | 4 => .int
  | 5 => .int
  | 6 => .int
  | 7 => .array .int
  | 8 => .array .int
  | 9 => .array .int
  | 10 => .array .int
  | 11 => .array .int
  | 12 => .array .int
  | 13 => .array .int
  | 14 => .array .int
  | 15 => .object "HiddenBids$RoundLog"
  | _ => .object "HiddenBids$PairList"
abbrev wsX50 : List Cond := u_ws RX5 TX5 17
theorem nmX5 : ∀ a, a < 17 → ∀ b, b < 17 → a ≠ b → (TX5 a).2.1 ≠ (TX5 b).2.1 := by decide +kernel
theorem tyX5_ok : ∀ k, k < 17 → parseFieldDescriptor (TX5 k).2.2.1 = some (tyX5 k) := by decide +kernel
abbrev cX5_init : ByteArray := prog_7_method_1_code
def yX5_init : MethodName := ⟨RX5, "<init>", "()V"⟩
abbrev cX5_copyFrom : ByteArray := prog_7_method_2_code
def yX5_copyFrom : MethodName := ⟨RX5, "copyFrom", "(LHiddenBids$State;)V"⟩
abbrev cX5_startGame : ByteArray := prog_7_method_3_code
def yX5_startGame : MethodName := ⟨RX5, "startGame", "(II)I"⟩
abbrev cX5_addLot : ByteArray := prog_7_method_4_code
def yX5_addLot : MethodName := ⟨RX5, "addLot", "(I)I"⟩
abbrev cX5_makeBid : ByteArray := prog_7_method_5_code
def yX5_makeBid : MethodName := ⟨RX5, "makeBid", "(II)I"⟩
abbrev cX5_changeSetting : ByteArray := prog_7_method_6_code
def yX5_changeSetting : MethodName := ⟨RX5, "changeSetting", "(II)I"⟩
abbrev cX5_settle : ByteArray := prog_7_method_7_code
def yX5_settle : MethodName := ⟨RX5, "settle", "(LHiddenBids$Outcome;)I"⟩
abbrev cX5_emptyTable : ByteArray := prog_7_method_8_code
def yX5_emptyTable : MethodName := ⟨RX5, "emptyTable", "()V"⟩
abbrev cX5_hasPlayer : ByteArray := prog_7_method_9_code
def yX5_hasPlayer : MethodName := ⟨RX5, "hasPlayer", "(I)Z"⟩
abbrev cX5_isOver : ByteArray := prog_7_method_10_code
def yX5_isOver : MethodName := ⟨RX5, "isOver", "()Z"⟩
abbrev cX5_nextStake : ByteArray := prog_7_method_11_code
def yX5_nextStake : MethodName := ⟨RX5, "nextStake", "()I"⟩
abbrev cX5_bidCount : ByteArray := prog_7_method_12_code
def yX5_bidCount : MethodName := ⟨RX5, "bidCount", "()I"⟩
abbrev cX5_allCoins : ByteArray := prog_7_method_15_code
def yX5_allCoins : MethodName := ⟨RX5, "allCoins", "()I"⟩
abbrev cX5_leader : ByteArray := prog_7_method_16_code
def yX5_leader : MethodName := ⟨RX5, "leader", "()I"⟩
abbrev cX5_numberOfPlayer : ByteArray := prog_7_method_18_code
def yX5_numberOfPlayer : MethodName := ⟨RX5, "numberOfPlayer", "(II)I"⟩
abbrev cX5_valueAt : ByteArray := prog_7_method_19_code
def yX5_valueAt : MethodName := ⟨RX5, "valueAt", "(II)I"⟩
abbrev cX5_number : ByteArray := prog_7_method_20_code
def yX5_number : MethodName := ⟨RX5, "number", "(I)I"⟩
def RX6 : String := "HiddenBids$Text"
def TX6 : u_T := fun k => match k with
  | 0 => ("HiddenBids$Text", "characters", "[I", true)
  | 1 => ("HiddenBids$Text", "length", "I", false)
  | 2 => ("HiddenBids$Text", "position", "I", false)
  | 3 => ("HiddenBids$Text", "reason", "I", false)
  | 4 => ("HiddenBids$Text", "cause", "I", false)
  | 5 => ("HiddenBids$Text", "commands", "I", false)
  | 6 => ("HiddenBids$Text", "next", "I", false)
  | 7 => ("HiddenBids$Text", "kind", "I", false)
  | 8 => ("HiddenBids$Text", "first", "I", false)
  | _ => ("HiddenBids$Text", "second", "I", false)
def tyX6 : Nat → FieldType := fun k => match k with
  | 0 => .array .int
  | 1 => .int
  | 2 => .int
  | 3 => .int
  | 4 => .int
  | 5 => .int
  | 6 => .int
  | 7 => .int
  | 8 => .int
  | _ => .int
abbrev wsX60 : List Cond := u_ws RX6 TX6 10
theorem nmX6 : ∀ a, a < 10 → ∀ b, b < 10 → a ≠ b → (TX6 a).2.1 ≠ (TX6 b).2.1 := by decide +kernel
theorem tyX6_ok : ∀ k, k < 10 → parseFieldDescriptor (TX6 k).2.2.1 = some (tyX6 k) := by decide +kernel
abbrev cX6_init : ByteArray := prog_8_method_1_code
def yX6_init : MethodName := ⟨RX6, "<init>", "()V"⟩
def RX7 : String := "HiddenBids"
def TX7 : u_T := fun k => match k with
  | 0 => ("HiddenBids", "history", "LHiddenBids$History;", true)
  | 1 => ("HiddenBids", "snapshot", "LHiddenBids$State;", true)
  | 2 => ("HiddenBids", "text", "LHiddenBids$Text;", true)
  | 3 => ("HiddenBids", "outcome", "LHiddenBids$Outcome;", true)
  | 4 => ("HiddenBids", "adviser", "LHiddenBids$Adviser;", true)
  | 5 => ("HiddenBids", "state", "LHiddenBids$State;", false)
  | 6 => ("HiddenBids", "draft", "LHiddenBids$State;", false)
  | _ => ("HiddenBids", "hasSnapshot", "Z", false)
def tyX7 : Nat → FieldType := fun k => match k with
  | 0 => .object "HiddenBids$History"
  | 1 => .object "HiddenBids$State"
  | 2 => .object "HiddenBids$Text"
  | 3 => .object "HiddenBids$Outcome"
  | 4 => .object "HiddenBids$Adviser"
  | 5 => .object "HiddenBids$State"
  | 6 => .object "HiddenBids$State"
  | _ => .boolean
abbrev wsX70 : List Cond := u_ws RX7 TX7 8
theorem nmX7 : ∀ a, a < 8 → ∀ b, b < 8 → a ≠ b → (TX7 a).2.1 ≠ (TX7 b).2.1 := by decide +kernel
theorem tyX7_ok : ∀ k, k < 8 → parseFieldDescriptor (TX7 k).2.2.1 = some (tyX7 k) := by decide +kernel
abbrev cX7_init : ByteArray := prog_1_method_1_code
def yX7_init : MethodName := ⟨RX7, "<init>", "()V"⟩
abbrev cX7_begin : ByteArray := prog_1_method_2_code
def yX7_begin : MethodName := ⟨RX7, "begin", "(II)I"⟩
abbrev cX7_lot : ByteArray := prog_1_method_3_code
def yX7_lot : MethodName := ⟨RX7, "lot", "(I)I"⟩
abbrev cX7_bid : ByteArray := prog_1_method_4_code
def yX7_bid : MethodName := ⟨RX7, "bid", "(II)I"⟩
abbrev cX7_resolve : ByteArray := prog_1_method_5_code
def yX7_resolve : MethodName := ⟨RX7, "resolve", "()I"⟩
abbrev cX7_set : ByteArray := prog_1_method_6_code
def yX7_set : MethodName := ⟨RX7, "set", "(II)I"⟩
abbrev cX7_playerOf : ByteArray := prog_1_method_7_code
def yX7_playerOf : MethodName := ⟨RX7, "playerOf", "(II)I"⟩
abbrev cX7_lotOf : ByteArray := prog_1_method_8_code
def yX7_lotOf : MethodName := ⟨RX7, "lotOf", "(II)I"⟩
abbrev cX7_roundOf : ByteArray := prog_1_method_9_code
def yX7_roundOf : MethodName := ⟨RX7, "roundOf", "(II)I"⟩
abbrev cX7_record : ByteArray := prog_1_method_10_code
def yX7_record : MethodName := ⟨RX7, "record", "(II)I"⟩
abbrev cX7_count : ByteArray := prog_1_method_11_code
def yX7_count : MethodName := ⟨RX7, "count", "(I)I"⟩
abbrev cX7_winner : ByteArray := prog_1_method_12_code
def yX7_winner : MethodName := ⟨RX7, "winner", "()I"⟩
abbrev cX7_freshDraft : ByteArray := prog_1_method_25_code
def yX7_freshDraft : MethodName := ⟨RX7, "freshDraft", "()LHiddenBids$State;"⟩
abbrev cX7_adopt : ByteArray := prog_1_method_26_code
def yX7_adopt : MethodName := ⟨RX7, "adopt", "(I)I"⟩
abbrev cX7_isError : ByteArray := prog_1_method_27_code
def yX7_isError : MethodName := ⟨RX7, "isError", "(I)Z"⟩
def RX8 : String := "HiddenBidsModel"
def TX8 : u_T := fun k => match k with
  | _ => ("", "", "", false)
def tyX8 : Nat → FieldType := fun k => match k with
  | _ => .int
abbrev wsX80 : List Cond := u_ws RX8 TX8 0
theorem nmX8 : ∀ a, a < 0 → ∀ b, b < 0 → a ≠ b → (TX8 a).2.1 ≠ (TX8 b).2.1 := by decide +kernel
theorem tyX8_ok : ∀ k, k < 0 → parseFieldDescriptor (TX8 k).2.2.1 = some (tyX8 k) := by decide +kernel
def RJ9 : String := "java/lang/Math"
def TJ9 : u_T := fun k => match k with
  | _ => ("", "", "", false)
def tyJ9 : Nat → FieldType := fun k => match k with
  | _ => .int
theorem nmJ9 : ∀ a, a < 0 → ∀ b, b < 0 → a ≠ b → (TJ9 a).2.1 ≠ (TJ9 b).2.1 := by decide +kernel
theorem tyJ9_ok : ∀ k, k < 0 → parseFieldDescriptor (TJ9 k).2.2.1 = some (tyJ9 k) := by decide +kernel
abbrev cJ9_min_7cf53 : ByteArray := prog_11_method_69_code
def yJ9_min_7cf53 : MethodName := ⟨RJ9, "min", "(II)I"⟩
def RJ10 : String := "java/lang/System"
def TJ10 : u_T := fun k => match k with
  | _ => ("", "", "", false)
def tyJ10 : Nat → FieldType := fun k => match k with
  | _ => .int
theorem nmJ10 : ∀ a, a < 0 → ∀ b, b < 0 → a ≠ b → (TJ10 a).2.1 ≠ (TJ10 b).2.1 := by decide +kernel
theorem tyJ10_ok : ∀ k, k < 0 → parseFieldDescriptor (TJ10 k).2.2.1 = some (tyJ10 k) := by decide +kernel
def RL : String := "HiddenBidsLaw"
abbrev cL_cell : ByteArray := method_2_code
def yL_cell : MethodName := ⟨RL, "cell", "([II)I"⟩
abbrev cL_low : ByteArray := method_3_code
def yL_low : MethodName := ⟨RL, "low", "(II)I"⟩
abbrev cL_sum : ByteArray := method_4_code
def yL_sum : MethodName := ⟨RL, "sum", "([II)I"⟩
abbrev cL_bids : ByteArray := method_5_code
def yL_bids : MethodName := ⟨RL, "bids", "([I[I)I"⟩
abbrev cL_less : ByteArray := method_6_code
def yL_less : MethodName := ⟨RL, "less", "(II)I"⟩
abbrev cL_pair : ByteArray := method_7_code
def yL_pair : MethodName := ⟨RL, "pair", "([I[JIIZ)V"⟩
abbrev cL_resolve : ByteArray := method_8_code
def yL_resolve : MethodName := ⟨RL, "resolve", "([I[I[I[I[I[I[J)I"⟩
abbrev cL_acts : ByteArray := method_9_code
def yL_acts : MethodName := ⟨RL, "acts", "(LHiddenBids;[I[I[I[I[I[I[JI)Z"⟩
abbrev cL_areRounds : ByteArray := method_10_code
def yL_areRounds : MethodName := ⟨RL, "areRounds", "(LHiddenBids;[I[I[I[J)Z"⟩
abbrev cL_isSo : ByteArray := method_11_code
def yL_isSo : MethodName := ⟨RL, "isSo", "(LHiddenBids;[I[I[I[I[I[I[J)Z"⟩
abbrev cL_law : ByteArray := code
def yL_law : MethodName := ⟨RL, "law", "([I)Z"⟩
abbrev vwCl : List vw_C := [(RX0, TX0, 2), (RX1, TX1, 2), (RX2, TX2, 6), (RX3, TX3, 5), (RX4, TX4, 3), (RX5, TX5, 17), (RX6, TX6, 10), (RX7, TX7, 8)]
end
section
/-! AN INTERPRETER of the bytecode that the system uses: a pure function over rows of numbers and of pointers.
Values: a number, or a pointer (none: null; some k: the k-th cell). Cells: (0, n) a row of n numbers, (1, n) a row of n pointers, (c + 2, n) an object of the c-th kind with n slots.
Numbers of all cells stand in one function F, pointers in another, P. -/
abbrev AV : Type := Int ⊕ Option Nat
abbrev FM : Type := Nat → Int → Int
abbrev PM : Type := Nat → Int → Option Nat
abbrev KL : Type := List (Nat × Nat)
abbrev LV : Type := List (Option AV)
abbrev AS : Type := Nat × LV × List AV × KL × FM × PM
abbrev RI : Type := Nat × Nat × Nat × Int
abbrev CI : Type := Nat × Instr × Nat × RI
abbrev ME : Type := MethodName × ByteArray × Nat × Option FieldType × Nat × Nat × Nat × List CI
def me_y (e : ME) : MethodName := e.1
def me_cc (e : ME) : ByteArray := e.2.1
def me_ml (e : ME) : Nat := e.2.2.1
def me_rt (e : ME) : Option FieldType := e.2.2.2.1
def me_kd (e : ME) : Nat := e.2.2.2.2.1
def me_na (e : ME) : Nat := e.2.2.2.2.2.1
def me_ix (e : ME) : Nat := e.2.2.2.2.2.2.1
def me_ci (e : ME) : List CI := e.2.2.2.2.2.2.2
def wr (i : Int) : Int := (i + 2147483648) % 4294967296 - 2147483648
def i32 (i : Int) : Int32 := Int32.ofInt i
def inb (i : Int) : Prop := -2147483648 ≤ i ∧ i < 2147483648
def inbB (i : Int) : Bool := decide (-2147483648 ≤ i) && decide (i < 2147483648)
/-- a row or slot written -/
def stt (F : FM) (k : Nat) (j v : Int) : FM := fun a b => if a = k ∧ b = j then v else F a b
def stp_ (P : PM) (k : Nat) (j : Int) (v : Option Nat) : PM := fun a b => if a = k ∧ b = j then v else P a b
def clF (F : FM) (k : Nat) : FM := fun a b => if a = k then 0 else F a b
def clP (P : PM) (k : Nat) : PM := fun a b => if a = k then none else P a b
def cpF (F : FM) (src : Nat) (sp : Int) (dst : Nat) (dp n : Int) : FM := fun a b => if a = dst ∧ dp ≤ b ∧ b < dp + n then F src (sp + (b - dp)) else F a b
def isN (t : FieldType) : Bool := match t with
  | .int => true
  | .boolean => true
  | _ => false
/-- the type of a slot -/
def tyOf (c k : Nat) : FieldType := match c with
  | 0 => tyX0 k
  | 1 => tyX1 k
  | 2 => tyX2 k
  | 3 => tyX3 k
  | 4 => tyX4 k
  | 5 => tyX5 k
  | 6 => tyX6 k
  | _ => tyX7 k
def brn (pc : Nat) (off : Int) : Option Nat := if 0 ≤ (pc : Int) + off then some ((pc : Int) + off).toNat else none
def cmpc (c : Jvm.ClassFile.Cond) (x y : Int) : Bool := match c with
  | .eq => decide (x = y)
  | .ne => decide (x ≠ y)
  | .lt => decide (x < y)
  | .ge => decide (y ≤ x)
  | .gt => decide (y < x)
  | .le => decide (x ≤ y)
def ldI (L : LV) (i : Nat) : Option AV := match L[i]? with
  | some (some (.inl v)) => some (.inl v)
  | _ => none
def ldA (L : LV) (i : Nat) : Option AV := match L[i]? with
  | some (some (.inr (some k))) => some (.inr (some k))
  | _ => none
def s_load (pc len : Nat) (o : Option AV) (L : LV) (S : List AV) (kd : KL) (F : FM) (P : PM) : Option AS := match o with
  | some v => some (pc + len, L, v :: S, kd, F, P)
  | none => none
def s_storeI (pc len i : Nat) (L : LV) (S : List AV) (kd : KL) (F : FM) (P : PM) : Option AS := match S with
  | .inl v :: S' => if i < L.length then some (pc + len, L.set i (some (.inl v)), S', kd, F, P) else none
  | _ => none
def s_storeA (pc len i : Nat) (L : LV) (S : List AV) (kd : KL) (F : FM) (P : PM) : Option AS := match S with
  | .inr (some v) :: S' => if i < L.length then some (pc + len, L.set i (some (.inr (some v))), S', kd, F, P) else none
  | _ => none
def s_iinc (pc len i : Nat) (n : Int) (L : LV) (S : List AV) (kd : KL) (F : FM) (P : PM) : Option AS := match L[i]? with
  | some (some (.inl v)) => some (pc + len, L.set i (some (.inl (wr (v + n)))), S, kd, F, P)
  | _ => none
def s_bin (pc len : Nat) (f : Int → Int → Int) (L : LV) (S : List AV) (kd : KL) (F : FM) (P : PM) : Option AS := match S with
  | .inl y :: .inl x :: S' => some (pc + len, L, .inl (f x y) :: S', kd, F, P)
  | _ => none
def s_binD (pc len : Nat) (f : Int → Int → Int) (L : LV) (S : List AV) (kd : KL) (F : FM) (P : PM) : Option AS := match S with
  | .inl y :: .inl x :: S' => if y = 0 then none else some (pc + len, L, .inl (f x y) :: S', kd, F, P)
  | _ => none
def s_neg (pc len : Nat) (L : LV) (S : List AV) (kd : KL) (F : FM) (P : PM) : Option AS := match S with
  | .inl x :: S' => some (pc + len, L, .inl (wr (-x)) :: S', kd, F, P)
  | _ => none
def s_dup (pc len : Nat) (L : LV) (S : List AV) (kd : KL) (F : FM) (P : PM) : Option AS := match S with
  | v :: S' => some (pc + len, L, v :: v :: S', kd, F, P)
  | _ => none
def s_dup2 (pc len : Nat) (L : LV) (S : List AV) (kd : KL) (F : FM) (P : PM) : Option AS := match S with
  | v :: w :: S' => some (pc + len, L, v :: w :: v :: w :: S', kd, F, P)
  | _ => none
def s_pop (pc len : Nat) (L : LV) (S : List AV) (kd : KL) (F : FM) (P : PM) : Option AS := match S with
  | _ :: S' => some (pc + len, L, S', kd, F, P)
  | _ => none
def s_goto (o : Option Nat) (L : LV) (S : List AV) (kd : KL) (F : FM) (P : PM) : Option AS := match o with
  | some t => some (t, L, S, kd, F, P)
  | none => none
def s_icmp (pc : Nat) (c : Jvm.ClassFile.Cond) (o : Option Nat) (L : LV) (S : List AV) (kd : KL) (F : FM) (P : PM) : Option AS := match o, S with
  | some t, .inl y :: .inl x :: S' => some (if cmpc c x y = true then t else pc + 3, L, S', kd, F, P)
  | _, _ => none
def s_ifc (pc : Nat) (c : Jvm.ClassFile.Cond) (o : Option Nat) (L : LV) (S : List AV) (kd : KL) (F : FM) (P : PM) : Option AS := match o, S with
  | some t, .inl x :: S' => some (if cmpc c x 0 = true then t else pc + 3, L, S', kd, F, P)
  | _, _ => none
def s_iald (pc : Nat) (L : LV) (S : List AV) (kd : KL) (F : FM) (P : PM) : Option AS := match S with
  | .inl i :: .inr (some k) :: S' => match kd[k]? with
    | some (0, n) => if 0 ≤ i ∧ i < n then some (pc + 1, L, .inl (F k i) :: S', kd, F, P) else none
    | _ => none
  | _ => none
def s_aald (pc : Nat) (L : LV) (S : List AV) (kd : KL) (F : FM) (P : PM) : Option AS := match S with
  | .inl i :: .inr (some k) :: S' => match kd[k]? with
    | some (1, n) => if 3 ≤ k ∧ 0 ≤ i ∧ i < n then some (pc + 1, L, .inr (P k i) :: S', kd, F, P) else none
    | _ => none
  | _ => none
def s_iast (pc : Nat) (L : LV) (S : List AV) (kd : KL) (F : FM) (P : PM) : Option AS := match S with
  | .inl v :: .inl i :: .inr (some k) :: S' => match kd[k]? with
    | some (0, n) => if 3 ≤ k ∧ 0 ≤ i ∧ i < n then some (pc + 1, L, S', kd, stt F k i v, P) else none
    | _ => none
  | _ => none
def s_aast (pc : Nat) (L : LV) (S : List AV) (kd : KL) (F : FM) (P : PM) : Option AS := match S with
  | .inr (some v) :: .inl i :: .inr (some k) :: S' => match kd[k]? with
    | some (1, n) => if 3 ≤ k ∧ 0 ≤ i ∧ i < n ∧ 3 ≤ v ∧ kd[v]? = some (7, 17) then some (pc + 1, L, S', kd, F, stp_ P k i (some v)) else none
    | _ => none
  | _ => none
def s_alen (pc : Nat) (L : LV) (S : List AV) (kd : KL) (F : FM) (P : PM) : Option AS := match S with
  | .inr (some k) :: S' => match kd[k]? with
    | some (0, n) => if n < 2147483648 then some (pc + 1, L, .inl (n : Int) :: S', kd, F, P) else none
    | _ => none
  | _ => none
def s_getf (pc ci j : Nat) (L : LV) (S : List AV) (kd : KL) (F : FM) (P : PM) : Option AS := match S with
  | .inr (some k) :: S' => match kd[k]? with
    | some (c, n) => if c = ci + 2 ∧ j < n ∧ 3 ≤ k then some (pc + 3, L, (if isN (tyOf ci j) = true then .inl (F k j) else .inr (P k j)) :: S', kd, F, P) else none
    | _ => none
  | _ => none
def s_putf (pc ci j : Nat) (L : LV) (S : List AV) (kd : KL) (F : FM) (P : PM) : Option AS := match S with
  | .inl v :: .inr (some k) :: S' => match kd[k]? with
    | some (c, n) => if c = ci + 2 ∧ j < n ∧ 3 ≤ k ∧ (tyOf ci j = .int ∨ tyOf ci j = .boolean ∧ (v = 0 ∨ v = 1)) then some (pc + 3, L, S', kd, stt F k j v, P) else none
    | _ => none
  | .inr v :: .inr (some k) :: S' => match kd[k]? with
    | some (c, n) => if c = ci + 2 ∧ j < n ∧ 3 ≤ k ∧ isN (tyOf ci j) = false then some (pc + 3, L, S', kd, F, stp_ P k j v) else none
    | _ => none
  | _ => none
def s_new (pc ci n : Nat) (L : LV) (S : List AV) (kd : KL) (F : FM) (P : PM) : Option AS :=
  some (pc + 3, L, .inr (some kd.length) :: S, kd ++ [(ci + 2, n)], clF F kd.length, clP P kd.length)
def s_newa (pc : Nat) (L : LV) (S : List AV) (kd : KL) (F : FM) (P : PM) : Option AS := match S with
  | .inl n :: S' => if 0 ≤ n ∧ n ≤ 100000 then some (pc + 2, L, .inr (some kd.length) :: S', kd ++ [(0, n.toNat)], clF F kd.length, P) else none
  | _ => none
def s_newl (pc : Nat) (L : LV) (S : List AV) (kd : KL) (F : FM) (P : PM) : Option AS := match S with
  | .inl n :: S' => if 0 ≤ n ∧ n ≤ 100000 then some (pc + 2, L, .inr (some kd.length) :: S', kd ++ [(30, n.toNat)], clF F kd.length, P) else none
  | _ => none
/-- how two whole numbers stand -/
def cmpL (a b : Int) : Int := if b < a then 1 else if a = b then 0 else -1
/-- eight bits of a number from a place on -/
def bt (v : Int) (sh : Nat) : Int := v / ((2 ^ sh : Nat) : Int) % 256
/-- the row q of long numbers at k: its bits, against an int (several instructions at once) -/
def s_lcm (pc len sh : Nat) (x : Option AV) (L : LV) (S : List AV) (kd : KL) (F : FM) (P : PM) : Option AS := match S with
  | .inl k :: .inr (some q) :: S' => match kd[q]? with
    | some (30, n) => if 3 ≤ q ∧ 0 ≤ k ∧ k < n ∧ 0 ≤ F q k then (match x with
      | some (.inl r) => some (pc + len, L, .inl (cmpL (bt (F q k) sh) r) :: S', kd, F, P)
      | _ => none) else none
    | _ => none
  | _ => none
def s_lbt (pc len sh : Nat) (L : LV) (S : List AV) (kd : KL) (F : FM) (P : PM) : Option AS := match S with
  | .inl k :: .inr (some q) :: S' => match kd[q]? with
    | some (30, n) => if 3 ≤ q ∧ 0 ≤ k ∧ k < n ∧ 0 ≤ F q k then some (pc + len, L, .inl (bt (F q k) sh) :: S', kd, F, P) else none
    | _ => none
  | _ => none
def s_lcr (pc len sh : Nat) (xq xk : Option AV) (L : LV) (S : List AV) (kd : KL) (F : FM) (P : PM) : Option AS := match S, xq, xk with
  | .inl r :: S', some (.inr (some q)), some (.inl k) => match kd[q]? with
    | some (30, n) => if 3 ≤ q ∧ 0 ≤ k ∧ k < n ∧ 0 ≤ F q k then some (pc + len, L, .inl (cmpL r (bt (F q k) sh)) :: S', kd, F, P) else none
    | _ => none
  | _, _, _ => none
def s_lst (pc : Nat) (x : Option AV) (L : LV) (S : List AV) (kd : KL) (F : FM) (P : PM) : Option AS := match S, x with
  | .inl p :: .inl k :: .inr (some q) :: S', some (.inl b) => match kd[q]? with
    | some (30, n) => if 3 ≤ q ∧ 0 ≤ k ∧ k < n ∧ 0 ≤ p ∧ p < 256 ∧ 0 ≤ b ∧ b < 256 then some (pc + 9, L, S', kd, stt F q k (p + 256 * b), P) else none
    | _ => none
  | _, _ => none
def s_ladd (pc : Nat) (x : Option AV) (L : LV) (S : List AV) (kd : KL) (F : FM) (P : PM) : Option AS := match S, x with
  | .inl k :: .inr (some q) :: S', some (.inl w) => match kd[q]? with
    | some (30, n) => if 3 ≤ q ∧ 0 ≤ k ∧ k < n ∧ 0 ≤ F q k ∧ F q k < 2000000000 then some (pc + 20, L, S', kd, stt F q k (F q k + (65536 + if w = 0 then 0 else 16777216)), P) else none
    | _ => none
  | _, _ => none
def s_anew (pc : Nat) (L : LV) (S : List AV) (kd : KL) (F : FM) (P : PM) : Option AS := match S with
  | .inl n :: S' => if 0 ≤ n ∧ n ≤ 100000 then some (pc + 3, L, .inr (some kd.length) :: S', kd ++ [(1, n.toNat)], F, clP P kd.length) else none
  | _ => none
def s_gets (pc i : Nat) (L : LV) (S : List AV) (kd : KL) (F : FM) (P : PM) : Option AS :=
  some (pc + 3, L, .inr (some i) :: S, kd, F, P)
def s_tab (pc : Nat) (dflt lo hi : Int) (offs : Array Int) (L : LV) (S : List AV) (kd : KL) (F : FM) (P : PM) : Option AS := match S with
  | .inl x :: S' => if lo ≤ x ∧ x ≤ hi then (match offs[(x - lo).toNat]? with
    | some off => s_goto (brn pc off) L S' kd F P
    | none => none) else s_goto (brn pc dflt) L S' kd F P
  | _ => none
def s_look (pc : Nat) (dflt : Int) (ps : Array (Int × Int)) (L : LV) (S : List AV) (kd : KL) (F : FM) (P : PM) : Option AS := match S with
  | .inl x :: S' => if (ps.toList.zip (ps.toList.drop 1)).all (fun (a, next) => a.1 < next.1) = true then s_goto (brn pc (Op.lookupswitch.offset ps.toList dflt x)) L S' kd F P else none
  | _ => none
def s_copy (d pc : Nat) (L : LV) (S : List AV) (kd : KL) (F : FM) (P : PM) : Option AS := match S with
  | .inl n :: .inl dp :: .inr (some k1) :: .inl sp :: .inr (some k0) :: S' => match kd[k0]?, kd[k1]? with
    | some (0, n0), some (0, n1) => if 2 ≤ d ∧ S' = [] ∧ 3 ≤ k1 ∧ 0 ≤ n ∧ 0 ≤ sp ∧ 0 ≤ dp ∧ sp + n ≤ n0 ∧ dp + n ≤ n1 then some (pc + 3, L, S', kd, cpF F k0 sp k1 dp n, P) else none
    | _, _ => none
  | _ => none
def s_mm (d pc : Nat) (f : Int → Int → Int) (L : LV) (S : List AV) (kd : KL) (F : FM) (P : PM) : Option AS := match S with
  | .inl y :: .inl x :: S' => if 2 ≤ d ∧ S'.length ≤ 4 then some (pc + 3, L, .inl (f x y) :: S', kd, F, P) else none
  | _ => none
def s_oini (d pc : Nat) (L : LV) (S : List AV) (kd : KL) (F : FM) (P : PM) : Option AS := match S with
  | .inr (some _) :: S' => if 1 ≤ d ∧ S' = [] then some (pc + 3, L, S', kd, F, P) else none
  | _ => none
/-- one instruction that is no call of the system's own and no return -/
def stp (d pc len : Nat) (ri : RI) (ins : Instr) (L : LV) (S : List AV) (kd : KL) (F : FM) (P : PM) : Option AS := match ins with
  | .iconst n => s_load pc len (some (.inl n)) L S kd F P
  | .bipush n => s_load pc len (some (.inl n)) L S kd F P
  | .sipush n => s_load pc len (some (.inl n)) L S kd F P
  | .ldc _ => s_load pc len (some (.inl ri.2.2.2)) L S kd F P
  | .iload i => s_load pc len (ldI L i) L S kd F P
  | .iload_n i => s_load pc len (ldI L i.val) L S kd F P
  | .aload i => s_load pc len (ldA L i) L S kd F P
  | .aload_n i => s_load pc len (ldA L i.val) L S kd F P
  | .istore i => s_storeI pc len i L S kd F P
  | .istore_n i => s_storeI pc len i.val L S kd F P
  | .astore i => s_storeA pc len i L S kd F P
  | .astore_n i => s_storeA pc len i.val L S kd F P
  | .iinc i n => s_iinc pc len i n L S kd F P
  | .iadd => s_bin pc len (fun x y => wr (x + y)) L S kd F P
  | .isub => s_bin pc len (fun x y => wr (x - y)) L S kd F P
  | .imul => s_bin pc len (fun x y => wr (x * y)) L S kd F P
  | .iand => s_bin pc len (fun x y => (i32 x &&& i32 y).toInt) L S kd F P
  | .idiv => s_binD pc len (fun x y => wr (Int.tdiv x y)) L S kd F P
  | .irem => s_binD pc len (fun x y => wr (x - Int.tdiv x y * y)) L S kd F P
  | .ineg => s_neg pc len L S kd F P
  | .dup => s_dup pc len L S kd F P
  | .dup2 => if ri.1 = 7 then s_ladd pc (ldI L 4) L S kd F P else s_dup2 pc len L S kd F P
  | .laload => if ri.1 = 1 then s_lcm pc 8 0 (ldI L 2) L S kd F P else if ri.1 = 2 then s_lcm pc 11 8 (ldI L 3) L S kd F P else if ri.1 = 3 then s_lbt pc 9 16 L S kd F P else none
  | .i2l => if ri.1 = 4 then s_lcr pc 11 0 (ldA L 4) (ldI L 7) L S kd F P else if ri.1 = 5 then s_lcr pc 14 ri.2.1 (ldA L 4) (ldI L 7) L S kd F P else if ri.1 = 6 then s_lst pc (ldI L 3) L S kd F P else none
  | .ishr => s_bin pc len (fun x y => (i32 x >>> (i32 y &&& 31)).toInt) L S kd F P
  | .ixor => s_bin pc len (fun x y => (i32 x ^^^ i32 y).toInt) L S kd F P
  | .pop => s_pop pc len L S kd F P
  | .goto off => s_goto (brn pc off) L S kd F P
  | .if_icmp c off => s_icmp pc c (brn pc off) L S kd F P
  | .ifCond c off => s_ifc pc c (brn pc off) L S kd F P
  | .iaload => s_iald pc L S kd F P
  | .aaload => s_aald pc L S kd F P
  | .iastore => s_iast pc L S kd F P
  | .aastore => s_aast pc L S kd F P
  | .arraylength => s_alen pc L S kd F P
  | .getfield _ => s_getf pc ri.1 ri.2.1 L S kd F P
  | .putfield _ => s_putf pc ri.1 ri.2.1 L S kd F P
  | .new _ => s_new pc ri.1 ri.2.1 L S kd F P
  | .newarray t => if t = .int then s_newa pc L S kd F P else if t = .long then s_newl pc L S kd F P else none
  | .anewarray _ => s_anew pc L S kd F P
  | .getstatic _ => s_gets pc ri.1 L S kd F P
  | .tableswitch dflt lo hi offs => s_tab pc dflt lo hi offs L S kd F P
  | .lookupswitch dflt ps => s_look pc dflt ps L S kd F P
  | .invokestatic _ => if ri.2.1 = 2 then s_copy d pc L S kd F P else if ri.2.1 = 4 then s_mm d pc (fun x y => if y < x then y else x) L S kd F P else none
  | .invokespecial _ => if ri.2.1 = 5 then s_oini d pc L S kd F P else none
  | _ => none
/-- a return: its answer -/
def fin (rt : Option FieldType) (ins : Instr) (S : List AV) : Option (Option AV) := match ins with
  | .ireturn => match S with
    | [.inl v] => if rt = some .int ∨ rt = some .boolean ∧ (v = 0 ∨ v = 1) then some (some (.inl v)) else none
    | _ => none
  | .areturn => match S with
    | [.inr v] => match rt with
      | some (.object _) => some (some (.inr v))
      | _ => none
    | _ => none
  | .return_ => match S with
    | [] => if rt = none then some none else none
    | _ => none
  | _ => none
def isFin (ins : Instr) : Bool := match ins with
  | .ireturn => true
  | .areturn => true
  | .return_ => true
  | _ => false
/-- a call of the system's own: which, linked how (0: as ever, 1: a nest mate's) -/
def cal (ri : RI) (ins : Instr) : Option Nat := match ins with
  | .invokevirtual _ => some ri.1
  | .invokestatic _ => if ri.2.1 < 2 then some ri.1 else none
  | .invokespecial _ => if ri.2.1 < 2 then some ri.1 else none
  | _ => none
/-- the arguments of a call (the receiver, if there is one, among them) and what lies below them -/
def spl (n : Nat) (S : List AV) : Option (List AV × List AV) := if n ≤ S.length then some ((S.take n).reverse, S.drop n) else none
def ftc (pc : Nat) : List CI → Option CI
  | [] => none
  | e :: l => if e.1 = pc then some e else ftc pc l
abbrev RS : Type := Option AV × KL × FM × PM
abbrev CF : Type := Nat → List AV → KL → FM → PM → Option RS
def psh (r : Option AV) (S : List AV) : List AV := match r with
  | some v => v :: S
  | none => S
/-- the receiver is as the call wants it -/
def rcv (ce : ME) (kd : KL) (as : List AV) : Bool := match me_kd ce with
  | 0 => (match as with
    | .inr (some k) :: _ => decide (3 ≤ k) && (match kd[k]? with
      | some (c, _) => decide (c = me_ix ce + 2)
      | none => false)
    | _ => false)
  | 1 => true
  | _ => (match as with
    | .inr (some _) :: _ => true
    | _ => false)
def nar (ce : ME) : Nat := me_na ce + (if me_kd ce = 1 then 0 else 1)
def go (pg : Nat → Option ME) (d : Nat) (cf : CF) (me : ME) : Nat → Nat → LV → List AV → KL → FM → PM → Option RS
  | 0, _, _, _, _, _, _ => none
  | f + 1, pc, L, S, kd, F, P => match ftc pc (me_ci me) with
    | none => none
    | some e => if isFin e.2.1 = true then (match fin (me_rt me) e.2.1 S with
        | some r => some (r, kd, F, P)
        | none => none)
      else (match cal e.2.2.2 e.2.1 with
        | some i => (match pg i with
          | none => none
          | some ce => (match spl (nar ce) S with
            | none => none
            | some (as, S') => if S'.length ≤ 8 ∧ rcv ce kd as = true then (match cf i as kd F P with
              | none => none
              | some (r, kd1, F1, P1) => go pg d cf me f (e.1 + 3) L (psh r S') kd1 F1 P1) else none))
        | none => (match stp d e.1 e.2.2.1 e.2.2.2 e.2.1 L S kd F P with
          | none => none
          | some (pc', L', S', kd', F', P') => go pg d cf me f pc' L' S' kd' F' P'))
def lvl (pg : Nat → Option ME) : Nat → Nat → CF
  | 0, _ => fun _ _ _ _ _ => none
  | d + 1, f => fun i as kd F P => match pg i with
    | none => none
    | some me => if as.length = nar me ∧ as.length ≤ me_ml me then go pg d (lvl pg d f) me f 0 (as.map some ++ List.replicate (me_ml me - as.length) none) [] kd F P else none
end
section
/-! THE INTERPRETER IS SOUND, an instruction a row. K: where the cells stand (base, the three rows that were there before, kinds' numbers, the heap at the start). -/
abbrev GX : Type := Program × Launch × Env × Room × State × MethodId × Array Value × List Frame × Method × Code
abbrev KX : Type := Nat × (Nat → Nat) × (Nat → ClassId) × (Nat → Nat → Nat) × ClassId × ClassId × Heap × (Nat → Nat) × FM × ClassId
def kz (K : KX) : Nat := K.1
def kx (K : KX) : Nat → Nat := K.2.1
def kC (K : KX) : Nat → ClassId := K.2.2.1
def kI (K : KX) : Nat → Nat → Nat := K.2.2.2.1
def kcI (K : KX) : ClassId := K.2.2.2.2.1
def kcR (K : KX) : ClassId := K.2.2.2.2.2.1
def kH (K : KX) : Heap := K.2.2.2.2.2.2.1
def kn (K : KX) : Nat → Nat := K.2.2.2.2.2.2.2.1
def kf (K : KX) : FM := K.2.2.2.2.2.2.2.2.1
def kcL (K : KX) : ClassId := K.2.2.2.2.2.2.2.2.2
abbrev kD (K : KX) : va_G := (kC K, kI K)
def ad (K : KX) (k : Nat) : Nat := if k < 3 then kx K k else kz K + (k - 3)
def gv (K : KX) (v : AV) : Value := match v with
  | .inl i => .int (i32 i)
  | .inr r => va_rf (r.map (ad K))
def okv (v : AV) : Prop := match v with
  | .inl i => inb i
  | .inr _ => True
def sval (K : KX) (c j : Nat) (i : Int) (r : Option Nat) : Value := if isN (tyOf c j) = true then .int (i32 i) else va_rf (r.map (ad K))
def ob (K : KX) (c n : Nat) (f : Int → Int) (q : Int → Option Nat) : List Value := (List.range n).map (fun j => sval K c j (f (j : Int)) (q (j : Int)))
def cel (K : KX) (e : Nat × Nat) (f : Int → Int) (q : Int → Option Nat) : va_E := match e with
  | (0, n) => .inl (kcI K, (n, .inl (fun j => i32 (f (j : Int)))))
  | (1, n) => .inl (kcR K, (n, .inr (.inr (.inr (.inr (fun j => (q (j : Int)).map (ad K)))))))
  | (c + 2, n) => if c = 28 then .inl (kcL K, (n, .inr (.inl (fun j => Int64.ofInt (f (j : Int)))))) else .inr (c, ob K c n f q)
theorem cel_ob {K : KX} {ci n : Nat} {f : Int → Int} {q : Int → Option Nat} (h : ci ≠ 28) : cel K (ci + 2, n) f q = .inr (ci, ob K ci n f q) := if_neg h
theorem cel_ln {K : KX} {n : Nat} {f : Int → Int} {q : Int → Option Nat} : cel K (30, n) f q = .inl (kcL K, (n, .inr (.inl (fun j => Int64.ofInt (f (j : Int)))))) := by
  show (if (28 : Nat) = 28 then (Sum.inl (kcL K, (n, .inr (.inl (fun j => Int64.ofInt (f (j : Int)))))) : va_E) else .inr (28, ob K 28 n f q)) = _
  exact if_pos rfl
theorem ci_of {ci : Nat} {r : vw_C} (h : vwCl[ci]? = some r) : ci ≠ 28 := by
  intro z
  subst z
  simp [vwCl] at h
def WI (K : KX) (kd : KL) (F : FM) (P : PM) (H : Heap) : Prop :=
  3 ≤ kd.length ∧ H.size + 3 = kz K + kd.length ∧ (∀ q, q < kz K → H[q]? = (kH K)[q]?) ∧ (∀ k e, 3 ≤ k → kd[k]? = some e → va_at (kD K) vwCl (ad K k, cel K e (F k) (P k)) H) ∧ (∀ k, k < 3 → kd[k]? = some (0, kn K k) ∧ F k = kf K k)
def zA (K : KX) : Nat → Prop := fun q => kz K ≤ q
abbrev RNG : String := "HiddenBids"
def NWs : List Jvm.Cond := [.methodLinkNest RX5 38 yX4_init RNG, .methodLinkNest RX5 45 yX3_init RNG, .methodLinkNest RX7 25 yX6_init RNG, .methodLinkNest RX7 32 yX2_init RNG, .methodLinkNest RX7 39 yX0_init RNG, .methodLinkNest RX0 11 yX2_init RNG, .fieldLinkNest RX5 50 RNG "FIRST_SETTINGS" "[I" RNG, .fieldLinkNest RX5 114 RNG "GREATEST_SETTINGS" "[I" RNG]
def TF (K : KX) (U : State) : Prop :=
  (kH K).size = kz K ∧ va_K (kD K) vwCl [(kcI K, .int), (kcR K, .object RX5), (kcL K, .long)] U ∧ (∀ w ∈ NWs, va_Nw w U) ∧ va_AO RX5 U ∧ (∀ k, k < 3 → va_T .int (kx K k) (kn K k) (fun j => .int (i32 (kf K k (j : Int)))) (zA K) U (kH K)) ∧ va_Z RNG "FIRST_SETTINGS" "[I" (.ref (kx K 1)) (zA K) U (kH K) ∧ va_Z RNG "GREATEST_SETTINGS" "[I" (.ref (kx K 2)) (zA K) U (kH K)
def WL : List Jvm.Cond := lw_tbl.filter goodWord
def LI (K : KX) (L : LV) (ls : Array Slot) : Prop := ls.size = L.length ∧ lv_wf ls ∧ ∀ (i : Nat) (v : AV), L[i]? = some (some v) → ls[i]? = some (Slot.val (gv K v))
def XI (K : KX) (locs : List Loc) : Prop := ∀ q ∈ locs, kz K ≤ q.base
def ksz (kd : KL) : Nat := (kd.map Prod.snd).sum
def gW (g : GX) (H : Heap) (locs : List Loc) (cells slots : Nat) (Q : State → Prop) (fr : JFrame) : Prop :=
  W g.1 g.2.1 g.2.2.1 g.2.2.2.1 g.2.2.2.2.1 g.2.2.2.2.2.1 g.2.2.2.2.2.2.1 g.2.2.2.2.2.2.2.1 g.2.2.2.2.2.2.2.2.1 g.2.2.2.2.2.2.2.2.2 H locs cells slots Q fr
def NX (g : GX) (K : KX) (Q : State → Prop) (c0 s0 pc : Nat) (L : LV) (S : List AV) (kd : KL) (F : FM) (P : PM) : Prop :=
  ∀ ls H locs, LI K L ls → WI K kd F P H → XI K locs → gW g H locs (kd.length - c0) (ksz kd - s0) Q (F0 g.2.2.2.2.2.1 pc ls (S.map (gv K)))
def Fx (g : GX) (K : KX) (d : Nat) (me : ME) : Prop :=
  g.1.tables.exec = Jvm.exec ∧ g.2.2.2.2.2.2.2.2.2.code = me_cc me ∧ g.2.2.2.2.2.2.2.2.2.maxLocals = me_ml me ∧ g.2.2.2.2.1.vm.findClass (me_y me).cls = some g.2.2.2.2.2.1.cls ∧ (∀ w ∈ WL, w.before g.2.2.2.2.2.2.1 g.2.2.2.2.1 = true) ∧ TF K g.2.2.2.2.1 ∧ ((me_y me).name = "<init>" → g.2.2.2.2.2.2.2.2.1.name = "<init>") ∧ d ≤ g.2.2.2.1.frames ∧ 39 * d ≤ g.2.2.2.1.locals
theorem i32_toInt {i : Int} (h : inb i) : (i32 i).toInt = i := Int32.toInt_ofInt_of_le (by have := h.1; omega) (by have := h.2; omega)
theorem i32_wr (i : Int) : i32 (wr i) = i32 i := by
  unfold i32
  rw [Int32.ofInt_eq_iff_bmod_eq_toInt, Int32.toInt_ofInt]
  unfold wr
  show Int.bmod _ _ = Int.bmod _ 4294967296
  simp only [Int.bmod]
  omega
theorem inb_wr (i : Int) : inb (wr i) := by unfold inb wr; omega
theorem inb_toInt (x : Int32) : inb x.toInt := ⟨by have := x.le_toInt; omega, by have := x.toInt_lt; omega⟩
theorem i32_of (x : Int32) : i32 x.toInt = x := Int32.ofInt_toInt x
theorem wr_id {i : Int} (h : inb i) : wr i = i := by unfold wr; unfold inb at h; omega
theorem i32_add (a b : Int) : i32 (wr (a + b)) = i32 a + i32 b := by rw [i32_wr]; exact Int32.ofInt_add a b
theorem i32_sub (a b : Int) : i32 (wr (a - b)) = i32 a - i32 b := by rw [i32_wr]; exact Int32.ofInt_sub a b
theorem i32_mul (a b : Int) : i32 (wr (a * b)) = i32 a * i32 b := by rw [i32_wr]; exact Int32.ofInt_mul a b
theorem i32_neg (a : Int) : i32 (wr (-a)) = -i32 a := by rw [i32_wr]; exact Int32.ofInt_neg a
theorem i32_div {a b : Int} (ha : inb a) (hb : inb b) : i32 (wr (Int.tdiv a b)) = i32 a / i32 b := by
  rw [i32_wr, ← Int32.toInt_inj, Int32.toInt_div, i32_toInt ha, i32_toInt hb]
  exact Int32.toInt_ofInt
theorem i32_rem {a b : Int} (ha : inb a) (hb : inb b) : i32 (wr (a - Int.tdiv a b * b)) = i32 a - i32 a / i32 b * i32 b := by
  rw [i32_sub, ← i32_div ha hb, i32_wr (Int.tdiv a b), ← i32_mul, i32_wr]
theorem i32_le {a b : Int} (ha : inb a) (hb : inb b) : i32 a ≤ i32 b ↔ a ≤ b := by rw [Int32.le_iff_toInt_le, i32_toInt ha, i32_toInt hb]
theorem i32_lt {a b : Int} (ha : inb a) (hb : inb b) : i32 a < i32 b ↔ a < b := by rw [Int32.lt_iff_toInt_lt, i32_toInt ha, i32_toInt hb]
theorem i32_eq {a b : Int} (ha : inb a) (hb : inb b) : i32 a = i32 b ↔ a = b := by rw [← Int32.toInt_inj, i32_toInt ha, i32_toInt hb]
theorem i32_0 : (0 : Int32) = i32 0 := by decide
theorem inb_0 : inb 0 := by unfold inb; omega
theorem i32_n {a : Int} (h : inb a) : (i32 a).toNatClampNeg = a.toNat := by show (i32 a).toInt.toNat = _; rw [i32_toInt h]
theorem i32_in {a : Int} {n : Nat} (h : inb a) (h0 : 0 ≤ a) (h1 : a < n) : vp_in (i32 a) n := vp_in_iff.mpr (by rw [i32_toInt h]; exact ⟨h0, h1⟩)
theorem i32_8 {n : Int} (h0 : -128 ≤ n) (h1 : n < 128) : (Int8.ofInt n).toInt32 = i32 n := by
  rw [← Int32.toInt_inj, Int8.toInt_toInt32, i32_toInt (by unfold inb; omega)]
  exact Int8.toInt_ofInt_of_le (by omega) (by omega)
theorem i32_16 {n : Int} (h0 : -32768 ≤ n) (h1 : n < 32768) : (Int16.ofInt n).toInt32 = i32 n := by
  rw [← Int32.toInt_inj, Int16.toInt_toInt32, i32_toInt (by unfold inb; omega)]
  exact Int16.toInt_ofInt_of_le (by omega) (by omega)
theorem inbB_spec {i : Int} (h : inbB i = true) : inb i := by
  simp only [inbB, Bool.and_eq_true, decide_eq_true_eq] at h
  exact h
theorem gv_cat (K : KX) (v : AV) : (gv K v).category = 1 := by
  rcases v with i | r
  · rfl
  · cases r <;> rfl
theorem gv_cats (K : KX) (S : List AV) : ((S.map (gv K)).map fun v => v.category).sum = S.length := by
  induction S with
  | nil => rfl
  | cons v S ih => simp only [List.map_cons, List.sum_cons, List.length_cons, ih, gv_cat]; omega
theorem WL_lw {w : Jvm.Cond} (h : w ∈ WL) : w ∈ lw_tbl := (List.mem_filter.mp h).1
theorem WL_good {w : Jvm.Cond} (h : w ∈ WL) : goodWord w = true := (List.mem_filter.mp h).2
theorem WL_of {p : Nat} {w : Jvm.Cond} (h : lw_tbl[p]? = some w) (hg : goodWord w = true) : w ∈ WL := List.mem_filter.mpr ⟨List.mem_of_getElem? h, hg⟩
theorem WL_GoodIn {ws : List Jvm.Cond} (h : ∀ w ∈ ws, w ∈ WL) : GoodIn WL ws := fun w hw => ⟨h w hw, good_of_word (WL_good (h w hw))⟩
/-! ## locals -/
def lvk (K : KX) (L : LV) : List (Nat × Value) := (List.range L.length).filterMap (fun i => match L[i]? with
  | some (some v) => some (i, gv K v)
  | _ => none)
theorem lvk_mem {K : KX} {L : LV} {q : Nat × Value} (h : q ∈ lvk K L) : ∃ v, L[q.1]? = some (some v) ∧ q.2 = gv K v := by
  unfold lvk at h
  obtain ⟨i, -, hi⟩ := List.mem_filterMap.mp h
  split at hi
  · next v hv => cases hi; exact ⟨v, hv, rfl⟩
  · cases hi
theorem lvk_in {K : KX} {L : LV} {i : Nat} {v : AV} (h : L[i]? = some (some v)) : (i, gv K v) ∈ lvk K L := by
  unfold lvk
  refine List.mem_filterMap.mpr ⟨i, List.mem_range.mpr (List.getElem?_eq_some_iff.mp h).1, ?_⟩
  rw [h]
theorem LI_has {K : KX} {L : LV} {ls : Array Slot} (h : LI K L ls) : lv_has ls L.length (lvk K L) := ⟨h.1, h.2.1, fun q hq => by
  obtain ⟨v, h1, h2⟩ := lvk_mem hq
  rw [h2]
  exact h.2.2 _ _ h1⟩
theorem LI_set {K : KX} {L : LV} {ls : Array Slot} {i : Nat} {v : AV} {lv : List (Nat × Value)} (hsub : ∀ q ∈ lvk K L, q ∈ lv) (h : lv_has ls L.length ((i, gv K v) :: lv.filter (fun q => !(q.1 == i) && !(q.1 + 1 == i && q.2.category == 2)))) : LI K (L.set i (some v)) ls := by
  refine ⟨by rw [List.length_set]; exact h.1, h.2.1, fun j w hj => ?_⟩
  rw [List.getElem?_set] at hj
  by_cases hij : i = j
  · subst hij
    rw [if_pos rfl] at hj
    split at hj
    · cases hj
      exact h.2.2 (i, gv K v) List.mem_cons_self
    · cases hj
  · rw [if_neg hij] at hj
    refine h.2.2 (j, gv K w) (List.mem_cons_of_mem _ (List.mem_filter.mpr ⟨hsub _ (lvk_in hj), ?_⟩))
    have : (j == i) = false := by simp; omega
    simp [this, gv_cat]
/-! ## the world -/
theorem WI_at {K : KX} {kd : KL} {F : FM} {P : PM} {H : Heap} (h : WI K kd F P H) {k : Nat} {e : Nat × Nat} (h3 : 3 ≤ k) (hk : kd[k]? = some e) : va_P (kD K) vwCl [(ad K k, cel K e (F k) (P k))] H := by
  intro i q hi
  have h1 : i < 1 := (List.getElem?_eq_some_iff.mp hi).1
  rw [show i = 0 by omega] at hi
  cases hi
  exact h.2.2.2.1 k e h3 hk
theorem ad_lt {K : KX} {kd : KL} {F : FM} {P : PM} {H : Heap} (h : WI K kd F P H) {k : Nat} {e : Nat × Nat} (h3 : 3 ≤ k) (hk : kd[k]? = some e) : kz K ≤ ad K k ∧ ad K k < H.size := by
  have hl := (List.getElem?_eq_some_iff.mp hk).1
  have h2 := h.2.1
  unfold ad
  rw [if_neg (by omega)]
  omega
theorem ad_inj {K : KX} {k j : Nat} (h3 : 3 ≤ k) (j3 : 3 ≤ j) (h : ad K k = ad K j) : k = j := by
  unfold ad at h
  rw [if_neg (by omega), if_neg (by omega)] at h
  omega
/-- one cell is written anew -/
theorem WI_put {K : KX} {kd : KL} {F F' : FM} {P P' : PM} {H H' : Heap} (h : WI K kd F P H) {k : Nat} {e : Nat × Nat} (h3 : 3 ≤ k) (hk : kd[k]? = some e) (hat : va_at (kD K) vwCl (ad K k, cel K e (F' k) (P' k)) H') (hz : H'.size = H.size) (ho : ∀ q, q ≠ ad K k → H'[q]? = H[q]?) (hF : ∀ j, j ≠ k → F' j = F j) (hP : ∀ j, j ≠ k → P' j = P j) : WI K kd F' P' H' := by
  obtain ⟨a0, a1, a2, a3, a4⟩ := id h
  have hlt := ad_lt h h3 hk
  refine ⟨a0, by rw [hz]; exact a1, fun q hq => (ho q (by omega)).trans (a2 q hq), fun j e' j3 hj => ?_, fun j j3 => ⟨(a4 j j3).1, by rw [hF j (by omega)]; exact (a4 j j3).2⟩⟩
  by_cases hjk : j = k
  · subst hjk
    cases hk.symm.trans hj
    exact hat
  · rw [hF j hjk, hP j hjk]
    exact (a3 j e' j3 hj).kept (ho _ (fun z => hjk (ad_inj j3 h3 z)))
/-- a new cell comes -/
theorem WI_new {K : KX} {kd : KL} {F F' : FM} {P P' : PM} {H H' : Heap} (h : WI K kd F P H) {e : Nat × Nat} (hat : va_at (kD K) vwCl (ad K kd.length, cel K e (F' kd.length) (P' kd.length)) H') (hz : H'.size = H.size + 1) (ho : ∀ q, q < H.size → H'[q]? = H[q]?) (hF : ∀ j, j ≠ kd.length → F' j = F j) (hP : ∀ j, j ≠ kd.length → P' j = P j) : WI K (kd ++ [e]) F' P' H' := by
  obtain ⟨a0, a1, a2, a3, a4⟩ := id h
  refine ⟨by simp; omega, by rw [hz, List.length_append]; simp; omega, fun q hq => (ho q (by omega)).trans (a2 q hq), fun j e' j3 hj => ?_, fun j j3 => ⟨by rw [List.getElem?_append_left (by omega)]; exact (a4 j j3).1, by rw [hF j (by omega)]; exact (a4 j j3).2⟩⟩
  by_cases hl : j < kd.length
  · rw [List.getElem?_append_left hl] at hj
    rw [hF j (by omega), hP j (by omega)]
    exact (a3 j e' j3 hj).kept (ho _ (ad_lt h j3 hj).2)
  · rw [List.getElem?_append_right (by omega)] at hj
    have hz : j - kd.length < 1 := (List.getElem?_eq_some_iff.mp hj).1
    have hjl : j = kd.length := by omega
    subst hjl
    rw [Nat.sub_self] at hj
    cases hj
    exact hat
theorem ad_new {K : KX} {kd : KL} {F : FM} {P : PM} {H : Heap} (h : WI K kd F P H) : ad K kd.length = H.size := by
  have h0 := h.1
  have h2 := h.2.1
  unfold ad
  rw [if_neg (by omega)]
  omega
end
section
section STEPS
variable {g : GX} {K : KX} {d : Nat} {me : ME} {Q : State → Prop} {c0 s0 pc : Nat} {L : LV} {S : List AV} {kd : KL} {F : FM} {P : PM}
abbrev fx_x (h : Fx g K d me) := h.1
theorem nx_const (fx : Fx g K d me) {ins : Instr} {len : Nat} {v : Int} (h : ∀ (H : Heap) (locs : List Loc) (cells slots : Nat) (ls : Array Slot) (rest : List Value), gW g H locs cells slots Q (F0 g.2.2.2.2.2.1 (pc + len) ls (.int (i32 v) :: rest)) → gW g H locs cells slots Q (F0 g.2.2.2.2.2.1 pc ls rest)) (nx : NX g K Q c0 s0 (pc + len) L (.inl v :: S) kd F P) : NX g K Q c0 s0 pc L S kd F P :=
  fun ls H locs hL hW hX => h H locs _ _ ls _ (nx ls H locs hL hW hX)
theorem nx_iconst (fx : Fx g K d me) {v : Int} (hd : decode (me_cc me) pc = .ok (.iconst v, 1)) (nx : NX g K Q c0 s0 (pc + 1) L (.inl v :: S) kd F P) : NX g K Q c0 s0 pc L S kd F P :=
  fun ls H locs hL hW hX => lv_iconst fx.1 fx.2.1 hd rfl (nx ls H locs hL hW hX)
theorem nx_bipush (fx : Fx g K d me) {v : Int} (hd : decode (me_cc me) pc = .ok (.bipush v, 2)) (h0 : -128 ≤ v) (h1 : v < 128) (nx : NX g K Q c0 s0 (pc + 2) L (.inl v :: S) kd F P) : NX g K Q c0 s0 pc L S kd F P :=
  fun ls H locs hL hW hX => lv_bipush fx.1 fx.2.1 hd (i32_8 h0 h1) (nx ls H locs hL hW hX)
theorem nx_sipush (fx : Fx g K d me) {v : Int} (hd : decode (me_cc me) pc = .ok (.sipush v, 3)) (h0 : -32768 ≤ v) (h1 : v < 32768) (nx : NX g K Q c0 s0 (pc + 3) L (.inl v :: S) kd F P) : NX g K Q c0 s0 pc L S kd F P :=
  fun ls H locs hL hW hX => lv_sipush fx.1 fx.2.1 hd (i32_16 h0 h1) (nx ls H locs hL hW hX)
theorem nx_ldc (fx : Fx g K d me) {v : Int} {idx : Nat} (hd : decode (me_cc me) pc = .ok (.ldc idx, 2)) (hw : Jvm.Cond.constant (me_y me).cls idx (i32 v) ∈ WL) (nx : NX g K Q c0 s0 (pc + 2) L (.inl v :: S) kd F P) : NX g K Q c0 s0 pc L S kd F P :=
  fun ls H locs hL hW hX => lv_ldc fx.1 fx.2.1 fx.2.2.2.1 (fx.2.2.2.2.1 _ hw) hd (nx ls H locs hL hW hX)
theorem ldI_spec {i : Nat} {v : AV} (h : ldI L i = some v) : ∃ x, v = .inl x ∧ L[i]? = some (some (.inl x)) := by
  unfold ldI at h
  split at h
  · next x hx => cases h; exact ⟨x, rfl, hx⟩
  · cases h
theorem ldA_spec {i : Nat} {v : AV} (h : ldA L i = some v) : ∃ x, v = .inr (some x) ∧ L[i]? = some (some (.inr (some x))) := by
  unfold ldA at h
  split at h
  · next x hx => cases h; exact ⟨x, rfl, hx⟩
  · cases h
theorem nx_iload (fx : Fx g K d me) {i : Nat} {v : AV} (hd : decode (me_cc me) pc = .ok (.iload i, 2)) (hl : ldI L i = some v) (nx : NX g K Q c0 s0 (pc + 2) L (v :: S) kd F P) : NX g K Q c0 s0 pc L S kd F P := by
  obtain ⟨x, rfl, hx⟩ := ldI_spec hl
  exact fun ls H locs hL hW hX => lv_iload fx.1 fx.2.1 hd (hL.2.2 _ _ hx) (nx ls H locs hL hW hX)
theorem nx_iload_n (fx : Fx g K d me) {i : Fin 4} {v : AV} (hd : decode (me_cc me) pc = .ok (.iload_n i, 1)) (hl : ldI L i.val = some v) (nx : NX g K Q c0 s0 (pc + 1) L (v :: S) kd F P) : NX g K Q c0 s0 pc L S kd F P := by
  obtain ⟨x, rfl, hx⟩ := ldI_spec hl
  exact fun ls H locs hL hW hX => lv_iload_n fx.1 fx.2.1 hd rfl (hL.2.2 _ _ hx) (nx ls H locs hL hW hX)
theorem nx_aload (fx : Fx g K d me) {i : Nat} {v : AV} (hd : decode (me_cc me) pc = .ok (.aload i, 2)) (hl : ldA L i = some v) (nx : NX g K Q c0 s0 (pc + 2) L (v :: S) kd F P) : NX g K Q c0 s0 pc L S kd F P := by
  obtain ⟨x, rfl, hx⟩ := ldA_spec hl
  exact fun ls H locs hL hW hX => lv_aload fx.1 fx.2.1 hd (hL.2.2 _ _ hx) (nx ls H locs hL hW hX)
theorem nx_aload_n (fx : Fx g K d me) {i : Fin 4} {v : AV} (hd : decode (me_cc me) pc = .ok (.aload_n i, 1)) (hl : ldA L i.val = some v) (nx : NX g K Q c0 s0 (pc + 1) L (v :: S) kd F P) : NX g K Q c0 s0 pc L S kd F P := by
  obtain ⟨x, rfl, hx⟩ := ldA_spec hl
  exact fun ls H locs hL hW hX => lv_aload_n fx.1 fx.2.1 hd rfl (hL.2.2 _ _ hx) (nx ls H locs hL hW hX)
theorem nx_istore (fx : Fx g K d me) {i : Nat} {x : Int} (hd : decode (me_cc me) pc = .ok (.istore i, 2)) (hi : i < L.length) (nx : NX g K Q c0 s0 (pc + 2) (L.set i (some (.inl x))) S kd F P) : NX g K Q c0 s0 pc L (.inl x :: S) kd F P :=
  fun ls H locs hL hW hX => lv_istore fx.1 fx.2.1 hd (LI_has hL) hi rfl (fun ls' hl' => nx ls' H locs (LI_set (v := .inl x) (fun _ h => h) hl') hW hX)
theorem nx_istore_n (fx : Fx g K d me) {i : Fin 4} {x : Int} (hd : decode (me_cc me) pc = .ok (.istore_n i, 1)) (hi : i.val < L.length) (nx : NX g K Q c0 s0 (pc + 1) (L.set i.val (some (.inl x))) S kd F P) : NX g K Q c0 s0 pc L (.inl x :: S) kd F P :=
  fun ls H locs hL hW hX => lv_istore_n fx.1 fx.2.1 hd rfl (LI_has hL) hi rfl (fun ls' hl' => nx ls' H locs (LI_set (v := .inl x) (fun _ h => h) hl') hW hX)
theorem nx_astore (fx : Fx g K d me) {i : Nat} {x : Nat} (hd : decode (me_cc me) pc = .ok (.astore i, 2)) (hi : i < L.length) (nx : NX g K Q c0 s0 (pc + 2) (L.set i (some (.inr (some x)))) S kd F P) : NX g K Q c0 s0 pc L (.inr (some x) :: S) kd F P :=
  fun ls H locs hL hW hX => lv_astore fx.1 fx.2.1 hd (LI_has hL) hi rfl (fun ls' hl' => nx ls' H locs (LI_set (v := .inr (some x)) (fun _ h => h) hl') hW hX)
theorem nx_astore_n (fx : Fx g K d me) {i : Fin 4} {x : Nat} (hd : decode (me_cc me) pc = .ok (.astore_n i, 1)) (hi : i.val < L.length) (nx : NX g K Q c0 s0 (pc + 1) (L.set i.val (some (.inr (some x)))) S kd F P) : NX g K Q c0 s0 pc L (.inr (some x) :: S) kd F P :=
  fun ls H locs hL hW hX => lv_astore_n fx.1 fx.2.1 hd rfl (LI_has hL) hi rfl (fun ls' hl' => nx ls' H locs (LI_set (v := .inr (some x)) (fun _ h => h) hl') hW hX)
theorem nx_iinc (fx : Fx g K d me) {i : Nat} {n x : Int} (hd : decode (me_cc me) pc = .ok (.iinc i n, 3)) (hi : L[i]? = some (some (.inl x))) (nx : NX g K Q c0 s0 (pc + 3) (L.set i (some (.inl (wr (x + n))))) S kd F P) : NX g K Q c0 s0 pc L S kd F P :=
  fun ls H locs hL hW hX => lv_iinc (lv := (i, gv K (.inl x)) :: lvk K L) (k := 0) fx.1 fx.2.1 hd ⟨hL.1, hL.2.1, fun q hq => by
    rcases List.mem_cons.mp hq with h | h
    · rw [h]; exact hL.2.2 _ _ hi
    · exact (LI_has hL).2.2 q h⟩ rfl (i32_add x n).symm (List.getElem?_eq_some_iff.mp hi).1 rfl (fun ls' hl' => nx ls' H locs (LI_set (v := .inl (wr (x + n))) (fun q h => List.mem_cons_of_mem _ h) hl') hW hX)
theorem nx_iadd (fx : Fx g K d me) {x y : Int} (hd : decode (me_cc me) pc = .ok (.iadd, 1)) (nx : NX g K Q c0 s0 (pc + 1) L (.inl (wr (x + y)) :: S) kd F P) : NX g K Q c0 s0 pc L (.inl y :: .inl x :: S) kd F P :=
  fun ls H locs hL hW hX => lv_iadd fx.1 fx.2.1 hd (by have := nx ls H locs hL hW hX; simp only [List.map_cons, gv, i32_add] at this; exact this)
theorem nx_isub (fx : Fx g K d me) {x y : Int} (hd : decode (me_cc me) pc = .ok (.isub, 1)) (nx : NX g K Q c0 s0 (pc + 1) L (.inl (wr (x - y)) :: S) kd F P) : NX g K Q c0 s0 pc L (.inl y :: .inl x :: S) kd F P :=
  fun ls H locs hL hW hX => lv_isub fx.1 fx.2.1 hd (by have := nx ls H locs hL hW hX; simp only [List.map_cons, gv, i32_sub] at this; exact this)
theorem nx_imul (fx : Fx g K d me) {x y : Int} (hd : decode (me_cc me) pc = .ok (.imul, 1)) (nx : NX g K Q c0 s0 (pc + 1) L (.inl (wr (x * y)) :: S) kd F P) : NX g K Q c0 s0 pc L (.inl y :: .inl x :: S) kd F P :=
  fun ls H locs hL hW hX => lv_imul fx.1 fx.2.1 hd (by have := nx ls H locs hL hW hX; simp only [List.map_cons, gv, i32_mul] at this; exact this)
theorem nx_iand (fx : Fx g K d me) {x y : Int} (hd : decode (me_cc me) pc = .ok (.iand, 1)) (nx : NX g K Q c0 s0 (pc + 1) L (.inl (i32 x &&& i32 y).toInt :: S) kd F P) : NX g K Q c0 s0 pc L (.inl y :: .inl x :: S) kd F P :=
  fun ls H locs hL hW hX => lv_iand fx.1 fx.2.1 hd (by have := nx ls H locs hL hW hX; simp only [List.map_cons, gv, i32_of] at this; exact this)
theorem nx_ishr (fx : Fx g K d me) {x y : Int} (hd : decode (me_cc me) pc = .ok (.ishr, 1)) (nx : NX g K Q c0 s0 (pc + 1) L (.inl (i32 x >>> (i32 y &&& 31)).toInt :: S) kd F P) : NX g K Q c0 s0 pc L (.inl y :: .inl x :: S) kd F P :=
  fun ls H locs hL hW hX => lv_ishr fx.1 fx.2.1 hd (by have := nx ls H locs hL hW hX; simp only [List.map_cons, gv, i32_of] at this; exact this)
theorem nx_ixor (fx : Fx g K d me) {x y : Int} (hd : decode (me_cc me) pc = .ok (.ixor, 1)) (nx : NX g K Q c0 s0 (pc + 1) L (.inl (i32 x ^^^ i32 y).toInt :: S) kd F P) : NX g K Q c0 s0 pc L (.inl y :: .inl x :: S) kd F P :=
  fun ls H locs hL hW hX => lv_ixor fx.1 fx.2.1 hd (by have := nx ls H locs hL hW hX; simp only [List.map_cons, gv, i32_of] at this; exact this)
theorem nx_ineg (fx : Fx g K d me) {x : Int} (hd : decode (me_cc me) pc = .ok (.ineg, 1)) (nx : NX g K Q c0 s0 (pc + 1) L (.inl (wr (-x)) :: S) kd F P) : NX g K Q c0 s0 pc L (.inl x :: S) kd F P :=
  fun ls H locs hL hW hX => lv_ineg fx.1 fx.2.1 hd (by have := nx ls H locs hL hW hX; simp only [List.map_cons, gv, i32_neg] at this; exact this)
theorem nx_idiv (fx : Fx g K d me) {x y : Int} (hd : decode (me_cc me) pc = .ok (.idiv, 1)) (hx : inb x) (hy : inb y) (h0 : y ≠ 0) (nx : NX g K Q c0 s0 (pc + 1) L (.inl (wr (Int.tdiv x y)) :: S) kd F P) : NX g K Q c0 s0 pc L (.inl y :: .inl x :: S) kd F P :=
  fun ls H locs hL hW hX => lv_idiv fx.1 fx.2.1 hd (fun h => h0 ((i32_eq hy inb_0).mp (h.trans i32_0))) (by have := nx ls H locs hL hW hX; simp only [List.map_cons, gv, i32_div hx hy] at this; exact this)
theorem nx_irem (fx : Fx g K d me) {x y : Int} (hd : decode (me_cc me) pc = .ok (.irem, 1)) (hx : inb x) (hy : inb y) (h0 : y ≠ 0) (nx : NX g K Q c0 s0 (pc + 1) L (.inl (wr (x - Int.tdiv x y * y)) :: S) kd F P) : NX g K Q c0 s0 pc L (.inl y :: .inl x :: S) kd F P :=
  fun ls H locs hL hW hX => lv_irem fx.1 fx.2.1 hd (fun h => h0 ((i32_eq hy inb_0).mp (h.trans i32_0))) (by have := nx ls H locs hL hW hX; simp only [List.map_cons, gv, i32_rem hx hy] at this; exact this)
theorem nx_dup (fx : Fx g K d me) {v : AV} (hd : decode (me_cc me) pc = .ok (.dup, 1)) (nx : NX g K Q c0 s0 (pc + 1) L (v :: v :: S) kd F P) : NX g K Q c0 s0 pc L (v :: S) kd F P :=
  fun ls H locs hL hW hX => lv_dup fx.1 fx.2.1 hd (gv_cat K v) (nx ls H locs hL hW hX)
theorem nx_dup2 (fx : Fx g K d me) {v w : AV} (hd : decode (me_cc me) pc = .ok (.dup2, 1)) (nx : NX g K Q c0 s0 (pc + 1) L (v :: w :: v :: w :: S) kd F P) : NX g K Q c0 s0 pc L (v :: w :: S) kd F P :=
  fun ls H locs hL hW hX => lv_dup2_11 fx.1 fx.2.1 hd (gv_cat K v) (gv_cat K w) (nx ls H locs hL hW hX)
theorem nx_pop (fx : Fx g K d me) {v : AV} (hd : decode (me_cc me) pc = .ok (.pop, 1)) (nx : NX g K Q c0 s0 (pc + 1) L S kd F P) : NX g K Q c0 s0 pc L (v :: S) kd F P :=
  fun ls H locs hL hW hX => lv_pop fx.1 fx.2.1 hd (gv_cat K v) (nx ls H locs hL hW hX)
theorem brn_spec {off : Int} {t : Nat} (h : brn pc off = some t) : (pc : Int) + off = (t : Int) := by
  unfold brn at h
  split at h
  · cases h; omega
  · cases h
theorem nx_goto (fx : Fx g K d me) {off : Int} {t : Nat} (hd : decode (me_cc me) pc = .ok (.goto off, 3)) (ht : brn pc off = some t) (nx : NX g K Q c0 s0 t L S kd F P) : NX g K Q c0 s0 pc L S kd F P :=
  fun ls H locs hL hW hX => lv_goto fx.1 fx.2.1 hd (brn_spec ht) (nx ls H locs hL hW hX)
theorem nx_icmp (fx : Fx g K d me) {c : Jvm.ClassFile.Cond} {off : Int} {t : Nat} {x y : Int} (hd : decode (me_cc me) pc = .ok (.if_icmp c off, 3)) (ht : brn pc off = some t) (hx : inb x) (hy : inb y) (nx : NX g K Q c0 s0 (if cmpc c x y = true then t else pc + 3) L S kd F P) : NX g K Q c0 s0 pc L (.inl y :: .inl x :: S) kd F P := by
  intro ls H locs hL hW hX
  have h := nx ls H locs hL hW hX
  cases c <;> simp only [cmpc, decide_eq_true_eq] at h
  · exact lv_icmp_eq fx.1 fx.2.1 hd (brn_spec ht) (fun q => by rw [if_pos ((i32_eq hx hy).mp q)] at h; exact h) (fun q => by rw [if_neg (fun z => q ((i32_eq hx hy).mpr z))] at h; exact h)
  · exact lv_icmp_ne fx.1 fx.2.1 hd (brn_spec ht) (fun q => by rw [if_pos (fun z => q ((i32_eq hx hy).mpr z))] at h; exact h) (fun q => by rw [if_neg (fun z => z ((i32_eq hx hy).mp q))] at h; exact h)
  · exact lv_icmp_lt fx.1 fx.2.1 hd (brn_spec ht) (fun q => by rw [if_pos ((i32_lt hx hy).mp q)] at h; exact h) (fun q => by rw [if_neg (fun z => q ((i32_lt hx hy).mpr z))] at h; exact h)
  · exact lv_icmp_ge fx.1 fx.2.1 hd (brn_spec ht) (fun q => by rw [if_pos ((i32_le hy hx).mp q)] at h; exact h) (fun q => by rw [if_neg (fun z => q ((i32_le hy hx).mpr z))] at h; exact h)
  · exact lv_icmp_gt fx.1 fx.2.1 hd (brn_spec ht) (fun q => by rw [if_pos ((i32_lt hy hx).mp q)] at h; exact h) (fun q => by rw [if_neg (fun z => q ((i32_lt hy hx).mpr z))] at h; exact h)
  · exact lv_icmp_le fx.1 fx.2.1 hd (brn_spec ht) (fun q => by rw [if_pos ((i32_le hx hy).mp q)] at h; exact h) (fun q => by rw [if_neg (fun z => q ((i32_le hx hy).mpr z))] at h; exact h)
theorem nx_ifc (fx : Fx g K d me) {c : Jvm.ClassFile.Cond} {off : Int} {t : Nat} {x : Int} (hd : decode (me_cc me) pc = .ok (.ifCond c off, 3)) (ht : brn pc off = some t) (hx : inb x) (nx : NX g K Q c0 s0 (if cmpc c x 0 = true then t else pc + 3) L S kd F P) : NX g K Q c0 s0 pc L (.inl x :: S) kd F P := by
  intro ls H locs hL hW hX
  have h := nx ls H locs hL hW hX
  have hy := inb_0
  cases c <;> simp only [cmpc, decide_eq_true_eq] at h
  · exact lv_if_eq fx.1 fx.2.1 hd (brn_spec ht) (fun q => by rw [if_pos ((i32_eq hx hy).mp (q.trans i32_0))] at h; exact h) (fun q => by rw [if_neg (fun z => q (((i32_eq hx hy).mpr z).trans i32_0.symm))] at h; exact h)
  · exact lv_if_ne fx.1 fx.2.1 hd (brn_spec ht) (fun q => by rw [if_pos (fun z => q (((i32_eq hx hy).mpr z).trans i32_0.symm))] at h; exact h) (fun q => by rw [if_neg (fun z => z ((i32_eq hx hy).mp (q.trans i32_0)))] at h; exact h)
  · exact lv_if_lt fx.1 fx.2.1 hd (brn_spec ht) (fun q => by rw [if_pos ((i32_lt hx hy).mp (by rw [← i32_0]; exact q))] at h; exact h) (fun q => by rw [if_neg (fun z => q (by rw [i32_0]; exact (i32_lt hx hy).mpr z))] at h; exact h)
  · exact lv_if_ge fx.1 fx.2.1 hd (brn_spec ht) (fun q => by rw [if_pos ((i32_le hy hx).mp (by rw [← i32_0]; exact q))] at h; exact h) (fun q => by rw [if_neg (fun z => q (by rw [i32_0]; exact (i32_le hy hx).mpr z))] at h; exact h)
  · exact lv_if_gt fx.1 fx.2.1 hd (brn_spec ht) (fun q => by rw [if_pos ((i32_lt hy hx).mp (by rw [← i32_0]; exact q))] at h; exact h) (fun q => by rw [if_neg (fun z => q (by rw [i32_0]; exact (i32_lt hy hx).mpr z))] at h; exact h)
  · exact lv_if_le fx.1 fx.2.1 hd (brn_spec ht) (fun q => by rw [if_pos ((i32_le hx hy).mp (by rw [← i32_0]; exact q))] at h; exact h) (fun q => by rw [if_neg (fun z => q (by rw [i32_0]; exact (i32_le hx hy).mpr z))] at h; exact h)
theorem nx_tab (fx : Fx g K d me) {dflt lo hi : Int} {offs : Array Int} {len : Nat} {x : Int} {st : AS} (hd : decode (me_cc me) pc = .ok (.tableswitch dflt lo hi offs, len)) (hx : inb x) (hs : s_tab pc dflt lo hi offs L (.inl x :: S) kd F P = some st) (nx : NX g K Q c0 s0 st.1 st.2.1 st.2.2.1 st.2.2.2.1 st.2.2.2.2.1 st.2.2.2.2.2) : NX g K Q c0 s0 pc L (.inl x :: S) kd F P := by
  simp only [s_tab] at hs
  split at hs
  · next h =>
    split at hs
    · next off ho =>
      unfold s_goto at hs
      split at hs
      · next t ht =>
        cases hs
        exact fun ls H locs hL hW hX => lv_tableIn fx.1 fx.2.1 hd (by rw [i32_toInt hx]; omega) (by rw [i32_toInt hx]; omega) (by rw [i32_toInt hx]; exact ho) (brn_spec ht) (nx ls H locs hL hW hX)
      · cases hs
    · cases hs
  · next h =>
    unfold s_goto at hs
    split at hs
    · next t ht =>
      cases hs
      exact fun ls H locs hL hW hX => lv_tableOut fx.1 fx.2.1 hd (by rw [i32_toInt hx]; omega) (brn_spec ht) (nx ls H locs hL hW hX)
    · cases hs
theorem nx_look (fx : Fx g K d me) {dflt : Int} {ps : Array (Int × Int)} {len : Nat} {x : Int} {st : AS} (hd : decode (me_cc me) pc = .ok (.lookupswitch dflt ps, len)) (hx : inb x) (hs : s_look pc dflt ps L (.inl x :: S) kd F P = some st) (nx : NX g K Q c0 s0 st.1 st.2.1 st.2.2.1 st.2.2.2.1 st.2.2.2.2.1 st.2.2.2.2.2) : NX g K Q c0 s0 pc L (.inl x :: S) kd F P := by
  simp only [s_look] at hs
  split at hs
  · next h =>
    unfold s_goto at hs
    split at hs
    · next t ht =>
      cases hs
      exact fun ls H locs hL hW hX => lv_lookup fx.1 fx.2.1 hd h (by rw [i32_toInt hx]) (brn_spec ht) (nx ls H locs hL hW hX)
    · cases hs
  · cases hs
theorem nx_mmin (fx : Fx g K d me) {idx : Nat} {x y : Int} (hml : L.length = me_ml me) (hd : decode (me_cc me) pc = .ok (.invokestatic idx, 3)) (hl : Jvm.Cond.methodLink (me_y me).cls idx Lib.Math.min.name ∈ WL) (hst : Jvm.Cond.static Lib.Math.min.name ∈ WL) (hin : Jvm.Cond.initialized "java/lang/Math" ∈ WL) (hco : Jvm.Cond.code Lib.Math.min.name Lib.Math.min.code 2 (some .int) ∈ WL) (h2 : 2 ≤ d) (h4 : S.length ≤ 4) (hx : inb x) (hy : inb y) (hc : kd.length - c0 ≤ g.2.2.2.1.cells ∧ ksz kd - s0 ≤ g.2.2.2.1.slots) (nx : NX g K Q c0 s0 (pc + 3) L (.inl (if y < x then y else x) :: S) kd F P) : NX g K Q c0 s0 pc L (.inl y :: .inl x :: S) kd F P :=
  fun ls H locs hL hW hX => va_mmin fx.1 fx.2.1 (by rw [fx.2.2.1, hL.1, hml]) fx.2.2.2.1 (fx.2.2.2.2.1 _ hl) (fx.2.2.2.2.1 _ hst) (fx.2.2.2.2.1 _ hin) (fx.2.2.2.2.1 _ hco) (by have := fx.2.2.2.2.2.2.2.1; omega) (by have := fx.2.2.2.2.2.2.2.2; rw [gv_cats]; omega) hc.1 hc.2 hd (by
    have e := nx ls H locs hL hW hX
    simp only [List.map_cons, gv] at e
    have e2 : i32 (if y < x then y else x) = if i32 y < i32 x then i32 y else i32 x := by
      by_cases q : y < x
      · rw [if_pos q, if_pos ((i32_lt hy hx).mpr q)]
      · rw [if_neg q, if_neg (fun z => q ((i32_lt hy hx).mp z))]
    rw [e2] at e
    exact e)
theorem nx_oini (fx : Fx g K d me) {idx k : Nat} (hml : L.length = me_ml me) (hd : decode (me_cc me) pc = .ok (.invokespecial idx, 3)) (hl : Jvm.Cond.methodLink (me_y me).cls idx objectInit ∈ WL) (hst : Jvm.Cond.instanceMethod objectInit ∈ WL) (hco : Jvm.Cond.code objectInit ⟨#[0xb1]⟩ 1 none ∈ WL) (h1 : 1 ≤ d) (nx : NX g K Q c0 s0 (pc + 3) L [] kd F P) : NX g K Q c0 s0 pc L [.inr (some k)] kd F P :=
  fun ls H locs hL hW hX => W.objInit fx.1 fx.2.1 fx.2.2.2.1 (fx.2.2.2.2.1 _ hl) (fx.2.2.2.2.1 _ hst) (fx.2.2.2.2.1 _ hco) rfl (by show ls.size = _; rw [fx.2.2.1, hL.1, hml]) rfl hd (by have := fx.2.2.2.2.2.2.2.1; omega) (by have := fx.2.2.2.2.2.2.2.2; show 2 * 0 + 0 + 12 ≤ _; omega) (nx ls H locs hL hW hX)
end STEPS
end
section
section CELLS
variable {g : GX} {K : KX} {d : Nat} {me : ME} {Q : State → Prop} {c0 s0 pc : Nat} {L : LV} {S : List AV} {kd : KL} {F : FM} {P : PM}
theorem clOk : ∀ (c : Nat) (r : vw_C), vwCl[c]? = some r → (∀ k, k < r.2.2 → parseFieldDescriptor (r.2.1 k).2.2.1 = some (tyOf c k)) ∧ (∀ a, a < r.2.2 → ∀ b, b < r.2.2 → a ≠ b → (r.2.1 a).2.1 ≠ (r.2.1 b).2.1) := by
  intro c r h
  match c, h with
  | 0, h => cases h; exact ⟨tyX0_ok, nmX0⟩
  | 1, h => cases h; exact ⟨tyX1_ok, nmX1⟩
  | 2, h => cases h; exact ⟨tyX2_ok, nmX2⟩
  | 3, h => cases h; exact ⟨tyX3_ok, nmX3⟩
  | 4, h => cases h; exact ⟨tyX4_ok, nmX4⟩
  | 5, h => cases h; exact ⟨tyX5_ok, nmX5⟩
  | 6, h => cases h; exact ⟨tyX6_ok, nmX6⟩
  | 7, h => cases h; exact ⟨tyX7_ok, nmX7⟩
  | c + 8, h => simp [vwCl] at h
theorem clDef : ∀ (c : Nat) (r : vw_C), vwCl[c]? = some r → ∀ k, k < r.2.2 → defaultValue (tyOf c k) = if isN (tyOf c k) = true then .int 0 else .null := by
  intro c r h
  match c, h with
  | 0, h => cases h; decide +kernel
  | 1, h => cases h; decide +kernel
  | 2, h => cases h; decide +kernel
  | 3, h => cases h; decide +kernel
  | 4, h => cases h; decide +kernel
  | 5, h => cases h; decide +kernel
  | 6, h => cases h; decide +kernel
  | 7, h => cases h; decide +kernel
  | c + 8, h => simp [vwCl] at h
/-- a row of numbers, one of the three that were there before or one of the system's own -/
theorem rowAt {H : Heap} (fx : Fx g K d me) (hW : WI K kd F P H) {k n : Nat} (hk : kd[k]? = some (0, n)) : ∃ cell : Cell, H[ad K k]? = some cell ∧ g.2.2.2.2.1.isArrayOf cell .int ∧ cell.vm ≠ .unknown ∧ n ≤ cell.slots.size ∧ cell.slots.size.toInt32 = Int32.ofNat n ∧ ∀ j : Nat, j < n → cell.slots[j]? = some (.int (i32 (F k (j : Int)))) := by
  by_cases h3 : 3 ≤ k
  · have h := hW.2.2.2.1 k _ h3 hk
    have h : H[ad K k]? = some (vp_cell (kcI K) (n, .inl (fun j => i32 (F k (j : Int))))) := h
    have hr := (fx.2.2.2.2.2.1.2.1.2 0 _ rfl).1 n (fun j => .int (i32 (F k (j : Int))))
    refine ⟨_, h, hr, (fun q => by cases q), ?_, ?_, fun j hj => ?_⟩
    · show n ≤ (arrV _ _ _).slots.size; rw [arrV_size]; exact Nat.le_refl n
    · show (arrV _ _ _).slots.size.toInt32 = _; rw [arrV_size]
    · show (arrV _ _ _).slots[j]? = _; rw [arrV_read _ _ hj]
  · have h3 : k < 3 := by omega
    obtain ⟨e1, e2⟩ := hW.2.2.2.2 k h3
    cases hk.symm.trans e1
    obtain ⟨cell, h1, h2, h4, h5, h6, h7, h8⟩ := fx.2.2.2.2.2.1.2.2.2.2.1 k h3
    have hz := fx.2.2.2.2.2.1.1
    have hlt := (Array.getElem?_eq_some_iff.mp h1).1
    refine ⟨cell, ?_, h2, h4, h5, h6, fun j hj => ?_⟩
    · unfold ad
      rw [if_pos h3, hW.2.2.1 _ (by omega)]
      exact h1
    · rw [e2]; exact h7 j hj
theorem nx_iald (fx : Fx g K d me) {k n : Nat} {i : Int} (hd : decode (me_cc me) pc = .ok (.iaload, 1)) (hk : kd[k]? = some (0, n)) (hi : inb i) (h0 : 0 ≤ i) (h1 : i < n) (nx : NX g K Q c0 s0 (pc + 1) L (.inl (F k i) :: S) kd F P) : NX g K Q c0 s0 pc L (.inl i :: .inr (some k) :: S) kd F P := by
  intro ls H locs hL hW hX
  obtain ⟨cell, e1, e2, e3, e4, e5, e6⟩ := rowAt fx hW hk
  refine W.iald fx.1 fx.2.1 e1 e2 e3 (j := i32 i) (v := .int (i32 (F k i))) ?_ (by rw [i32_n hi]; have e7 := e6 i.toNat (by omega); rw [Int.toNat_of_nonneg h0] at e7; exact e7) rfl rfl hd (nx ls H locs hL hW hX)
  have h9 := i32_in hi h0 h1
  unfold vp_in at h9
  intro z
  rcases z with z | z
  · exact h9 (Or.inl z)
  · exact h9 (Or.inr (Nat.le_trans e4 z))
theorem nx_alen (fx : Fx g K d me) {k n : Nat} (hd : decode (me_cc me) pc = .ok (.arraylength, 1)) (hk : kd[k]? = some (0, n)) (nx : NX g K Q c0 s0 (pc + 1) L (.inl (n : Int) :: S) kd F P) : NX g K Q c0 s0 pc L (.inr (some k) :: S) kd F P := by
  intro ls H locs hL hW hX
  obtain ⟨cell, e1, e2, e3, e4, e5, e6⟩ := rowAt fx hW hk
  exact W.alen fx.1 fx.2.1 e1 e2 (e5.trans Int32.ofInt_eq_ofNat.symm) rfl rfl hd (nx ls H locs hL hW hX)
theorem nx_aald (fx : Fx g K d me) {k n : Nat} {i : Int} (hd : decode (me_cc me) pc = .ok (.aaload, 1)) (h3 : 3 ≤ k) (hk : kd[k]? = some (1, n)) (hi : inb i) (h0 : 0 ≤ i) (h1 : i < n) (nx : NX g K Q c0 s0 (pc + 1) L (.inr (P k i) :: S) kd F P) : NX g K Q c0 s0 pc L (.inl i :: .inr (some k) :: S) kd F P := by
  intro ls H locs hL hW hX
  have e := nx ls H locs hL hW hX
  refine va_aldq (D := kD K) (cl := vwCl) fx.1 fx.2.1 fx.2.2.2.2.2.1.2.1 (WI_at hW h3 hk) 0 1 (C := RX5) (n := n) (f := fun j => (P k (j : Int)).map (ad K)) rfl rfl (i32_in hi h0 h1) hd ?_
  rw [i32_n hi, Int.toNat_of_nonneg h0]
  exact e
theorem XI_add {locs : List Loc} {a : Addr} {i : Nat} (hX : XI K locs) (h : kz K ≤ a) : XI K (locs ++ [⟨a, i⟩]) := by
  intro q hq
  rcases List.mem_append.mp hq with h1 | h1
  · exact hX q h1
  · rw [List.mem_singleton.mp h1]; exact h
theorem nx_iast (fx : Fx g K d me) {k n : Nat} {i v : Int} (hd : decode (me_cc me) pc = .ok (.iastore, 1)) (h3 : 3 ≤ k) (hk : kd[k]? = some (0, n)) (hi : inb i) (h0 : 0 ≤ i) (h1 : i < n) (nx : NX g K Q c0 s0 (pc + 1) L S kd (stt F k i v) P) : NX g K Q c0 s0 pc L (.inl v :: .inl i :: .inr (some k) :: S) kd F P := by
  intro ls H locs hL hW hX
  have h : H[ad K k]? = some (vp_cell (kcI K) (n, .inl (fun j => i32 (F k (j : Int))))) := hW.2.2.2.1 k _ h3 hk
  have hr := (fx.2.2.2.2.2.1.2.1.2 0 _ rfl).1 n (fun j => .int (i32 (F k (j : Int))))
  refine W.iast fx.1 fx.2.1 h hr (fun q => by cases q) (j := i32 i) (x := i32 v) ?_ rfl rfl hd (fun H' f1 f2 f3 => nx ls H' _ hL (WI_put hW h3 hk ?_ f2 f3 ?_ (fun _ _ => rfl)) (XI_add hX (ad_lt hW h3 hk).1))
  · have := i32_in hi h0 h1
    unfold vp_in at this
    show ¬ (_ ∨ (arrV _ _ _).slots.size ≤ _)
    rw [arrV_size]
    exact this
  · show H'[ad K k]? = some (vp_cell (kcI K) (n, .inl (fun j => i32 (stt F k i v k (j : Int)))))
    rw [f1]
    rw [vp_cell_i, vp_cell_i, arrV_store]
    congr 2
    funext q
    rw [i32_n hi]
    unfold updV stt
    by_cases hq : q = i.toNat
    · rw [if_pos hq, if_pos ⟨rfl, by omega⟩]
    · rw [if_neg hq, if_neg (fun z => hq (by have := z.2; omega))]
  · intro j hj
    funext q
    unfold stt
    rw [if_neg (fun z => hj z.1)]
theorem nx_aast (fx : Fx g K d me) {k n v : Nat} {i : Int} (hd : decode (me_cc me) pc = .ok (.aastore, 1)) (h3 : 3 ≤ k) (hk : kd[k]? = some (1, n)) (hi : inb i) (h0 : 0 ≤ i) (h1 : i < n) (v3 : 3 ≤ v) (hv : kd[v]? = some (7, 17)) (nx : NX g K Q c0 s0 (pc + 1) L S kd F (stp_ P k i (some v))) : NX g K Q c0 s0 pc L (.inr (some v) :: .inl i :: .inr (some k) :: S) kd F P := by
  intro ls H locs hL hW hX
  have h : H[ad K k]? = some (vp_cell (kcR K) (n, .inr (.inr (.inr (.inr (fun j => (P k (j : Int)).map (ad K))))))) := hW.2.2.2.1 k _ h3 hk
  have hvv : va_at (kD K) vwCl (ad K v, .inr (5, ob K 5 17 (F v) (P v))) H := by
    have h := hW.2.2.2.1 v _ v3 hv
    rw [show ((7 : Nat), (17 : Nat)) = (5 + 2, 17) from rfl, cel_ob (by decide)] at h
    exact h
  obtain ⟨r', hr', cellV, g1, g2, g3, -⟩ := hvv
  have hr : r' = (RX5, TX5, 17) := (Option.some.inj hr').symm
  subst hr
  have hcls := (fx.2.2.2.2.2.1.2.1.1 5 _ rfl).2
  obtain ⟨kA, comp, k1, k2, k3, -⟩ := (fx.2.2.2.2.2.1.2.1.2 1 _ rfl).2
  have hcomp : comp = (kD K).1 5 := Option.some.inj (k3.symm.trans hcls.1)
  subst hcomp
  obtain ⟨kC', hkC, -⟩ := hcls.2
  have hin := i32_in hi h0 h1
  unfold vp_in at hin
  refine W.aast fx.1 fx.2.1 h (fun q z => by cases z) (fun z => by cases z) k1 k2 rfl hkC (j := i32 i) ⟨fun z => hin (Or.inl z), ?_⟩ g1 (fun q z => by rw [g3] at z; cases z) (by rw [g2]; exact hkC) (by rw [g2]; exact va_assign hcls) rfl rfl hd (fun H' f1 f2 f3 => nx ls H' _ hL (WI_put hW h3 hk ?_ f2 f3 (fun _ _ => rfl) ?_) (XI_add hX (ad_lt hW h3 hk).1))
  · show _ < (arrV _ _ _).slots.size
    rw [arrV_size]
    omega
  · show H'[ad K k]? = some (vp_cell (kcR K) (n, .inr (.inr (.inr (.inr (fun j => (stp_ P k i (some v) k (j : Int)).map (ad K)))))))
    rw [f1]
    rw [vp_cell_q, vp_cell_q, arrV_store]
    congr 2
    funext q
    rw [i32_n hi]
    unfold updV stp_
    by_cases hq : q = i.toNat
    · rw [if_pos hq, if_pos ⟨rfl, by omega⟩]; rfl
    · rw [if_neg hq, if_neg (fun z => hq (by have := z.2; omega))]
  · intro j hj
    funext q
    unfold stp_
    rw [if_neg (fun z => hj z.1)]
theorem ob_get {c n j : Nat} {f : Int → Int} {q : Int → Option Nat} (hj : j < n) : (ob K c n f q)[j]? = some (sval K c j (f (j : Int)) (q (j : Int))) := by
  unfold ob
  rw [List.getElem?_map, List.getElem?_range hj]
  rfl
theorem nx_getf (fx : Fx g K d me) {k n ci j idx : Nat} {r : vw_C} (hd : decode (me_cc me) pc = .ok (.getfield idx, 3)) (h3 : 3 ≤ k) (hk : kd[k]? = some (ci + 2, n)) (hj : j < n) (hr : vwCl[ci]? = some r) (hjr : j < r.2.2) (hu : ∀ w ∈ u_ws r.1 r.2.1 r.2.2, w ∈ WL) (hl : Jvm.Cond.fieldLink (me_y me).cls idx (r.2.1 j).1 (r.2.1 j).2.1 (r.2.1 j).2.2.1 ∈ WL) (nx : NX g K Q c0 s0 (pc + 3) L ((if isN (tyOf ci j) = true then .inl (F k (j : Int)) else .inr (P k (j : Int))) :: S) kd F P) : NX g K Q c0 s0 pc L (.inr (some k) :: S) kd F P := by
  intro ls H locs hL hW hX
  have e := nx ls H locs hL hW hX
  have e2 : gv K (if isN (tyOf ci j) = true then .inl (F k (j : Int)) else .inr (P k (j : Int))) = sval K ci j (F k (j : Int)) (P k (j : Int)) := by
    unfold sval
    split <;> rfl
  rw [List.map_cons, e2] at e
  have hP' := WI_at hW h3 hk
  rw [cel_ob (ci_of hr)] at hP'
  exact va_get (D := kD K) (cl := vwCl) (T := r.2.1) (C := r.1) (N := r.2.2) (ci := ci) fx.1 fx.2.1 fx.2.2.2.2.1 hu fx.2.2.2.1 fx.2.2.2.2.2.1.2.1 hP' 0 rfl hr j hjr (fx.2.2.2.2.1 _ hl) (fun _ z => z) (ob_get hj) hd e
theorem ob_set {c n j : Nat} {f : Int → Int} {q : Int → Option Nat} {f' : Int → Int} {q' : Int → Option Nat} (hf : ∀ i : Nat, i ≠ j → f' (i : Int) = f (i : Int)) (hq : ∀ i : Nat, i ≠ j → q' (i : Int) = q (i : Int)) : (ob K c n f q).set j (sval K c j (f' (j : Int)) (q' (j : Int))) = ob K c n f' q' := by
  apply List.ext_getElem?
  intro i
  rw [List.getElem?_set]
  unfold ob
  by_cases hij : j = i
  · subst hij
    rw [if_pos rfl]
    by_cases hn : j < n
    · rw [if_pos (by simp; exact hn), List.getElem?_map, List.getElem?_range hn]; rfl
    · rw [if_neg (by simp; omega), List.getElem?_map, List.getElem?_eq_none (by simp; omega)]; rfl
  · rw [if_neg hij, List.getElem?_map, List.getElem?_map]
    by_cases hn : i < n
    · rw [List.getElem?_range hn]
      show some (sval K c i (f (i : Int)) (q (i : Int))) = some (sval K c i (f' (i : Int)) (q' (i : Int)))
      rw [hf i (fun z => hij z.symm), hq i (fun z => hij z.symm)]
    · rw [List.getElem?_eq_none (by simp; omega)]
      rfl
theorem nx_putV (fx : Fx g K d me) {k n ci j idx : Nat} {r : vw_C} {f' : FM} {p' : PM} {v : AV} (hd : decode (me_cc me) pc = .ok (.putfield idx, 3)) (h3 : 3 ≤ k) (hk : kd[k]? = some (ci + 2, n)) (hj : j < n) (hr : vwCl[ci]? = some r) (hjr : j < r.2.2) (hu : ∀ w ∈ u_ws r.1 r.2.1 r.2.2, w ∈ WL) (hl : Jvm.Cond.fieldLink (me_y me).cls idx (r.2.1 j).1 (r.2.1 j).2.1 (r.2.1 j).2.2.1 ∈ WL) (hfin : (r.2.1 j).2.2.2 = false ∨ ((me_y me).name = "<init>" ∧ (r.2.1 j).1 = (me_y me).cls))
    (hn : narrow (tyOf ci j) (gv K v) = gv K v) (hfit : fits (tyOf ci j) (gv K v) = true) (hv : gv K v = sval K ci j (f' k (j : Int)) (p' k (j : Int))) (hF : ∀ (a : Nat) (b : Int), ¬ (a = k ∧ b = (j : Int)) → f' a b = F a b) (hP : ∀ (a : Nat) (b : Int), ¬ (a = k ∧ b = (j : Int)) → p' a b = P a b) (nx : NX g K Q c0 s0 (pc + 3) L S kd f' p') : NX g K Q c0 s0 pc L (v :: .inr (some k) :: S) kd F P := by
  intro ls H locs hL hW hX
  obtain ⟨C, T, N⟩ := r
  dsimp only at hjr hu hl hfin hr
  have hts := fx.2.2.2.2.1
  have hKc := fx.2.2.2.2.2.1.2.1
  obtain ⟨hty, hnm⟩ := clOk ci _ hr
  have hap := va_apart (own := (me_y me).cls) (D := kD K) hts hu (tyOf ci) hty hnm hKc hr
  have hat0 := hW.2.2.2.1 k _ h3 hk
  rw [cel_ob (ci_of hr)] at hat0
  obtain ⟨r', h1, cell, q1, q2, q3, q4⟩ := hat0
  have hre : r' = (C, T, N) := Option.some.inj (h1.symm.trans hr)
  subst hre
  obtain ⟨hS, hfc, kC', hkC, hkind⟩ := hKc.1 ci _ hr
  obtain ⟨cf, kf', fi, f, hi, hsl⟩ := hS j hjr
  have hlays := u_lays hts hu hjr
  have hst := (u_facts hfc hkC hlays hi).1
  have hat : ∀ H' : Heap, H'[ad K k]? = some (cell.setSlot ((kD K).2 ci j) (gv K v)) → va_at (kD K) vwCl (ad K k, cel K (ci + 2, n) (f' k) (p' k)) H' := by
    intro H' e1
    rw [cel_ob (ci_of hr)]
    refine ⟨_, hr, t_OB.to (V := updV (vp_V (ob K ci n (F k) (P k))) j (gv K v)) ⟨_, e1, q2, q3, t_set q4 hap hjr (gv K v)⟩ (fun i _ => ?_)⟩
    have hlen : j < (ob K ci n (F k) (P k)).length := by unfold ob; simp; exact hj
    rw [vp_updV_set hlen, hv, ob_set (fun i hi => hF k i (fun z => hi (by have := z.2; omega))) (fun i hi => hP k i (fun z => hi (by have := z.2; omega)))]
  have hgo : ∀ (H' : Heap) (i : Nat), H'[ad K k]? = some (cell.setSlot ((kD K).2 ci j) (gv K v)) → H'.size = H.size → (∀ q, q ≠ ad K k → H'[q]? = H[q]?) → gW g H' (locs ++ [⟨ad K k, i⟩]) (kd.length - c0) (ksz kd - s0) Q (F0 g.2.2.2.2.2.1 (pc + 3) ls (S.map (gv K))) :=
    fun H' i e1 e2 e3 => nx ls H' _ hL (WI_put hW h3 hk (hat H' e1) e2 e3 (fun a ha => funext fun b => hF a b (fun z => ha z.1)) (fun a ha => funext fun b => hP a b (fun z => ha z.1))) (XI_add hX (ad_lt hW h3 hk).1)
  by_cases hff : (T j).2.2.2 = false
  · have hlay := hts _ (hu _ (u_in_lay hjr))
    unfold u_lay at hlay
    rw [if_neg (by rw [hff]; decide)] at hlay
    have h6 := u_store hfc hkC hkind hlay hi (hty j hjr) hn hfit
    refine W.putK fx.1 fx.2.1 (f := f) ⟨fx.2.2.2.1, hts _ hl, ⟨_, _, _, hi⟩, hst⟩ (by rw [q2]; exact h6) q1 q3 (by rw [hsl]; exact k2_hasslot (q4 j hjr)) rfl rfl hd fun H' e1 e2 e3 => ?_
    rw [hsl] at e1 ⊢
    exact hgo H' _ e1 e2 e3
  · rcases hfin with h | ⟨hini, hdecl⟩
    · exact absurd h hff
    · have hft : (T j).2.2.2 = true := by cases hb : (T j).2.2.2 <;> simp_all
      have hlay := hts _ (hu _ (u_in_lay hjr))
      unfold u_lay at hlay
      rw [if_pos hft] at hlay
      have hcf : g.2.2.2.2.2.1.cls = cf := by
        obtain ⟨_, _, c', _, _, _, -, -, hf', -, -, -, hown2, -⟩ := Cond.laysFinal_spec hlay
        have e1 : c' = cf := by have := hi.symm.trans hf'; simp at this; exact this.1.symm
        rw [hdecl] at hown2
        rw [← e1]; exact Option.some.inj (fx.2.2.2.1.symm.trans hown2)
      have h6 := u_fits hfc hkC hkind (Or.inr hlay) hi (hty j hjr) hn hfit
      refine W.putFinK fx.1 fx.2.1 fx.2.2.2.1 (hts _ hl) hi hst hcf (fx.2.2.2.2.2.2.1 hini) (by rw [q2]; exact h6) q1 q3 (by rw [hsl]; exact k2_hasslot (q4 j hjr)) rfl rfl hd fun H' e1 e2 e3 => ?_
      rw [hsl] at e1 ⊢
      exact hgo H' _ e1 e2 e3
theorem nx_new (fx : Fx g K d me) {ci n idx : Nat} {r : vw_C} (hd : decode (me_cc me) pc = .ok (.new idx, 3)) (hr : vwCl[ci]? = some r) (hn : n = r.2.2) (hu : ∀ w ∈ u_ws r.1 r.2.1 r.2.2, w ∈ WL) (hcl : Jvm.Cond.classLink (me_y me).cls idx r.1 ∈ WL) (hins : Jvm.Cond.instantiable r.1 r.2.2 ∈ WL) (hini : Jvm.Cond.initialized r.1 ∈ WL) (hc0 : c0 ≤ kd.length) (hs0 : s0 ≤ ksz kd) (hrc : kd.length + 1 - c0 ≤ g.2.2.2.1.cells) (hrs : ksz kd + n - s0 ≤ g.2.2.2.1.slots)
    (nx : NX g K Q c0 s0 (pc + 3) L (.inr (some kd.length) :: S) (kd ++ [(ci + 2, n)]) (clF F kd.length) (clP P kd.length)) : NX g K Q c0 s0 pc L S kd F P := by
  intro ls H locs hL hW hX
  obtain ⟨C, T, N⟩ := r
  dsimp only at hn hu hcl hins hini hr
  subst hn
  have hts := fx.2.2.2.2.1
  have hKn := fx.2.2.2.2.2.1.2.1.1 ci _ hr
  obtain ⟨hty, -⟩ := clOk ci _ hr
  have ha := ad_new hW
  refine W.newcK fx.1 fx.2.1 fx.2.2.2.1 (hts _ hcl) (hts _ hins) (hts _ hini) rfl hd (by omega) (by omega) hKn.2.1 rfl fun H1 kC' hkC e1 z1 o1 => ?_
  have hW1 : WI K (kd ++ [(ci + 2, n)]) (clF F kd.length) (clP P kd.length) H1 := by
    refine WI_new hW ?_ z1 o1 (fun j hj => funext fun b => by unfold clF; rw [if_neg hj]) (fun j hj => funext fun b => by unfold clP; rw [if_neg hj])
    rw [cel_ob (ci_of hr)]
    refine ⟨_, hr, t_OB.to (V := fun k => defaultValue (tyOf ci k)) (by rw [ha]; exact u_born (tyOf ci) hts hu hKn hkC e1 hty) (fun j hj => ?_)⟩
    have hj : j < n := hj
    unfold vp_V
    rw [List.getD_eq_getElem?_getD, ob_get hj]
    show defaultValue _ = sval K ci j _ _
    unfold sval clF clP
    rw [if_pos rfl, if_pos rfl, clDef ci _ hr j hj]
    split <;> rfl
  have e := nx ls H1 locs hL hW1 hX
  rw [List.map_cons, show gv K (.inr (some kd.length)) = .ref H.size by show Value.ref (ad K kd.length) = _; rw [ha]] at e
  rw [show (kd ++ [(ci + 2, n)]).length - c0 = kd.length - c0 + 1 by simp; omega, show ksz (kd ++ [(ci + 2, n)]) - s0 = ksz kd - s0 + n by unfold ksz at *; simp at *; omega] at e
  exact e
theorem nx_newa (fx : Fx g K d me) {n : Int} (hd : decode (me_cc me) pc = .ok (.newarray .int, 2)) (harr : Jvm.Cond.arrayClass .int ∈ WL) (h0 : 0 ≤ n) (h1 : n ≤ 100000) (hc0 : c0 ≤ kd.length) (hs0 : s0 ≤ ksz kd) (hrc : kd.length + 1 - c0 ≤ g.2.2.2.1.cells) (hrs : ksz kd + n.toNat - s0 ≤ g.2.2.2.1.slots)
    (nx : NX g K Q c0 s0 (pc + 2) L (.inr (some kd.length) :: S) (kd ++ [(0, n.toNat)]) (clF F kd.length) P) : NX g K Q c0 s0 pc L (.inl n :: S) kd F P := by
  intro ls H locs hL hW hX
  have hts := fx.2.2.2.2.1
  have ha := ad_new hW
  have hb : inb n := by unfold inb; omega
  refine va_newaK (atype := .int) fx.1 fx.2.1 (hts _ harr) rfl hd rfl (n := i32 n) (N := n.toNat) (fun z => by rw [i32_0] at z; have := (i32_lt hb inb_0).mp z; omega) (i32_n hb) (by show n.toNat * 4 ≤ _; omega) (by omega) (by omega) rfl fun H1 cA e1 z1 o1 hAr hNm => ?_
  have hcA : cA = kcI K := by
    have h2 := (fx.2.2.2.2.2.1.2.1.2 0 _ rfl).2
    exact Option.some.inj (hNm.symm.trans h2)
  subst hcA
  have hW1 : WI K (kd ++ [(0, n.toNat)]) (clF F kd.length) P H1 := by
    refine WI_new hW ?_ z1 o1 (fun j hj => funext fun b => by unfold clF; rw [if_neg hj]) (fun j hj => rfl)
    show H1[ad K kd.length]? = some (vp_cell (kcI K) (n.toNat, .inl (fun j => i32 (clF F kd.length kd.length (j : Int)))))
    rw [ha, e1, vp_cell_i]
    congr 2
    funext j
    unfold clF
    rw [if_pos rfl]
    rfl
  have e := nx ls H1 locs hL hW1 hX
  rw [List.map_cons, show gv K (.inr (some kd.length)) = .ref H.size by show Value.ref (ad K kd.length) = _; rw [ha]] at e
  have e8 : List.length (kd ++ [((0 : Nat), n.toNat)]) - c0 = kd.length - c0 + 1 := by simp; omega
  have e9 : ksz (kd ++ [((0 : Nat), n.toNat)]) - s0 = ksz kd - s0 + n.toNat := by unfold ksz at *; simp at *; omega
  rw [e8, e9] at e
  exact e
theorem nx_anew (fx : Fx g K d me) {n : Int} {idx : Nat} (hd : decode (me_cc me) pc = .ok (.anewarray idx, 3)) (hcl : Jvm.Cond.classLink (me_y me).cls idx RX5 ∈ WL) (h0 : 0 ≤ n) (h1 : n ≤ 100000) (hc0 : c0 ≤ kd.length) (hs0 : s0 ≤ ksz kd) (hrc : kd.length + 1 - c0 ≤ g.2.2.2.1.cells) (hrs : ksz kd + n.toNat - s0 ≤ g.2.2.2.1.slots)
    (nx : NX g K Q c0 s0 (pc + 3) L (.inr (some kd.length) :: S) (kd ++ [(1, n.toNat)]) F (clP P kd.length)) : NX g K Q c0 s0 pc L (.inl n :: S) kd F P := by
  intro ls H locs hL hW hX
  have hts := fx.2.2.2.2.1
  have ha := ad_new hW
  have hb : inb n := by unfold inb; omega
  have hbn : (i32 n).toNatClampNeg = n.toNat := i32_n hb
  refine W.anew fx.1 fx.2.1 fx.2.2.2.1 (hts _ hcl) (va_AO.use fx.2.2.2.2.2.1.2.2.2.1) rfl hd (n := i32 n) rfl (fun z => by rw [i32_0] at z; have := (i32_lt hb inb_0).mp z; omega) (by rw [hbn]; omega) (by omega) (by rw [hbn]; omega) fun cA kA comp f1 f2 f3 f4 => ?_
  rw [hbn]
  generalize hH1 : H.push ({ cls := cA, slots := Array.replicate n.toNat .null, vm := .none } : Cell) = H1
  have z1 : H1.size = H.size + 1 := by rw [← hH1, Array.size_push]
  have e1 : H1[H.size]? = some (arrV cA n.toNat (fun _ => .null)) := by rw [← hH1, Array.getElem?_push_size, ← arrV_new]
  have o1 : ∀ q : Nat, q < H.size → H1[q]? = H[q]? := fun q hq => by rw [← hH1, Array.getElem?_push, if_neg (Nat.ne_of_lt hq)]
  have hcA : cA = kcR K := by
    obtain ⟨kA', comp', -, -, -, h4⟩ := (fx.2.2.2.2.2.1.2.1.2 1 _ rfl).2
    exact Option.some.inj (f1.symm.trans h4)
  subst hcA
  have hW1 : WI K (kd ++ [(1, n.toNat)]) F (clP P kd.length) H1 := by
    refine WI_new hW ?_ z1 o1 (fun j hj => rfl) (fun j hj => funext fun b => by unfold clP; rw [if_neg hj])
    show H1[ad K kd.length]? = some (vp_cell (kcR K) (n.toNat, .inr (.inr (.inr (.inr (fun j => (clP P kd.length kd.length (j : Int)).map (ad K)))))))
    rw [ha, e1, vp_cell_q]
    congr 2
    funext j
    unfold clP
    rw [if_pos rfl]
    rfl
  have e := nx ls H1 locs hL hW1 hX
  rw [List.map_cons, show gv K (.inr (some kd.length)) = .ref H.size by show Value.ref (ad K kd.length) = _; rw [ha]] at e
  have e8 : List.length (kd ++ [((1 : Nat), n.toNat)]) - c0 = kd.length - c0 + 1 := by simp; omega
  have e9 : ksz (kd ++ [((1 : Nat), n.toNat)]) - s0 = ksz kd - s0 + n.toNat := by unfold ksz at *; simp at *; omega
  rw [e8, e9] at e
  exact e
theorem nx_gets (fx : Fx g K d me) {idx i : Nat} {nm : String} (hd : decode (me_cc me) pc = .ok (.getstatic idx, 3)) (hw : Jvm.Cond.fieldLinkNest (me_y me).cls idx RNG nm "[I" RNG ∈ NWs) (hZ : va_Z RNG nm "[I" (.ref (kx K i)) (zA K) g.2.2.2.2.1 (kH K)) (hi : i < 3) (nx : NX g K Q c0 s0 (pc + 3) L (.inr (some i) :: S) kd F P) : NX g K Q c0 s0 pc L S kd F P := by
  intro ls H locs hL hW hX
  have hN := fx.2.2.2.2.2.1.2.2.1 _ hw
  have hHz := fx.2.2.2.2.2.1.1
  have e := nx ls H locs hL hW hX
  rw [List.map_cons, show gv K (.inr (some i)) = .ref (kx K i) by show Value.ref (ad K i) = _; unfold ad; rw [if_pos hi]] at e
  obtain ⟨cf, kf', fi, f, a, cell, h1, h2, h3, h4, h5, h6, h7, h8⟩ := hZ
  exact va_WgetsN fx.1 fx.2.1 fx.2.2.2.1 (va_Nw.use rfl hN) h1 h2 h3 h4 (by rw [hW.2.2.1 a (by have := (Array.getElem?_eq_some_iff.mp h5).1; omega)]; exact h5) (fun z => by rw [z] at h6; cases h6) h7 rfl hd e
theorem nx_copy (fx : Fx g K d me) {idx k0 k1 n0 n1 : Nat} {n sp dp : Int} (hml : L.length = me_ml me) (hd : decode (me_cc me) pc = .ok (.invokestatic idx, 3)) (hl : Jvm.Cond.methodLink (me_y me).cls idx arraycopyName ∈ WL) (hna : Jvm.Cond.native arraycopyName ∈ WL) (hst : Jvm.Cond.static arraycopyName ∈ WL) (hini : Jvm.Cond.initialized "java/lang/System" ∈ WL) (h2 : 2 ≤ d) (h3 : 3 ≤ k1) (hk0 : kd[k0]? = some (0, n0)) (hk1 : kd[k1]? = some (0, n1)) (bn : inb n) (bs : inb sp) (bd : inb dp) (p1 : 0 ≤ n) (p2 : 0 ≤ sp) (p3 : 0 ≤ dp) (p4 : sp + n ≤ n0) (p5 : dp + n ≤ n1)
    (nx : NX g K Q c0 s0 (pc + 3) L [] kd (cpF F k0 sp k1 dp n) P) : NX g K Q c0 s0 pc L [.inl n, .inl dp, .inr (some k1), .inl sp, .inr (some k0)] kd F P := by
  intro ls H locs hL hW hX
  have hts := fx.2.2.2.2.1
  obtain ⟨cs, e1, e2, e3, e4, e5, e6⟩ := rowAt fx hW hk0
  have hc1 : H[ad K k1]? = some (vp_cell (kcI K) (n1, .inl (fun j => i32 (F k1 (j : Int))))) := hW.2.2.2.1 k1 _ h3 hk1
  have hr1 := (fx.2.2.2.2.2.1.2.1.2 0 _ rfl).1 n1 (fun j => .int (i32 (F k1 (j : Int))))
  obtain ⟨hob0, c0', hk0', cm0, hkk0⟩ := e2
  obtain ⟨hob1, c1', hk1', cm1, hkk1⟩ := hr1
  have nn : ∀ z : Int, inb z → 0 ≤ z → ¬ i32 z < 0 := fun z hb hz q => by rw [i32_0] at q; have := (i32_lt hb inb_0).mp q; omega
  intro T hT X
  obtain ⟨vm', X', step⟩ := X.arraycopy fx.1 fx.2.2.2.1 (hts _ hl) (hts _ hna) (hts _ hst) (hts _ hini) (src := ad K k0) (dst := ad K k1) (cs := cs) (cd := vp_cell (kcI K) (n1, .inl (fun j => i32 (F k1 (j : Int))))) (srcPos := i32 sp) (destPos := i32 dp) (n := i32 n) (by rw [hT]; exact e1) (by rw [hT]; exact hc1)
    hob0 (fun _ h => by cases h) e3 (fun h => by cases h) hk0' hk1' hkk0 hkk1 (by simp [refKind]) (nn _ bs p2) (nn _ bd p3) (nn _ bn p1)
    (by rw [i32_toInt bs, i32_toInt bn]; omega)
    (by rw [i32_toInt bd, i32_toInt bn]; show ¬ _ > ((arrV _ _ _).slots.size : Int); rw [arrV_size]; omega)
    (fun vm₁ _ i hi => by
      have hi : i < (i32 n).toNatClampNeg := hi
      have e : cs.slots.getD ((i32 sp).toNatClampNeg + i) .null = .int (i32 (F k0 ((sp.toNat + i : Nat) : Int))) := by
        rw [i32_n bs, Array.getD_eq_getD_getElem?, e6 _ (by rw [i32_n bn] at hi; omega)]
        rfl
      refine ⟨?_, ?_⟩
      · rw [e]; rfl
      · rw [e]; exact trivial)
    (g := F0 g.2.2.2.2.2.1 pc ls (.int (i32 n) :: .int (i32 dp) :: .ref (ad K k1) :: .int (i32 sp) :: .ref (ad K k0) :: [])) rfl (by rw [fx.2.2.1]; exact hL.1.trans hml) (rest := []) rfl (by rw [fx.2.1]; exact hd) (by have := fx.2.2.2.2.2.2.2.1; omega) (by
      have h9 := fx.2.2.2.2.2.2.2.2
      have h8 : nativeFrameWords "java/lang/System" "arraycopy" 5 ≤ 60 := by decide +kernel
      show 2 * 0 + 0 + _ ≤ _
      omega)
  have e1' : copied cs (vp_cell (kcI K) (n1, .inl (fun j => i32 (F k1 (j : Int))))) (i32 sp) (i32 dp) (i32 n) = vp_cell (kcI K) (n1, .inl (va_cpy (fun j => i32 (F k0 (j : Int))) (fun j => i32 (F k1 (j : Int))) (i32 sp).toNatClampNeg (i32 dp).toNatClampNeg (i32 n).toNatClampNeg)) := va_copiedX (n1 := n1) (sp := (i32 sp).toNatClampNeg) (dp := (i32 dp).toNatClampNeg) (n := (i32 n).toNatClampNeg) (fun z => .int z) cs (kcI K) (fun j => i32 (F k0 (j : Int))) (fun j => i32 (F k1 (j : Int))) e6 (by rw [i32_n bs, i32_n bn]; omega)
  rw [e1', i32_n bs, i32_n bd, i32_n bn] at X' step
  have hlt : ad K k1 < H.size := (ad_lt hW h3 hk1).2
  generalize hcc : vp_cell (kcI K) (n1, .inl (va_cpy (fun j => i32 (F k0 (j : Int))) (fun j => i32 (F k1 (j : Int))) sp.toNat dp.toNat n.toNat)) = cc' at X' step
  have hheap : ((T.setVm vm').setCell (ad K k1) cc').heap = H.setIfInBounds (ad K k1) cc' := by rw [← hT]; rfl
  have hW1 : WI K kd (cpF F k0 sp k1 dp n) P (H.setIfInBounds (ad K k1) cc') := by
    refine WI_put hW h3 hk1 ?_ (by simp) (fun q hq => by simp [Array.getElem?_setIfInBounds, Ne.symm hq]) (fun j hj => funext fun b => by unfold cpF; rw [if_neg (fun z => hj z.1)]) (fun _ _ => rfl)
    show (H.setIfInBounds (ad K k1) cc')[ad K k1]? = some (vp_cell (kcI K) (n1, .inl (fun j => i32 (cpF F k0 sp k1 dp n k1 (j : Int)))))
    rw [Array.getElem?_setIfInBounds, if_pos rfl, if_pos hlt, ← hcc]
    congr 4
    funext j
    unfold va_cpy cpF
    by_cases hq : dp.toNat ≤ j ∧ j < dp.toNat + n.toNat
    · rw [if_pos hq, if_pos ⟨rfl, by omega, by omega⟩]
      show i32 (F k0 ((sp.toNat + (j - dp.toNat) : Nat) : Int)) = _
      rw [show ((sp.toNat + (j - dp.toNat) : Nat) : Int) = sp + ((j : Int) - dp) by omega]
    · rw [if_neg hq, if_neg (fun z => hq (by have := z.2; omega))]
  obtain ⟨t, a1, b1⟩ := nx ls _ _ hL hW1 (fun q hq => by
    rcases List.mem_append.mp hq with h | h
    · exact hX q h
    · obtain ⟨z, -, hz⟩ := List.mem_map.mp h
      rw [← hz]
      exact (ad_lt hW h3 hk1).1) _ hheap X'
  exact ⟨t, step t a1, b1⟩
end CELLS
end
section
/-! LONG NUMBERS: a row of them, and some instructions at once -/
def l64 (i : Int) : Int64 := Int64.ofInt i
theorem l64_toInt {i : Int} (h0 : -9223372036854775808 ≤ i) (h1 : i < 9223372036854775808) : (l64 i).toInt = i := Int64.toInt_ofInt_of_le (by omega) (by omega)
theorem l64_of32 {r : Int} (h : inb r) : (i32 r).toInt64 = l64 r := by
  unfold inb at h
  rw [← Int64.toInt_inj, Int32.toInt_toInt64, i32_toInt h, l64_toInt (by omega) (by omega)]
theorem l64_to32 (r : Int) : (l64 r).toInt32 = i32 r := Int64.toInt32_ofInt
theorem l64_add (a b : Int) : l64 (a + b) = l64 a + l64 b := Int64.ofInt_add a b
theorem l64_mul (a b : Int) : l64 (a * b) = l64 a * l64 b := Int64.ofInt_mul a b
theorem l64_bits {v : Int} (h0 : 0 ≤ v) (h1 : v < 4294967296) : (l64 v).toBitVec = BitVec.ofNat 64 v.toNat := by
  obtain ⟨n, rfl⟩ : ∃ n : Nat, v = n := ⟨v.toNat, by omega⟩
  rw [Int.toNat_natCast]
  exact BitVec.ofInt_natCast 64 n
theorem l64_and {v : Int} (h0 : 0 ≤ v) (h1 : v < 4294967296) : l64 v &&& 255 = l64 (v % 256) := by
  rw [← Int64.toBitVec_inj, Int64.toBitVec_and, l64_bits h0 h1, l64_bits (by omega) (by omega)]
  apply BitVec.eq_of_toNat_eq
  rw [BitVec.toNat_and, BitVec.toNat_ofNat, BitVec.toNat_ofNat]
  show v.toNat % 2 ^ 64 &&& (255 : Nat) = _
  rw [show (255 : Nat) = 2 ^ 8 - 1 by decide, Nat.and_two_pow_sub_one_eq_mod]
  omega
theorem l64_shr {v : Int} {n : Nat} {y : Int64} (h0 : 0 ≤ v) (h1 : v < 4294967296) (hy : y.toBitVec.smod 64 = BitVec.ofNat 64 n) (hn : n < 64) : l64 v >>> y = l64 (v / ((2 ^ n : Nat) : Int)) := by
  have h3 : (0 : Int) < ((2 ^ n : Nat) : Int) := by exact_mod_cast Nat.two_pow_pos n
  have h4 := Int.ediv_nonneg h0 (Int.le_of_lt h3)
  have h5 : v / ((2 ^ n : Nat) : Int) ≤ v := Int.ediv_le_self _ h0
  rw [← Int64.toInt_inj, l64_toInt (by omega) (by omega)]
  show ((l64 v).toBitVec.sshiftRight' (y.toBitVec.smod 64)).toInt = _
  rw [hy, BitVec.sshiftRight_eq', BitVec.toInt_sshiftRight, BitVec.toNat_ofNat, Nat.mod_eq_of_lt (by omega)]
  show (l64 v).toInt >>> n = _
  rw [l64_toInt (by omega) (by omega), Int.shiftRight_eq_div_pow]
theorem l64_s8 : ((i32 8).toInt64 &&& 63).toBitVec.smod 64 = BitVec.ofNat 64 8 := by decide +kernel
theorem l64_s16 : ((i32 16).toInt64 &&& 63).toBitVec.smod 64 = BitVec.ofNat 64 16 := by decide +kernel
theorem l64_s24 : ((i32 24).toInt64 &&& 63).toBitVec.smod 64 = BitVec.ofNat 64 24 := by decide +kernel
theorem bt_b (v : Int) (sh : Nat) : 0 ≤ bt v sh ∧ bt v sh < 256 := by unfold bt; omega
theorem bt_0 (v : Int) : bt v 0 = v % 256 := by unfold bt; rw [show ((2 ^ 0 : Nat) : Int) = 1 from rfl, Int.ediv_one]
theorem l64_bt {v : Int} {sh : Nat} {y : Int64} (h0 : 0 ≤ v) (h1 : v < 4294967296) (hy : y.toBitVec.smod 64 = BitVec.ofNat 64 sh) (hn : sh < 64) : (l64 v >>> y) &&& 255 = l64 (bt v sh) := by
  have h3 : (0 : Int) < ((2 ^ sh : Nat) : Int) := by exact_mod_cast Nat.two_pow_pos sh
  have h4 := Int.ediv_nonneg h0 (Int.le_of_lt h3)
  have h5 : v / ((2 ^ sh : Nat) : Int) ≤ v := Int.ediv_le_self _ h0
  rw [l64_shr h0 h1 hy hn, l64_and h4 (by omega)]
  rfl
theorem l64_cmp {a b : Int} (a0 : -9223372036854775808 ≤ a) (a1 : a < 9223372036854775808) (b0 : -9223372036854775808 ≤ b) (b1 : b < 9223372036854775808) : lg_cmp (l64 a) (l64 b) = i32 (cmpL a b) := by
  have h1 : (l64 b < l64 a) ↔ b < a := by rw [Int64.lt_iff_toInt_lt, l64_toInt a0 a1, l64_toInt b0 b1]
  have h2 : (l64 a = l64 b) ↔ a = b := by rw [← Int64.toInt_inj, l64_toInt a0 a1, l64_toInt b0 b1]
  unfold lg_cmp cmpL
  by_cases q : b < a
  · rw [if_pos (show l64 a > l64 b from h1.mpr q), if_pos q]
    decide
  · by_cases w : a = b
    · rw [if_neg (show ¬ l64 a > l64 b from fun z => q (h1.mp z)), if_pos (h2.mpr w), if_neg q, if_pos w]
      decide
    · rw [if_neg (show ¬ l64 a > l64 b from fun z => q (h1.mp z)), if_neg (fun z => w (h2.mp z)), if_neg q, if_neg w]
      decide
def dcB (me : ME) (pc : Nat) (ins : Instr) (len : Nat) : Bool := decide (decode (me_cc me) pc = .ok (ins, len))
theorem dcB_of {me : ME} {pc : Nat} {ins : Instr} {len : Nat} (h : dcB me pc ins len = true) : decode (me_cc me) pc = .ok (ins, len) := by
  simp only [dcB, decide_eq_true_eq] at h
  exact h
section LONGS
variable {g : GX} {K : KX} {d : Nat} {me : ME} {Q : State → Prop} {c0 s0 pc : Nat} {L : LV} {S : List AV} {kd : KL} {F : FM} {P : PM}
theorem rowL {H : Heap} (hW : WI K kd F P H) {k n : Nat} (h3 : 3 ≤ k) (hk : kd[k]? = some (30, n)) : H[ad K k]? = some (vp_cell (kcL K) (n, .inr (.inl (fun j => l64 (F k (j : Int)))))) := by
  have h := hW.2.2.2.1 k _ h3 hk
  rw [cel_ln] at h
  exact h
theorem nx_lald {ls : Array Slot} {H : Heap} {locs : List Loc} {cells slots : Nat} {rest : List Value} (fx : Fx g K d me) (hW : WI K kd F P H) {k n : Nat} {i : Int} (hd : decode (me_cc me) pc = .ok (.laload, 1)) (h3 : 3 ≤ k) (hk : kd[k]? = some (30, n)) (hi : inb i) (h0 : 0 ≤ i) (h1 : i < n) (nx : gW g H locs cells slots Q (F0 g.2.2.2.2.2.1 (pc + 1) ls (.long (l64 (F k i)) :: rest))) : gW g H locs cells slots Q (F0 g.2.2.2.2.2.1 pc ls (.int (i32 i) :: .ref (ad K k) :: rest)) := by
  have hr := (fx.2.2.2.2.2.1.2.1.2 2 _ rfl).1 n (fun j => .long (l64 (F k (j : Int))))
  have hin := i32_in hi h0 h1
  unfold vp_in at hin
  refine W.lald fx.1 fx.2.1 (rowL hW h3 hk) hr (fun q => by cases q) (j := i32 i) (v := .long (l64 (F k i))) ?_ ?_ rfl rfl hd nx
  · show ¬ (_ ∨ (arrV _ _ _).slots.size ≤ _)
    rw [arrV_size]
    exact hin
  · show (arrV _ _ _).slots[_]? = _
    rw [i32_n hi, arrV_read _ _ (by omega)]
    show some (Value.long (l64 (F k ((i.toNat : Nat) : Int)))) = _
    rw [Int.toNat_of_nonneg h0]
theorem nx_last {ls : Array Slot} {H : Heap} {locs : List Loc} {cells slots : Nat} {rest : List Value} (fx : Fx g K d me) (hW : WI K kd F P H) (hX : XI K locs) {k n : Nat} {i v : Int} (hd : decode (me_cc me) pc = .ok (.lastore, 1)) (h3 : 3 ≤ k) (hk : kd[k]? = some (30, n)) (hi : inb i) (h0 : 0 ≤ i) (h1 : i < n) (nx : ∀ H' locs', WI K kd (stt F k i v) P H' → XI K locs' → gW g H' locs' cells slots Q (F0 g.2.2.2.2.2.1 (pc + 1) ls rest)) : gW g H locs cells slots Q (F0 g.2.2.2.2.2.1 pc ls (.long (l64 v) :: .int (i32 i) :: .ref (ad K k) :: rest)) := by
  have hr := (fx.2.2.2.2.2.1.2.1.2 2 _ rfl).1 n (fun j => .long (l64 (F k (j : Int))))
  refine W.last fx.1 fx.2.1 (rowL hW h3 hk) hr (fun q => by cases q) (j := i32 i) (x := l64 v) ?_ rfl rfl hd (fun H' f1 f2 f3 => nx H' _ (WI_put hW h3 hk ?_ f2 f3 ?_ (fun _ _ => rfl)) (XI_add hX (ad_lt hW h3 hk).1))
  · have := i32_in hi h0 h1
    unfold vp_in at this
    show ¬ (_ ∨ (arrV _ _ _).slots.size ≤ _)
    rw [arrV_size]
    exact this
  · rw [cel_ln]
    show H'[ad K k]? = some (vp_cell (kcL K) (n, .inr (.inl (fun j => l64 (stt F k i v k (j : Int))))))
    rw [f1]
    rw [vp_cell_l, vp_cell_l, arrV_store]
    congr 2
    funext q
    rw [i32_n hi]
    unfold updV stt
    by_cases hq : q = i.toNat
    · rw [if_pos hq, if_pos ⟨rfl, by omega⟩]
    · rw [if_neg hq, if_neg (fun z => hq (by have := z.2; omega))]
  · intro j hj
    funext q
    unfold stt
    rw [if_neg (fun z => hj z.1)]
theorem nx_newl (fx : Fx g K d me) {n : Int} (hd : decode (me_cc me) pc = .ok (.newarray .long, 2)) (harr : Jvm.Cond.arrayClass .long ∈ WL) (h0 : 0 ≤ n) (h1 : n ≤ 100000) (hc0 : c0 ≤ kd.length) (hs0 : s0 ≤ ksz kd) (hrc : kd.length + 1 - c0 ≤ g.2.2.2.1.cells) (hrs : ksz kd + n.toNat - s0 ≤ g.2.2.2.1.slots)
    (nx : NX g K Q c0 s0 (pc + 2) L (.inr (some kd.length) :: S) (kd ++ [(30, n.toNat)]) (clF F kd.length) P) : NX g K Q c0 s0 pc L (.inl n :: S) kd F P := by
  intro ls H locs hL hW hX
  have hts := fx.2.2.2.2.1
  have ha := ad_new hW
  have hb : inb n := by unfold inb; omega
  refine va_newaK (atype := .long) fx.1 fx.2.1 (hts _ harr) rfl hd rfl (n := i32 n) (N := n.toNat) (fun z => by rw [i32_0] at z; have := (i32_lt hb inb_0).mp z; omega) (i32_n hb) (by show n.toNat * 8 ≤ _; omega) (by omega) (by omega) rfl fun H1 cA e1 z1 o1 hAr hNm => ?_
  have hcA : cA = kcL K := by
    have h2 := (fx.2.2.2.2.2.1.2.1.2 2 _ rfl).2
    exact Option.some.inj (hNm.symm.trans h2)
  subst hcA
  have hW1 : WI K (kd ++ [(30, n.toNat)]) (clF F kd.length) P H1 := by
    refine WI_new hW ?_ z1 o1 (fun j hj => funext fun b => by unfold clF; rw [if_neg hj]) (fun j hj => rfl)
    rw [cel_ln]
    show H1[ad K kd.length]? = some (vp_cell (kcL K) (n.toNat, .inr (.inl (fun j => l64 (clF F kd.length kd.length (j : Int))))))
    rw [ha, e1, vp_cell_l]
    congr 2
    funext j
    unfold clF
    rw [if_pos rfl]
    rfl
  have e := nx ls H1 locs hL hW1 hX
  rw [List.map_cons, show gv K (.inr (some kd.length)) = .ref H.size by show Value.ref (ad K kd.length) = _; rw [ha]] at e
  have e8 : List.length (kd ++ [((30 : Nat), n.toNat)]) - c0 = kd.length - c0 + 1 := by simp; omega
  have e9 : ksz (kd ++ [((30 : Nat), n.toNat)]) - s0 = ksz kd - s0 + n.toNat := by unfold ksz at *; simp at *; omega
  rw [e8, e9] at e
  exact e
/-- laload, ldc2_w 255, land, iload_2, i2l, lcmp -/
theorem nx_lcm1 (fx : Fx g K d me) {q n : Nat} {k r : Int} (hw9 : Jvm.Cond.constantLong RL 9 255 ∈ WL) (hcls : (me_y me).cls = RL) (hd : decode (me_cc me) pc = .ok (.laload, 1)) (hd1 : decode (me_cc me) (pc + 1) = .ok (.ldc2_w 9, 3)) (hd4 : decode (me_cc me) (pc + 4) = .ok (.land, 1)) (hd5 : decode (me_cc me) (pc + 5) = .ok (.iload_n 2, 1)) (hd6 : decode (me_cc me) (pc + 6) = .ok (.i2l, 1)) (hd7 : decode (me_cc me) (pc + 7) = .ok (.lcmp, 1)) (h3 : 3 ≤ q) (hk : kd[q]? = some (30, n)) (hi : inb k) (h0 : 0 ≤ k) (h1 : k < n) (hv : 0 ≤ F q k) (hvb : inb (F q k)) (hl : L[2]? = some (some (.inl r))) (hr : inb r)
    (nx : NX g K Q c0 s0 (pc + 8) L (.inl (cmpL (bt (F q k) 0) r) :: S) kd F P) : NX g K Q c0 s0 pc L (.inl k :: .inr (some q) :: S) kd F P := by
  intro ls H locs hL hW hX
  have e := nx ls H locs hL hW hX
  have hvb' := hvb
  unfold inb at hvb' hr
  have hb := bt_b (F q k) 0
  rw [List.map_cons, show gv K (.inl (cmpL (bt (F q k) 0) r)) = .int (i32 (cmpL (bt (F q k) 0) r)) from rfl, ← l64_cmp (by omega) (by omega) (by omega) (by omega)] at e
  refine nx_lald fx hW hd h3 hk hi h0 h1 ?_
  have hc := fx.2.2.2.2.1 _ hw9
  refine lv_ldc2 fx.1 fx.2.1 (by rw [← hcls]; exact fx.2.2.2.1) hc hd1 ?_
  refine lv_land fx.1 fx.2.1 hd4 ?_
  refine lv_iload_n fx.1 fx.2.1 hd5 rfl (hL.2.2 _ _ hl) ?_
  refine lv_i2l fx.1 fx.2.1 hd6 (l64_of32 (show inb r from hr)) ?_
  refine W.lcmp fx.1 fx.2.1 hd7 ?_
  rw [l64_and hv (by omega), ← bt_0]
  exact e
/-- laload, bipush 8, lshr, ldc2_w 255, land, iload_3, i2l, lcmp -/
theorem nx_lcm2 (fx : Fx g K d me) {q n : Nat} {k r : Int} (hw9 : Jvm.Cond.constantLong RL 9 255 ∈ WL) (hcls : (me_y me).cls = RL) (hd : decode (me_cc me) pc = .ok (.laload, 1)) (hd1 : decode (me_cc me) (pc + 1) = .ok (.bipush 8, 2)) (hd3 : decode (me_cc me) (pc + 3) = .ok (.lshr, 1)) (hd4 : decode (me_cc me) (pc + 4) = .ok (.ldc2_w 9, 3)) (hd7 : decode (me_cc me) (pc + 7) = .ok (.land, 1)) (hd8 : decode (me_cc me) (pc + 8) = .ok (.iload_n 3, 1)) (hd9 : decode (me_cc me) (pc + 9) = .ok (.i2l, 1)) (hd10 : decode (me_cc me) (pc + 10) = .ok (.lcmp, 1)) (h3 : 3 ≤ q) (hk : kd[q]? = some (30, n)) (hi : inb k) (h0 : 0 ≤ k) (h1 : k < n) (hv : 0 ≤ F q k) (hvb : inb (F q k)) (hl : L[3]? = some (some (.inl r))) (hr : inb r)
    (nx : NX g K Q c0 s0 (pc + 11) L (.inl (cmpL (bt (F q k) 8) r) :: S) kd F P) : NX g K Q c0 s0 pc L (.inl k :: .inr (some q) :: S) kd F P := by
  intro ls H locs hL hW hX
  have e := nx ls H locs hL hW hX
  have hvb' := hvb
  unfold inb at hvb' hr
  have hb := bt_b (F q k) 8
  rw [List.map_cons, show gv K (.inl (cmpL (bt (F q k) 8) r)) = .int (i32 (cmpL (bt (F q k) 8) r)) from rfl, ← l64_cmp (by omega) (by omega) (by omega) (by omega)] at e
  refine nx_lald fx hW hd h3 hk hi h0 h1 ?_
  refine lv_bipush fx.1 fx.2.1 hd1 (i32_8 (by omega) (by omega)) ?_
  refine lv_lshr fx.1 fx.2.1 hd3 rfl ?_
  have hc := fx.2.2.2.2.1 _ hw9
  refine lv_ldc2 fx.1 fx.2.1 (by rw [← hcls]; exact fx.2.2.2.1) hc hd4 ?_
  refine lv_land fx.1 fx.2.1 hd7 ?_
  refine lv_iload_n fx.1 fx.2.1 hd8 rfl (hL.2.2 _ _ hl) ?_
  refine lv_i2l fx.1 fx.2.1 hd9 (l64_of32 (show inb r from hr)) ?_
  refine W.lcmp fx.1 fx.2.1 hd10 ?_
  rw [l64_bt hv (by omega) l64_s8 (by omega)]
  exact e
/-- laload, bipush 16, lshr, ldc2_w 255, land, l2i -/
theorem nx_lbt (fx : Fx g K d me) {q n : Nat} {k : Int} (hw9 : Jvm.Cond.constantLong RL 9 255 ∈ WL) (hcls : (me_y me).cls = RL) (hd : decode (me_cc me) pc = .ok (.laload, 1)) (hd1 : decode (me_cc me) (pc + 1) = .ok (.bipush 16, 2)) (hd3 : decode (me_cc me) (pc + 3) = .ok (.lshr, 1)) (hd4 : decode (me_cc me) (pc + 4) = .ok (.ldc2_w 9, 3)) (hd7 : decode (me_cc me) (pc + 7) = .ok (.land, 1)) (hd8 : decode (me_cc me) (pc + 8) = .ok (.l2i, 1)) (h3 : 3 ≤ q) (hk : kd[q]? = some (30, n)) (hi : inb k) (h0 : 0 ≤ k) (h1 : k < n) (hv : 0 ≤ F q k) (hvb : inb (F q k))
    (nx : NX g K Q c0 s0 (pc + 9) L (.inl (bt (F q k) 16) :: S) kd F P) : NX g K Q c0 s0 pc L (.inl k :: .inr (some q) :: S) kd F P := by
  intro ls H locs hL hW hX
  have e := nx ls H locs hL hW hX
  have hvb' := hvb
  unfold inb at hvb'
  rw [List.map_cons, show gv K (.inl (bt (F q k) 16)) = .int (i32 (bt (F q k) 16)) from rfl] at e
  refine nx_lald fx hW hd h3 hk hi h0 h1 ?_
  refine lv_bipush fx.1 fx.2.1 hd1 (i32_8 (by omega) (by omega)) ?_
  refine lv_lshr fx.1 fx.2.1 hd3 rfl ?_
  have hc := fx.2.2.2.2.1 _ hw9
  refine lv_ldc2 fx.1 fx.2.1 (by rw [← hcls]; exact fx.2.2.2.1) hc hd4 ?_
  refine lv_land fx.1 fx.2.1 hd7 ?_
  refine lv_l2i fx.1 fx.2.1 hd8 (v := i32 (bt (F q k) 16)) ?_ e
  rw [l64_bt hv (by omega) l64_s16 (by omega)]
  exact l64_to32 _
/-- i2l, aload 4, iload 7, laload, ldc2_w 255, land, lcmp -/
theorem nx_lcr4 (fx : Fx g K d me) {q n : Nat} {k r : Int} (hw9 : Jvm.Cond.constantLong RL 9 255 ∈ WL) (hcls : (me_y me).cls = RL) (hd : decode (me_cc me) pc = .ok (.i2l, 1)) (hd1 : decode (me_cc me) (pc + 1) = .ok (.aload 4, 2)) (hd3 : decode (me_cc me) (pc + 3) = .ok (.iload 7, 2)) (hd5 : decode (me_cc me) (pc + 5) = .ok (.laload, 1)) (hd6 : decode (me_cc me) (pc + 6) = .ok (.ldc2_w 9, 3)) (hd9 : decode (me_cc me) (pc + 9) = .ok (.land, 1)) (hd10 : decode (me_cc me) (pc + 10) = .ok (.lcmp, 1)) (h3 : 3 ≤ q) (hk : kd[q]? = some (30, n)) (hi : inb k) (h0 : 0 ≤ k) (h1 : k < n) (hv : 0 ≤ F q k) (hvb : inb (F q k)) (hlq : L[4]? = some (some (.inr (some q)))) (hlk : L[7]? = some (some (.inl k))) (hr : inb r)
    (nx : NX g K Q c0 s0 (pc + 11) L (.inl (cmpL r (bt (F q k) 0)) :: S) kd F P) : NX g K Q c0 s0 pc L (.inl r :: S) kd F P := by
  intro ls H locs hL hW hX
  have e := nx ls H locs hL hW hX
  have hvb' := hvb
  unfold inb at hvb' hr
  have hb := bt_b (F q k) 0
  rw [List.map_cons, show gv K (.inl (cmpL r (bt (F q k) 0))) = .int (i32 (cmpL r (bt (F q k) 0))) from rfl, ← l64_cmp (by omega) (by omega) (by omega) (by omega)] at e
  refine lv_i2l fx.1 fx.2.1 hd (l64_of32 (show inb r from hr)) ?_
  refine lv_aload fx.1 fx.2.1 hd1 (hL.2.2 _ _ hlq) ?_
  refine lv_iload fx.1 fx.2.1 hd3 (hL.2.2 _ _ hlk) ?_
  refine nx_lald fx hW hd5 h3 hk hi h0 h1 ?_
  have hc := fx.2.2.2.2.1 _ hw9
  refine lv_ldc2 fx.1 fx.2.1 (by rw [← hcls]; exact fx.2.2.2.1) hc hd6 ?_
  refine lv_land fx.1 fx.2.1 hd9 ?_
  refine W.lcmp fx.1 fx.2.1 hd10 ?_
  rw [l64_and hv (by omega), ← bt_0]
  exact e
/-- i2l, aload 4, iload 7, laload, bipush sh, lshr, ldc2_w 255, land, lcmp -/
theorem nx_lcr5 (fx : Fx g K d me) {q n sh : Nat} {k r : Int} (hw9 : Jvm.Cond.constantLong RL 9 255 ∈ WL) (hcls : (me_y me).cls = RL) (hsh : sh = 8 ∨ sh = 16 ∨ sh = 24) (hd : decode (me_cc me) pc = .ok (.i2l, 1)) (hd1 : decode (me_cc me) (pc + 1) = .ok (.aload 4, 2)) (hd3 : decode (me_cc me) (pc + 3) = .ok (.iload 7, 2)) (hd5 : decode (me_cc me) (pc + 5) = .ok (.laload, 1)) (hd6 : decode (me_cc me) (pc + 6) = .ok (.bipush (sh : Int), 2)) (hd8 : decode (me_cc me) (pc + 8) = .ok (.lshr, 1)) (hd9 : decode (me_cc me) (pc + 9) = .ok (.ldc2_w 9, 3)) (hd12 : decode (me_cc me) (pc + 12) = .ok (.land, 1)) (hd13 : decode (me_cc me) (pc + 13) = .ok (.lcmp, 1)) (h3 : 3 ≤ q) (hk : kd[q]? = some (30, n)) (hi : inb k) (h0 : 0 ≤ k) (h1 : k < n) (hv : 0 ≤ F q k) (hvb : inb (F q k)) (hlq : L[4]? = some (some (.inr (some q)))) (hlk : L[7]? = some (some (.inl k))) (hr : inb r)
    (nx : NX g K Q c0 s0 (pc + 14) L (.inl (cmpL r (bt (F q k) sh)) :: S) kd F P) : NX g K Q c0 s0 pc L (.inl r :: S) kd F P := by
  intro ls H locs hL hW hX
  have e := nx ls H locs hL hW hX
  have hvb' := hvb
  unfold inb at hvb' hr
  have hb := bt_b (F q k) sh
  rw [List.map_cons, show gv K (.inl (cmpL r (bt (F q k) sh))) = .int (i32 (cmpL r (bt (F q k) sh))) from rfl, ← l64_cmp (by omega) (by omega) (by omega) (by omega)] at e
  refine lv_i2l fx.1 fx.2.1 hd (l64_of32 (show inb r from hr)) ?_
  refine lv_aload fx.1 fx.2.1 hd1 (hL.2.2 _ _ hlq) ?_
  refine lv_iload fx.1 fx.2.1 hd3 (hL.2.2 _ _ hlk) ?_
  refine nx_lald fx hW hd5 h3 hk hi h0 h1 ?_
  refine lv_bipush fx.1 fx.2.1 hd6 (i32_8 (by omega) (by omega)) ?_
  refine lv_lshr fx.1 fx.2.1 hd8 rfl ?_
  have hc := fx.2.2.2.2.1 _ hw9
  refine lv_ldc2 fx.1 fx.2.1 (by rw [← hcls]; exact fx.2.2.2.1) hc hd9 ?_
  refine lv_land fx.1 fx.2.1 hd12 ?_
  refine W.lcmp fx.1 fx.2.1 hd13 ?_
  rw [l64_bt (sh := sh) hv (by omega) (by rcases hsh with z | z | z <;> subst z; exact l64_s8; exact l64_s16; exact l64_s24) (by omega)]
  exact e
/-- i2l, ldc2_w 256, iload_3, i2l, lmul, ladd, lastore -/
theorem nx_lst (fx : Fx g K d me) {q n : Nat} {k p b : Int} (hw11 : Jvm.Cond.constantLong RL 11 256 ∈ WL) (hcls : (me_y me).cls = RL) (hd : decode (me_cc me) pc = .ok (.i2l, 1)) (hd1 : decode (me_cc me) (pc + 1) = .ok (.ldc2_w 11, 3)) (hd4 : decode (me_cc me) (pc + 4) = .ok (.iload_n 3, 1)) (hd5 : decode (me_cc me) (pc + 5) = .ok (.i2l, 1)) (hd6 : decode (me_cc me) (pc + 6) = .ok (.lmul, 1)) (hd7 : decode (me_cc me) (pc + 7) = .ok (.ladd, 1)) (hd8 : decode (me_cc me) (pc + 8) = .ok (.lastore, 1)) (h3 : 3 ≤ q) (hk : kd[q]? = some (30, n)) (hi : inb k) (h0 : 0 ≤ k) (h1 : k < n) (hp : inb p) (hlb : L[3]? = some (some (.inl b))) (hb : inb b)
    (nx : NX g K Q c0 s0 (pc + 9) L S kd (stt F q k (p + 256 * b)) P) : NX g K Q c0 s0 pc L (.inl p :: .inl k :: .inr (some q) :: S) kd F P := by
  intro ls H locs hL hW hX
  refine lv_i2l fx.1 fx.2.1 hd (l64_of32 hp) ?_
  have hc := fx.2.2.2.2.1 _ hw11
  refine lv_ldc2 fx.1 fx.2.1 (by rw [← hcls]; exact fx.2.2.2.1) hc hd1 ?_
  refine lv_iload_n fx.1 fx.2.1 hd4 rfl (hL.2.2 _ _ hlb) ?_
  refine lv_i2l fx.1 fx.2.1 hd5 (l64_of32 hb) ?_
  refine lv_lmul fx.1 fx.2.1 hd6 ?_
  refine lv_ladd fx.1 fx.2.1 hd7 ?_
  rw [show (256 : Int64) = l64 256 by decide, ← l64_mul, ← l64_add]
  exact nx_last fx hW hX hd8 h3 hk hi h0 h1 (fun H' locs' hW' hX' => nx ls H' locs' hL hW' hX')
/-- dup2, laload, ldc2_w 65536, iload 4, ifeq, ldc2_w 16777216, goto, lconst_0, ladd, ladd, lastore -/
theorem nx_ladd (fx : Fx g K d me) {q n : Nat} {k w : Int} (hw13 : Jvm.Cond.constantLong RL 13 65536 ∈ WL) (hw15 : Jvm.Cond.constantLong RL 15 16777216 ∈ WL) (hcls : (me_y me).cls = RL) (hd : decode (me_cc me) pc = .ok (.dup2, 1)) (hd1 : decode (me_cc me) (pc + 1) = .ok (.laload, 1)) (hd2 : decode (me_cc me) (pc + 2) = .ok (.ldc2_w 13, 3)) (hd5 : decode (me_cc me) (pc + 5) = .ok (.iload 4, 2)) (hd7 : decode (me_cc me) (pc + 7) = .ok (.ifCond .eq 9, 3)) (hd10 : decode (me_cc me) (pc + 10) = .ok (.ldc2_w 15, 3)) (hd13 : decode (me_cc me) (pc + 13) = .ok (.goto 4, 3)) (hd16 : decode (me_cc me) (pc + 16) = .ok (.lconst 0, 1)) (hd17 : decode (me_cc me) (pc + 17) = .ok (.ladd, 1)) (hd18 : decode (me_cc me) (pc + 18) = .ok (.ladd, 1)) (hd19 : decode (me_cc me) (pc + 19) = .ok (.lastore, 1)) (h3 : 3 ≤ q) (hk : kd[q]? = some (30, n)) (hi : inb k) (h0 : 0 ≤ k) (h1 : k < n) (hlw : L[4]? = some (some (.inl w))) (hw : inb w)
    (nx : NX g K Q c0 s0 (pc + 20) L S kd (stt F q k (F q k + (65536 + if w = 0 then 0 else 16777216))) P) : NX g K Q c0 s0 pc L (.inl k :: .inr (some q) :: S) kd F P := by
  intro ls H locs hL hW hX
  refine lv_dup2_11 fx.1 fx.2.1 hd (gv_cat K (.inl k)) (gv_cat K (.inr (some q))) ?_
  refine nx_lald fx hW hd1 h3 hk hi h0 h1 ?_
  have hc := fx.2.2.2.2.1 _ hw13
  have hc5 := fx.2.2.2.2.1 _ hw15
  refine lv_ldc2 fx.1 fx.2.1 (by rw [← hcls]; exact fx.2.2.2.1) hc hd2 ?_
  refine lv_iload fx.1 fx.2.1 hd5 (hL.2.2 _ _ hlw) ?_
  have fin : ∀ z : Int, z = (if w = 0 then 0 else 16777216) → gW g H locs (kd.length - c0) (ksz kd - s0) Q (F0 g.2.2.2.2.2.1 (pc + 17) ls (.long (l64 z) :: .long 65536 :: .long (l64 (F q k)) :: .int (i32 k) :: .ref (ad K q) :: S.map (gv K))) := fun z hz => by
    refine lv_ladd fx.1 fx.2.1 hd17 ?_
    refine lv_ladd fx.1 fx.2.1 hd18 ?_
    rw [show (65536 : Int64) = l64 65536 by decide, ← l64_add, ← l64_add, hz]
    exact nx_last fx hW hX hd19 h3 hk hi h0 h1 (fun H' locs' hW' hX' => nx ls H' locs' hL hW' hX')
  refine lv_if_eq fx.1 fx.2.1 hd7 (show ((pc + 7 : Nat) : Int) + 9 = ((pc + 16 : Nat) : Int) by omega) (fun z => ?_) (fun z => ?_)
  · have hz : w = 0 := (i32_eq hw inb_0).mp (z.trans i32_0)
    exact lv_lconst fx.1 fx.2.1 hd16 (v := l64 0) (by decide) (fin 0 (by rw [if_pos hz]))
  · have hz : w ≠ 0 := fun y => z (((i32_eq hw inb_0).mpr y).trans i32_0.symm)
    refine lv_ldc2 fx.1 fx.2.1 (by rw [← hcls]; exact fx.2.2.2.1) hc5 hd10 ?_
    refine lv_goto fx.1 fx.2.1 hd13 (show ((pc + 13 : Nat) : Int) + 4 = ((pc + 17 : Nat) : Int) by omega) ?_
    rw [show (16777216 : Int64) = l64 16777216 by decide]
    exact fin _ (by rw [if_neg hz])
end LONGS
end
section
def wAt (p : Nat) (w : Jvm.Cond) : Bool := decide (lw_tbl[p]? = some w) && goodWord w
def nAt (p : Nat) (w : Jvm.Cond) : Bool := decide (NWs[p]? = some w)
theorem wAt_in {p : Nat} {w : Jvm.Cond} (h : wAt p w = true) : w ∈ WL := by
  simp only [wAt, Bool.and_eq_true, decide_eq_true_eq] at h
  exact WL_of h.1 h.2
theorem nAt_in {p : Nat} {w : Jvm.Cond} (h : nAt p w = true) : w ∈ NWs := by
  simp only [nAt, decide_eq_true_eq] at h
  exact List.mem_of_getElem? h
def okG (me : ME) (idx : Nat) (ri : RI) (put : Bool) : Bool := match vwCl[ri.1]? with
  | some r => decide (ri.2.1 < r.2.2) && wAt ri.2.2.1 (.fieldLink (me_y me).cls idx (r.2.1 ri.2.1).1 (r.2.1 ri.2.1).2.1 (r.2.1 ri.2.1).2.2.1) && (!put || !(r.2.1 ri.2.1).2.2.2 || (decide ((me_y me).name = "<init>") && decide ((r.2.1 ri.2.1).1 = (me_y me).cls)))
  | none => false
def okC (pg : Nat → Option ME) (me : ME) (kd idx : Nat) (ri : RI) : Bool := match pg ri.1 with
  | some ce => decide (me_kd ce = kd) && (if ri.2.1 = 0 then wAt ri.2.2.1 (.methodLink (me_y me).cls idx (me_y ce)) else decide (ri.2.1 = 1) && decide (kd ≠ 0) && nAt ri.2.2.1 (.methodLinkNest (me_y me).cls idx (me_y ce) RNG))
  | none => false
def okJ (pg : Nat → Option ME) (me : ME) (ins : Instr) (len : Nat) (ri : RI) : Bool := match ins with
  | .iconst n => decide (len = 1) && inbB n
  | .bipush n => decide (len = 2) && (decide (-128 ≤ n) && decide (n < 128))
  | .sipush n => decide (len = 3) && (decide (-32768 ≤ n) && decide (n < 32768))
  | .ldc idx => decide (len = 2) && (inbB ri.2.2.2 && wAt ri.1 (.constant (me_y me).cls idx (i32 ri.2.2.2)))
  | .iload _ => decide (len = 2)
  | .aload _ => decide (len = 2)
  | .istore _ => decide (len = 2)
  | .astore _ => decide (len = 2)
  | .iload_n _ => decide (len = 1)
  | .aload_n _ => decide (len = 1)
  | .istore_n _ => decide (len = 1)
  | .astore_n _ => decide (len = 1)
  | .iinc _ _ => decide (len = 3)
  | .iadd => decide (len = 1)
  | .isub => decide (len = 1)
  | .imul => decide (len = 1)
  | .iand => decide (len = 1)
  | .idiv => decide (len = 1)
  | .irem => decide (len = 1)
  | .ineg => decide (len = 1)
  | .dup => decide (len = 1)
  | .dup2 => decide (len = 1)
  | .laload => decide (len = 1)
  | .i2l => decide (len = 1)
  | .ishr => decide (len = 1)
  | .ixor => decide (len = 1)
  | .pop => decide (len = 1)
  | .iaload => decide (len = 1)
  | .aaload => decide (len = 1)
  | .iastore => decide (len = 1)
  | .aastore => decide (len = 1)
  | .arraylength => decide (len = 1)
  | .ireturn => decide (len = 1)
  | .areturn => decide (len = 1)
  | .return_ => decide (len = 1)
  | .goto _ => decide (len = 3)
  | .if_icmp _ _ => decide (len = 3)
  | .ifCond _ _ => decide (len = 3)
  | .getfield idx => decide (len = 3) && okG me idx ri false
  | .putfield idx => decide (len = 3) && okG me idx ri true
  | .new idx => decide (len = 3) && (match vwCl[ri.1]? with
    | some r => decide (ri.2.1 = r.2.2) && wAt ri.2.2.1 (.classLink (me_y me).cls idx r.1)
    | none => false)
  | .newarray _ => decide (len = 2)
  | .anewarray idx => decide (len = 3) && wAt ri.1 (.classLink (me_y me).cls idx RX5)
  | .getstatic idx => decide (len = 3) && (decide (ri.1 = 1) && nAt ri.2.1 (.fieldLinkNest (me_y me).cls idx RNG "FIRST_SETTINGS" "[I" RNG) || decide (ri.1 = 2) && nAt ri.2.1 (.fieldLinkNest (me_y me).cls idx RNG "GREATEST_SETTINGS" "[I" RNG))
  | .tableswitch _ _ _ _ => true
  | .lookupswitch _ _ => true
  | .invokevirtual idx => decide (len = 3) && (decide (ri.2.1 = 0) && okC pg me 0 idx ri)
  | .invokestatic idx => decide (len = 3) && (if ri.2.1 = 2 then wAt ri.1 (.methodLink (me_y me).cls idx arraycopyName) else if ri.2.1 = 4 then wAt ri.1 (.methodLink (me_y me).cls idx Lib.Math.min.name) else okC pg me 1 idx ri)
  | .invokespecial idx => decide (len = 3) && (if ri.2.1 = 5 then wAt ri.1 (.methodLink (me_y me).cls idx objectInit) else okC pg me 2 idx ri)
  | _ => false
/-- what stands behind an instruction that is taken together with others -/
def okM (me : ME) (pc : Nat) (ins : Instr) (ri : RI) : Bool := match ins with
  | .laload => if ri.1 = 1 then decide ((me_y me).cls = RL) && (dcB me (pc + 1) (.ldc2_w 9) 3 && (dcB me (pc + 4) .land 1 && (dcB me (pc + 5) (.iload_n 2) 1 && (dcB me (pc + 6) .i2l 1 && dcB me (pc + 7) .lcmp 1))))
    else if ri.1 = 2 then decide ((me_y me).cls = RL) && (dcB me (pc + 1) (.bipush 8) 2 && (dcB me (pc + 3) .lshr 1 && (dcB me (pc + 4) (.ldc2_w 9) 3 && (dcB me (pc + 7) .land 1 && (dcB me (pc + 8) (.iload_n 3) 1 && (dcB me (pc + 9) .i2l 1 && dcB me (pc + 10) .lcmp 1))))))
    else decide ((me_y me).cls = RL) && (dcB me (pc + 1) (.bipush 16) 2 && (dcB me (pc + 3) .lshr 1 && (dcB me (pc + 4) (.ldc2_w 9) 3 && (dcB me (pc + 7) .land 1 && dcB me (pc + 8) .l2i 1))))
  | .i2l => if ri.1 = 4 then decide ((me_y me).cls = RL) && (dcB me (pc + 1) (.aload 4) 2 && (dcB me (pc + 3) (.iload 7) 2 && (dcB me (pc + 5) .laload 1 && (dcB me (pc + 6) (.ldc2_w 9) 3 && (dcB me (pc + 9) .land 1 && dcB me (pc + 10) .lcmp 1)))))
    else if ri.1 = 5 then (decide ((me_y me).cls = RL) && (decide (ri.2.1 = 8) || (decide (ri.2.1 = 16) || decide (ri.2.1 = 24)))) && (dcB me (pc + 1) (.aload 4) 2 && (dcB me (pc + 3) (.iload 7) 2 && (dcB me (pc + 5) .laload 1 && (dcB me (pc + 6) (.bipush (ri.2.1 : Int)) 2 && (dcB me (pc + 8) .lshr 1 && (dcB me (pc + 9) (.ldc2_w 9) 3 && (dcB me (pc + 12) .land 1 && dcB me (pc + 13) .lcmp 1)))))))
    else decide ((me_y me).cls = RL) && (dcB me (pc + 1) (.ldc2_w 11) 3 && (dcB me (pc + 4) (.iload_n 3) 1 && (dcB me (pc + 5) .i2l 1 && (dcB me (pc + 6) .lmul 1 && (dcB me (pc + 7) .ladd 1 && dcB me (pc + 8) .lastore 1)))))
  | .dup2 => !decide (ri.1 = 7) || (decide ((me_y me).cls = RL) && (dcB me (pc + 1) .laload 1 && (dcB me (pc + 2) (.ldc2_w 13) 3 && (dcB me (pc + 5) (.iload 4) 2 && (dcB me (pc + 7) (.ifCond .eq 9) 3 && (dcB me (pc + 10) (.ldc2_w 15) 3 && (dcB me (pc + 13) (.goto 4) 3 && (dcB me (pc + 16) (.lconst 0) 1 && (dcB me (pc + 17) .ladd 1 && (dcB me (pc + 18) .ladd 1 && dcB me (pc + 19) .lastore 1))))))))))
  | _ => true
def okI (pg : Nat → Option ME) (me : ME) (e : CI) : Bool := (decide (decode (me_cc me) e.1 = .ok (e.2.1, e.2.2.1)) && okJ pg me e.2.1 e.2.2.1 e.2.2.2) && okM me e.1 e.2.1 e.2.2.2
def GWs : Prop := (∀ (c : Nat) (r : vw_C), vwCl[c]? = some r → (∀ w ∈ u_ws r.1 r.2.1 r.2.2, w ∈ WL) ∧ Jvm.Cond.instantiable r.1 r.2.2 ∈ WL ∧ Jvm.Cond.initialized r.1 ∈ WL) ∧
  (Jvm.Cond.initialized "java/lang/Math" ∈ WL ∧ Jvm.Cond.static Lib.Math.min.name ∈ WL ∧ Jvm.Cond.code Lib.Math.min.name Lib.Math.min.code 2 (some .int) ∈ WL) ∧
  (Jvm.Cond.native arraycopyName ∈ WL ∧ Jvm.Cond.static arraycopyName ∈ WL ∧ Jvm.Cond.initialized "java/lang/System" ∈ WL) ∧
  (Jvm.Cond.instanceMethod objectInit ∈ WL ∧ Jvm.Cond.code objectInit ⟨#[0xb1]⟩ 1 none ∈ WL) ∧ Jvm.Cond.arrayClass .int ∈ WL ∧ (Jvm.Cond.arrayClass .long ∈ WL ∧ Jvm.Cond.constantLong RL 9 255 ∈ WL ∧ Jvm.Cond.constantLong RL 11 256 ∈ WL ∧ Jvm.Cond.constantLong RL 13 65536 ∈ WL ∧ Jvm.Cond.constantLong RL 15 16777216 ∈ WL)
def AK (me : ME) (L : LV) (S : List AV) (F : FM) : Prop := L.length = me_ml me ∧ (∀ v ∈ S, okv v) ∧ (∀ (i : Nat) (v : AV), L[i]? = some (some v) → okv v) ∧ ∀ k j, inb (F k j)
theorem AK_push {me : ME} {L : LV} {S : List AV} {F : FM} {v : AV} (h : AK me L S F) (hv : okv v) : AK me L (v :: S) F := ⟨h.1, List.forall_mem_cons.mpr ⟨hv, h.2.1⟩, h.2.2⟩
theorem AK_pop {me : ME} {L : LV} {S : List AV} {F : FM} {v : AV} (h : AK me L (v :: S) F) : AK me L S F ∧ okv v := ⟨⟨h.1, (List.forall_mem_cons.mp h.2.1).2, h.2.2⟩, (List.forall_mem_cons.mp h.2.1).1⟩
theorem AK_set {me : ME} {L : LV} {S : List AV} {F : FM} {v : AV} {i : Nat} (h : AK me L S F) (hv : okv v) : AK me (L.set i (some v)) S F := by
  refine ⟨by rw [List.length_set]; exact h.1, h.2.1, fun j w hj => ?_, h.2.2.2⟩
  rw [List.getElem?_set] at hj
  split at hj
  · split at hj
    · cases hj; exact hv
    · cases hj
  · exact h.2.2.1 j w hj
theorem AK_F {me : ME} {L : LV} {S : List AV} {F F' : FM} (h : AK me L S F) (hF : ∀ k j, inb (F' k j)) : AK me L S F' := ⟨h.1, h.2.1, h.2.2.1, hF⟩
theorem inb_stt {F : FM} {k : Nat} {j v : Int} (h : ∀ k j, inb (F k j)) (hv : inb v) : ∀ a b, inb (stt F k j v a b) := by
  intro a b
  unfold stt
  split
  · exact hv
  · exact h a b
theorem inb_clF {F : FM} {k : Nat} (h : ∀ k j, inb (F k j)) : ∀ a b, inb (clF F k a b) := by
  intro a b
  unfold clF
  split
  · exact inb_0
  · exact h a b
theorem inb_cpF {F : FM} {s t : Nat} {sp dp n : Int} (h : ∀ k j, inb (F k j)) : ∀ a b, inb (cpF F s sp t dp n a b) := by
  intro a b
  unfold cpF
  split
  · exact h _ _
  · exact h a b
theorem ptr_fit {t : FieldType} (h : defaultValue t = .null) (r : Option Nat) : narrow t (va_rf r) = va_rf r ∧ fits t (va_rf r) = true := by
  cases t <;> first | (simp [defaultValue] at h; done) | (cases r <;> exact ⟨rfl, rfl⟩)
end
section
/-! the instructions that are taken together: sound -/
def STC (d : Nat) (me : ME) (c0 s0 pc : Nat) (L : LV) (S : List AV) (kd : KL) (F : FM) (P : PM) (st : AS) : Prop :=
  (AK me st.2.1 st.2.2.1 st.2.2.2.2.1 ∧ kd.length ≤ st.2.2.2.1.length ∧ ksz kd ≤ ksz st.2.2.2.1) ∧ ∀ (g : GX) (K : KX) (Q : State → Prop), Fx g K d me → c0 ≤ kd.length → s0 ≤ ksz kd → st.2.2.2.1.length - c0 ≤ g.2.2.2.1.cells ∧ ksz st.2.2.2.1 - s0 ≤ g.2.2.2.1.slots → NX g K Q c0 s0 st.1 st.2.1 st.2.2.1 st.2.2.2.1 st.2.2.2.2.1 st.2.2.2.2.2 → NX g K Q c0 s0 pc L S kd F P
theorem inb_cmpL (a b : Int) : inb (cmpL a b) := by unfold cmpL inb; split <;> (try split) <;> omega
theorem inb_bt (v : Int) (sh : Nat) : inb (bt v sh) := by have := bt_b v sh; unfold inb; omega
section STL
variable {d : Nat} {me : ME} {pc len : Nat} {ri : RI} {L : LV} {S : List AV} {kd : KL} {F : FM} {P : PM} {c0 s0 : Nat} {st : AS}
theorem st_lcm1 (gw : GWs) (hd : decode (me_cc me) pc = .ok (.laload, 1)) (h1 : ri.1 = 1) (om : okM me pc .laload ri = true) (hs : s_lcm pc 8 0 (ldI L 2) L S kd F P = some st) (ak : AK me L S F) : STC d me c0 s0 pc L S kd F P st := by
  simp only [okM, h1, Bool.and_eq_true, Bool.or_eq_true, Bool.not_eq_true', decide_eq_true_eq, decide_true, decide_false, Bool.not_true, Bool.false_or, Bool.false_eq_true, false_or, ite_true, ite_false] at om
  obtain ⟨o0, ⟨o1, ⟨o2, ⟨o3, ⟨o4, o5⟩⟩⟩⟩⟩ := om
  unfold s_lcm at hs
  split at hs
  · next k q S1 =>
    split at hs
    · next n hk =>
      split at hs
      · next hb =>
        obtain ⟨b1, b2, b3, b4⟩ := hb
        obtain ⟨a1, a2⟩ := AK_pop ak
        split at hs
        · next r hr =>
          cases hs
          obtain ⟨x, hx, hx2⟩ := ldI_spec hr
          cases hx
          exact ⟨⟨AK_push (AK_pop a1).1 (inb_cmpL _ _), Nat.le_refl _, Nat.le_refl _⟩, fun g K Q fx _ _ _ nx => nx_lcm1 fx gw.2.2.2.2.2.2.1 o0 hd (dcB_of o1) (dcB_of o2) (dcB_of o3) (dcB_of o4) (dcB_of o5) b1 hk a2 b2 b3 b4 (ak.2.2.2 _ _) hx2 (ak.2.2.1 _ _ hx2) nx⟩
        · cases hs
      · cases hs
    · cases hs
  · cases hs
theorem st_lcm2 (gw : GWs) (hd : decode (me_cc me) pc = .ok (.laload, 1)) (h1 : ri.1 = 2) (om : okM me pc .laload ri = true) (hs : s_lcm pc 11 8 (ldI L 3) L S kd F P = some st) (ak : AK me L S F) : STC d me c0 s0 pc L S kd F P st := by
  simp only [okM, h1, show ¬ ((2 : Nat) = 1) by decide, Bool.and_eq_true, Bool.or_eq_true, Bool.not_eq_true', decide_eq_true_eq, decide_true, decide_false, Bool.not_true, Bool.false_or, Bool.false_eq_true, false_or, ite_true, ite_false] at om
  obtain ⟨o0, ⟨o1, ⟨o2, ⟨o3, ⟨o4, ⟨o5, ⟨o6, o7⟩⟩⟩⟩⟩⟩⟩ := om
  unfold s_lcm at hs
  split at hs
  · next k q S1 =>
    split at hs
    · next n hk =>
      split at hs
      · next hb =>
        obtain ⟨b1, b2, b3, b4⟩ := hb
        obtain ⟨a1, a2⟩ := AK_pop ak
        split at hs
        · next r hr =>
          cases hs
          obtain ⟨x, hx, hx2⟩ := ldI_spec hr
          cases hx
          exact ⟨⟨AK_push (AK_pop a1).1 (inb_cmpL _ _), Nat.le_refl _, Nat.le_refl _⟩, fun g K Q fx _ _ _ nx => nx_lcm2 fx gw.2.2.2.2.2.2.1 o0 hd (dcB_of o1) (dcB_of o2) (dcB_of o3) (dcB_of o4) (dcB_of o5) (dcB_of o6) (dcB_of o7) b1 hk a2 b2 b3 b4 (ak.2.2.2 _ _) hx2 (ak.2.2.1 _ _ hx2) nx⟩
        · cases hs
      · cases hs
    · cases hs
  · cases hs
theorem st_lbt (gw : GWs) (hd : decode (me_cc me) pc = .ok (.laload, 1)) (h1 : ri.1 = 3) (om : okM me pc .laload ri = true) (hs : s_lbt pc 9 16 L S kd F P = some st) (ak : AK me L S F) : STC d me c0 s0 pc L S kd F P st := by
  simp only [okM, h1, show ¬ ((3 : Nat) = 1) by decide, show ¬ ((3 : Nat) = 2) by decide, Bool.and_eq_true, Bool.or_eq_true, Bool.not_eq_true', decide_eq_true_eq, decide_true, decide_false, Bool.not_true, Bool.false_or, Bool.false_eq_true, false_or, ite_true, ite_false] at om
  obtain ⟨o0, ⟨o1, ⟨o2, ⟨o3, ⟨o4, o5⟩⟩⟩⟩⟩ := om
  unfold s_lbt at hs
  split at hs
  · next k q S1 =>
    split at hs
    · next n hk =>
      split at hs
      · next hb =>
        obtain ⟨b1, b2, b3, b4⟩ := hb
        obtain ⟨a1, a2⟩ := AK_pop ak
        cases hs
        exact ⟨⟨AK_push (AK_pop a1).1 (inb_bt _ _), Nat.le_refl _, Nat.le_refl _⟩, fun g K Q fx _ _ _ nx => nx_lbt fx gw.2.2.2.2.2.2.1 o0 hd (dcB_of o1) (dcB_of o2) (dcB_of o3) (dcB_of o4) (dcB_of o5) b1 hk a2 b2 b3 b4 (ak.2.2.2 _ _) nx⟩
      · cases hs
    · cases hs
  · cases hs
theorem st_lcr4 (gw : GWs) (hd : decode (me_cc me) pc = .ok (.i2l, 1)) (h1 : ri.1 = 4) (om : okM me pc .i2l ri = true) (hs : s_lcr pc 11 0 (ldA L 4) (ldI L 7) L S kd F P = some st) (ak : AK me L S F) : STC d me c0 s0 pc L S kd F P st := by
  simp only [okM, h1, Bool.and_eq_true, Bool.or_eq_true, Bool.not_eq_true', decide_eq_true_eq, decide_true, decide_false, Bool.not_true, Bool.false_or, Bool.false_eq_true, false_or, ite_true, ite_false] at om
  obtain ⟨o0, ⟨o1, ⟨o2, ⟨o3, ⟨o4, ⟨o5, o6⟩⟩⟩⟩⟩⟩ := om
  unfold s_lcr at hs
  split at hs
  · next r S1 q k hq hkk =>
    split at hs
    · next n hk =>
      split at hs
      · next hb =>
        obtain ⟨b1, b2, b3, b4⟩ := hb
        obtain ⟨a1, a2⟩ := AK_pop ak
        obtain ⟨xq, e1, e2⟩ := ldA_spec hq
        cases e1
        obtain ⟨xk, e3, e4⟩ := ldI_spec hkk
        cases e3
        cases hs
        exact ⟨⟨AK_push a1 (inb_cmpL _ _), Nat.le_refl _, Nat.le_refl _⟩, fun g K Q fx _ _ _ nx => nx_lcr4 fx gw.2.2.2.2.2.2.1 o0 hd (dcB_of o1) (dcB_of o2) (dcB_of o3) (dcB_of o4) (dcB_of o5) (dcB_of o6) b1 hk (ak.2.2.1 _ _ e4) b2 b3 b4 (ak.2.2.2 _ _) e2 e4 a2 nx⟩
      · cases hs
    · cases hs
  · cases hs
theorem st_lcr5 (gw : GWs) (hd : decode (me_cc me) pc = .ok (.i2l, 1)) (h1 : ri.1 = 5) (om : okM me pc .i2l ri = true) (hs : s_lcr pc 14 ri.2.1 (ldA L 4) (ldI L 7) L S kd F P = some st) (ak : AK me L S F) : STC d me c0 s0 pc L S kd F P st := by
  simp only [okM, h1, show ¬ ((5 : Nat) = 4) by decide, Bool.and_eq_true, Bool.or_eq_true, Bool.not_eq_true', decide_eq_true_eq, decide_true, decide_false, Bool.not_true, Bool.false_or, Bool.false_eq_true, false_or, ite_true, ite_false] at om
  obtain ⟨⟨oc, osh⟩, ⟨o0, ⟨o1, ⟨o2, ⟨o3, ⟨o4, ⟨o5, ⟨o6, o7⟩⟩⟩⟩⟩⟩⟩⟩ := om
  unfold s_lcr at hs
  split at hs
  · next r S1 q k hq hkk =>
    split at hs
    · next n hk =>
      split at hs
      · next hb =>
        obtain ⟨b1, b2, b3, b4⟩ := hb
        obtain ⟨a1, a2⟩ := AK_pop ak
        obtain ⟨xq, e1, e2⟩ := ldA_spec hq
        cases e1
        obtain ⟨xk, e3, e4⟩ := ldI_spec hkk
        cases e3
        cases hs
        exact ⟨⟨AK_push a1 (inb_cmpL _ _), Nat.le_refl _, Nat.le_refl _⟩, fun g K Q fx _ _ _ nx => nx_lcr5 fx gw.2.2.2.2.2.2.1 oc osh hd (dcB_of o0) (dcB_of o1) (dcB_of o2) (dcB_of o3) (dcB_of o4) (dcB_of o5) (dcB_of o6) (dcB_of o7) b1 hk (ak.2.2.1 _ _ e4) b2 b3 b4 (ak.2.2.2 _ _) e2 e4 a2 nx⟩
      · cases hs
    · cases hs
  · cases hs
theorem st_lst (gw : GWs) (hd : decode (me_cc me) pc = .ok (.i2l, 1)) (h1 : ri.1 = 6) (om : okM me pc .i2l ri = true) (hs : s_lst pc (ldI L 3) L S kd F P = some st) (ak : AK me L S F) : STC d me c0 s0 pc L S kd F P st := by
  simp only [okM, h1, show ¬ ((6 : Nat) = 4) by decide, show ¬ ((6 : Nat) = 5) by decide, Bool.and_eq_true, Bool.or_eq_true, Bool.not_eq_true', decide_eq_true_eq, decide_true, decide_false, Bool.not_true, Bool.false_or, Bool.false_eq_true, false_or, ite_true, ite_false] at om
  obtain ⟨o0, ⟨o1, ⟨o2, ⟨o3, ⟨o4, ⟨o5, o6⟩⟩⟩⟩⟩⟩ := om
  unfold s_lst at hs
  split at hs
  · next p k q S1 b hb3 =>
    split at hs
    · next n hk =>
      split at hs
      · next hb =>
        obtain ⟨b1, b2, b3, b4, b5, b6, b7⟩ := hb
        obtain ⟨a1, a2⟩ := AK_pop ak
        obtain ⟨a3, a4⟩ := AK_pop a1
        obtain ⟨xk, e3, e4⟩ := ldI_spec hb3
        cases e3
        cases hs
        exact ⟨⟨AK_F (AK_pop a3).1 (inb_stt ak.2.2.2 (by unfold inb; omega)), Nat.le_refl _, Nat.le_refl _⟩, fun g K Q fx _ _ _ nx => nx_lst fx gw.2.2.2.2.2.2.2.1 o0 hd (dcB_of o1) (dcB_of o2) (dcB_of o3) (dcB_of o4) (dcB_of o5) (dcB_of o6) b1 hk a4 b2 b3 a2 e4 (ak.2.2.1 _ _ e4) nx⟩
      · cases hs
    · cases hs
  · cases hs
theorem st_ladd (gw : GWs) (hd : decode (me_cc me) pc = .ok (.dup2, 1)) (h1 : ri.1 = 7) (om : okM me pc .dup2 ri = true) (hs : s_ladd pc (ldI L 4) L S kd F P = some st) (ak : AK me L S F) : STC d me c0 s0 pc L S kd F P st := by
  simp only [okM, h1, Bool.and_eq_true, Bool.or_eq_true, Bool.not_eq_true', decide_eq_true_eq, decide_true, decide_false, Bool.not_true, Bool.false_or, Bool.false_eq_true, false_or, ite_true, ite_false] at om
  obtain ⟨o0, ⟨o1, ⟨o2, ⟨o3, ⟨o4, ⟨o5, ⟨o6, ⟨o7, ⟨o8, ⟨o9, o10⟩⟩⟩⟩⟩⟩⟩⟩⟩⟩ := om
  unfold s_ladd at hs
  split at hs
  · next k q S1 w hb3 =>
    split at hs
    · next n hk =>
      split at hs
      · next hb =>
        obtain ⟨b1, b2, b3, b4, b5⟩ := hb
        obtain ⟨a1, a2⟩ := AK_pop ak
        obtain ⟨xk, e3, e4⟩ := ldI_spec hb3
        cases e3
        cases hs
        exact ⟨⟨AK_F (AK_pop a1).1 (inb_stt ak.2.2.2 (by unfold inb; split <;> omega)), Nat.le_refl _, Nat.le_refl _⟩, fun g K Q fx _ _ _ nx => nx_ladd fx gw.2.2.2.2.2.2.2.2.1 gw.2.2.2.2.2.2.2.2.2 o0 hd (dcB_of o1) (dcB_of o2) (dcB_of o3) (dcB_of o4) (dcB_of o5) (dcB_of o6) (dcB_of o7) (dcB_of o8) (dcB_of o9) (dcB_of o10) b1 hk a2 b2 b3 e4 (ak.2.2.1 _ _ e4) nx⟩
      · cases hs
    · cases hs
  · cases hs
end STL
end
section
section STP
variable {pg : Nat → Option ME} {d : Nat} {me : ME} {pc len : Nat} {ri : RI} {ins : Instr} {L L' : LV} {S S' : List AV} {kd kd' : KL} {F F' : FM} {P P' : PM} {pc' c0 s0 : Nat}
set_option maxHeartbeats 4000000 in
theorem stp_sound (gw : GWs) (hd : decode (me_cc me) pc = .ok (ins, len)) (ok : okJ pg me ins len ri = true) (om : okM me pc ins ri = true) (hs : stp d pc len ri ins L S kd F P = some (pc', L', S', kd', F', P')) (ak : AK me L S F) :
    (AK me L' S' F' ∧ kd.length ≤ kd'.length ∧ ksz kd ≤ ksz kd') ∧ ∀ (g : GX) (K : KX) (Q : State → Prop), Fx g K d me → c0 ≤ kd.length → s0 ≤ ksz kd → kd'.length - c0 ≤ g.2.2.2.1.cells ∧ ksz kd' - s0 ≤ g.2.2.2.1.slots → NX g K Q c0 s0 pc' L' S' kd' F' P' → NX g K Q c0 s0 pc L S kd F P := by
  unfold stp at hs
  split at hs
  · next n =>
    simp only [okJ, Bool.and_eq_true, decide_eq_true_eq] at ok
    obtain ⟨rfl, ok⟩ := ok
    simp only [s_load, Option.some.injEq, Prod.mk.injEq] at hs
    obtain ⟨rfl, rfl, rfl, rfl, rfl, rfl⟩ := hs
    exact ⟨⟨AK_push ak (inbB_spec ok), Nat.le_refl _, Nat.le_refl _⟩, fun g K Q fx _ _ _ nx => nx_iconst fx hd nx⟩
  · next n =>
    simp only [okJ, Bool.and_eq_true, decide_eq_true_eq] at ok
    obtain ⟨rfl, ok⟩ := ok
    simp only [s_load, Option.some.injEq, Prod.mk.injEq] at hs
    obtain ⟨rfl, rfl, rfl, rfl, rfl, rfl⟩ := hs
    exact ⟨⟨AK_push ak (by show inb n; unfold inb; omega), Nat.le_refl _, Nat.le_refl _⟩, fun g K Q fx _ _ _ nx => nx_bipush fx hd ok.1 ok.2 nx⟩
  · next n =>
    simp only [okJ, Bool.and_eq_true, decide_eq_true_eq] at ok
    obtain ⟨rfl, ok⟩ := ok
    simp only [s_load, Option.some.injEq, Prod.mk.injEq] at hs
    obtain ⟨rfl, rfl, rfl, rfl, rfl, rfl⟩ := hs
    exact ⟨⟨AK_push ak (by show inb n; unfold inb; omega), Nat.le_refl _, Nat.le_refl _⟩, fun g K Q fx _ _ _ nx => nx_sipush fx hd ok.1 ok.2 nx⟩
  · next n =>
    simp only [okJ, Bool.and_eq_true, decide_eq_true_eq] at ok
    obtain ⟨rfl, ok⟩ := ok
    simp only [s_load, Option.some.injEq, Prod.mk.injEq] at hs
    obtain ⟨rfl, rfl, rfl, rfl, rfl, rfl⟩ := hs
    exact ⟨⟨AK_push ak (inbB_spec ok.1), Nat.le_refl _, Nat.le_refl _⟩, fun g K Q fx _ _ _ nx => nx_ldc fx hd (wAt_in ok.2) nx⟩
  · next i =>
    simp only [okJ, decide_eq_true_eq] at ok
    subst ok
    unfold s_load at hs
    split at hs
    · next v hv =>
      cases hs
      obtain ⟨x, rfl, hx⟩ := ldI_spec hv
      exact ⟨⟨AK_push ak (ak.2.2.1 _ _ hx), Nat.le_refl _, Nat.le_refl _⟩, fun g K Q fx _ _ _ nx => nx_iload fx hd hv nx⟩
    · cases hs
  · next i =>
    simp only [okJ, decide_eq_true_eq] at ok
    subst ok
    unfold s_load at hs
    split at hs
    · next v hv =>
      cases hs
      obtain ⟨x, rfl, hx⟩ := ldI_spec hv
      exact ⟨⟨AK_push ak (ak.2.2.1 _ _ hx), Nat.le_refl _, Nat.le_refl _⟩, fun g K Q fx _ _ _ nx => nx_iload_n fx hd hv nx⟩
    · cases hs
  · next i =>
    simp only [okJ, decide_eq_true_eq] at ok
    subst ok
    unfold s_load at hs
    split at hs
    · next v hv =>
      cases hs
      obtain ⟨x, rfl, hx⟩ := ldA_spec hv
      exact ⟨⟨AK_push ak (ak.2.2.1 _ _ hx), Nat.le_refl _, Nat.le_refl _⟩, fun g K Q fx _ _ _ nx => nx_aload fx hd hv nx⟩
    · cases hs
  · next i =>
    simp only [okJ, decide_eq_true_eq] at ok
    subst ok
    unfold s_load at hs
    split at hs
    · next v hv =>
      cases hs
      obtain ⟨x, rfl, hx⟩ := ldA_spec hv
      exact ⟨⟨AK_push ak (ak.2.2.1 _ _ hx), Nat.le_refl _, Nat.le_refl _⟩, fun g K Q fx _ _ _ nx => nx_aload_n fx hd hv nx⟩
    · cases hs
  · next i =>
    simp only [okJ, decide_eq_true_eq] at ok
    subst ok
    unfold s_storeI at hs
    split at hs
    · split at hs
      · next hi =>
        cases hs
        obtain ⟨a1, a2⟩ := AK_pop ak
        exact ⟨⟨AK_set a1 a2, Nat.le_refl _, Nat.le_refl _⟩, fun g K Q fx _ _ _ nx => nx_istore fx hd hi nx⟩
      · cases hs
    · cases hs
  · next i =>
    simp only [okJ, decide_eq_true_eq] at ok
    subst ok
    unfold s_storeI at hs
    split at hs
    · split at hs
      · next hi =>
        cases hs
        obtain ⟨a1, a2⟩ := AK_pop ak
        exact ⟨⟨AK_set a1 a2, Nat.le_refl _, Nat.le_refl _⟩, fun g K Q fx _ _ _ nx => nx_istore_n fx hd hi nx⟩
      · cases hs
    · cases hs
  · next i =>
    simp only [okJ, decide_eq_true_eq] at ok
    subst ok
    unfold s_storeA at hs
    split at hs
    · split at hs
      · next hi =>
        cases hs
        obtain ⟨a1, a2⟩ := AK_pop ak
        exact ⟨⟨AK_set a1 a2, Nat.le_refl _, Nat.le_refl _⟩, fun g K Q fx _ _ _ nx => nx_astore fx hd hi nx⟩
      · cases hs
    · cases hs
  · next i =>
    simp only [okJ, decide_eq_true_eq] at ok
    subst ok
    unfold s_storeA at hs
    split at hs
    · split at hs
      · next hi =>
        cases hs
        obtain ⟨a1, a2⟩ := AK_pop ak
        exact ⟨⟨AK_set a1 a2, Nat.le_refl _, Nat.le_refl _⟩, fun g K Q fx _ _ _ nx => nx_astore_n fx hd hi nx⟩
      · cases hs
    · cases hs
  · next i n =>
    simp only [okJ, decide_eq_true_eq] at ok
    subst ok
    unfold s_iinc at hs
    split at hs
    · next v hv =>
      cases hs
      exact ⟨⟨AK_set ak (inb_wr _), Nat.le_refl _, Nat.le_refl _⟩, fun g K Q fx _ _ _ nx => nx_iinc fx hd hv nx⟩
    · cases hs
  · simp only [okJ, decide_eq_true_eq] at ok
    subst ok
    unfold s_bin at hs
    split at hs
    · cases hs
      obtain ⟨a1, a2⟩ := AK_pop ak
      obtain ⟨a3, a4⟩ := AK_pop a1
      exact ⟨⟨AK_push a3 (inb_wr _), Nat.le_refl _, Nat.le_refl _⟩, fun g K Q fx _ _ _ nx => nx_iadd fx hd nx⟩
    · cases hs
  · simp only [okJ, decide_eq_true_eq] at ok
    subst ok
    unfold s_bin at hs
    split at hs
    · cases hs
      obtain ⟨a1, a2⟩ := AK_pop ak
      obtain ⟨a3, a4⟩ := AK_pop a1
      exact ⟨⟨AK_push a3 (inb_wr _), Nat.le_refl _, Nat.le_refl _⟩, fun g K Q fx _ _ _ nx => nx_isub fx hd nx⟩
    · cases hs
  · simp only [okJ, decide_eq_true_eq] at ok
    subst ok
    unfold s_bin at hs
    split at hs
    · cases hs
      obtain ⟨a1, a2⟩ := AK_pop ak
      obtain ⟨a3, a4⟩ := AK_pop a1
      exact ⟨⟨AK_push a3 (inb_wr _), Nat.le_refl _, Nat.le_refl _⟩, fun g K Q fx _ _ _ nx => nx_imul fx hd nx⟩
    · cases hs
  · simp only [okJ, decide_eq_true_eq] at ok
    subst ok
    unfold s_bin at hs
    split at hs
    · cases hs
      obtain ⟨a1, a2⟩ := AK_pop ak
      obtain ⟨a3, a4⟩ := AK_pop a1
      exact ⟨⟨AK_push a3 (inb_toInt _), Nat.le_refl _, Nat.le_refl _⟩, fun g K Q fx _ _ _ nx => nx_iand fx hd nx⟩
    · cases hs
  · simp only [okJ, decide_eq_true_eq] at ok
    subst ok
    unfold s_binD at hs
    split at hs
    · split at hs
      · cases hs
      · next h0 =>
        cases hs
        obtain ⟨a1, a2⟩ := AK_pop ak
        obtain ⟨a3, a4⟩ := AK_pop a1
        exact ⟨⟨AK_push a3 (inb_wr _), Nat.le_refl _, Nat.le_refl _⟩, fun g K Q fx _ _ _ nx => nx_idiv fx hd a4 a2 h0 nx⟩
    · cases hs
  · simp only [okJ, decide_eq_true_eq] at ok
    subst ok
    unfold s_binD at hs
    split at hs
    · split at hs
      · cases hs
      · next h0 =>
        cases hs
        obtain ⟨a1, a2⟩ := AK_pop ak
        obtain ⟨a3, a4⟩ := AK_pop a1
        exact ⟨⟨AK_push a3 (inb_wr _), Nat.le_refl _, Nat.le_refl _⟩, fun g K Q fx _ _ _ nx => nx_irem fx hd a4 a2 h0 nx⟩
    · cases hs
  · simp only [okJ, decide_eq_true_eq] at ok
    subst ok
    unfold s_neg at hs
    split at hs
    · cases hs
      obtain ⟨a1, a2⟩ := AK_pop ak
      exact ⟨⟨AK_push a1 (inb_wr _), Nat.le_refl _, Nat.le_refl _⟩, fun g K Q fx _ _ _ nx => nx_ineg fx hd nx⟩
    · cases hs
  · simp only [okJ, decide_eq_true_eq] at ok
    subst ok
    unfold s_dup at hs
    split at hs
    · cases hs
      exact ⟨⟨AK_push ak (AK_pop ak).2, Nat.le_refl _, Nat.le_refl _⟩, fun g K Q fx _ _ _ nx => nx_dup fx hd nx⟩
    · cases hs
  · simp only [okJ, decide_eq_true_eq] at ok
    subst ok
    split at hs
    · next h7 => exact st_ladd gw hd h7 om hs ak
    · unfold s_dup2 at hs
      split at hs
      · cases hs
        obtain ⟨a1, a2⟩ := AK_pop ak
        obtain ⟨a3, a4⟩ := AK_pop a1
        exact ⟨⟨AK_push (AK_push ak a4) a2, Nat.le_refl _, Nat.le_refl _⟩, fun g K Q fx _ _ _ nx => nx_dup2 fx hd nx⟩
      · cases hs
  · simp only [okJ, decide_eq_true_eq] at ok
    subst ok
    split at hs
    · next h1 => exact st_lcm1 gw hd h1 om hs ak
    · next h1 =>
      split at hs
      · next h2 => exact st_lcm2 gw hd h2 om hs ak
      · next h2 =>
        split at hs
        · next h3 => exact st_lbt gw hd h3 om hs ak
        · cases hs
  · simp only [okJ, decide_eq_true_eq] at ok
    subst ok
    split at hs
    · next h1 => exact st_lcr4 gw hd h1 om hs ak
    · next h1 =>
      split at hs
      · next h2 => exact st_lcr5 gw hd h2 om hs ak
      · next h2 =>
        split at hs
        · next h3 => exact st_lst gw hd h3 om hs ak
        · cases hs
  · simp only [okJ, decide_eq_true_eq] at ok
    subst ok
    unfold s_bin at hs
    split at hs
    · cases hs
      obtain ⟨a1, a2⟩ := AK_pop ak
      obtain ⟨a3, a4⟩ := AK_pop a1
      exact ⟨⟨AK_push a3 (inb_toInt _), Nat.le_refl _, Nat.le_refl _⟩, fun g K Q fx _ _ _ nx => nx_ishr fx hd nx⟩
    · cases hs
  · simp only [okJ, decide_eq_true_eq] at ok
    subst ok
    unfold s_bin at hs
    split at hs
    · cases hs
      obtain ⟨a1, a2⟩ := AK_pop ak
      obtain ⟨a3, a4⟩ := AK_pop a1
      exact ⟨⟨AK_push a3 (inb_toInt _), Nat.le_refl _, Nat.le_refl _⟩, fun g K Q fx _ _ _ nx => nx_ixor fx hd nx⟩
    · cases hs
  · simp only [okJ, decide_eq_true_eq] at ok
    subst ok
    unfold s_pop at hs
    split at hs
    · cases hs
      exact ⟨⟨(AK_pop ak).1, Nat.le_refl _, Nat.le_refl _⟩, fun g K Q fx _ _ _ nx => nx_pop fx hd nx⟩
    · cases hs
  · next off =>
    simp only [okJ, decide_eq_true_eq] at ok
    subst ok
    unfold s_goto at hs
    split at hs
    · next t ht =>
      cases hs
      exact ⟨⟨ak, Nat.le_refl _, Nat.le_refl _⟩, fun g K Q fx _ _ _ nx => nx_goto fx hd ht nx⟩
    · cases hs
  · next c off =>
    simp only [okJ, decide_eq_true_eq] at ok
    subst ok
    unfold s_icmp at hs
    split at hs
    · next t y x S1 ht =>
      cases hs
      obtain ⟨a1, a2⟩ := AK_pop ak
      obtain ⟨a3, a4⟩ := AK_pop a1
      exact ⟨⟨a3, Nat.le_refl _, Nat.le_refl _⟩, fun g K Q fx _ _ _ nx => nx_icmp fx hd ht a4 a2 nx⟩
    · cases hs
  · next c off =>
    simp only [okJ, decide_eq_true_eq] at ok
    subst ok
    unfold s_ifc at hs
    split at hs
    · next t x S1 ht =>
      cases hs
      obtain ⟨a1, a2⟩ := AK_pop ak
      exact ⟨⟨a1, Nat.le_refl _, Nat.le_refl _⟩, fun g K Q fx _ _ _ nx => nx_ifc fx hd ht a2 nx⟩
    · cases hs
  · simp only [okJ, decide_eq_true_eq] at ok
    subst ok
    unfold s_iald at hs
    split at hs
    · split at hs
      · next n hk =>
        split at hs
        · next hb =>
          cases hs
          obtain ⟨a1, a2⟩ := AK_pop ak
          exact ⟨⟨AK_push (AK_pop a1).1 (ak.2.2.2 _ _), Nat.le_refl _, Nat.le_refl _⟩, fun g K Q fx _ _ _ nx => nx_iald fx hd hk a2 hb.1 hb.2 nx⟩
        · cases hs
      · cases hs
    · cases hs
  · simp only [okJ, decide_eq_true_eq] at ok
    subst ok
    unfold s_aald at hs
    split at hs
    · split at hs
      · next n hk =>
        split at hs
        · next hb =>
          cases hs
          obtain ⟨a1, a2⟩ := AK_pop ak
          exact ⟨⟨AK_push (AK_pop a1).1 trivial, Nat.le_refl _, Nat.le_refl _⟩, fun g K Q fx _ _ _ nx => nx_aald fx hd hb.1 hk a2 hb.2.1 hb.2.2 nx⟩
        · cases hs
      · cases hs
    · cases hs
  · simp only [okJ, decide_eq_true_eq] at ok
    subst ok
    unfold s_iast at hs
    split at hs
    · split at hs
      · next n hk =>
        split at hs
        · next hb =>
          cases hs
          obtain ⟨a1, a2⟩ := AK_pop ak
          obtain ⟨a3, a4⟩ := AK_pop a1
          exact ⟨⟨AK_F (AK_pop a3).1 (inb_stt ak.2.2.2 a2), Nat.le_refl _, Nat.le_refl _⟩, fun g K Q fx _ _ _ nx => nx_iast fx hd hb.1 hk a4 hb.2.1 hb.2.2 nx⟩
        · cases hs
      · cases hs
    · cases hs
  · simp only [okJ, decide_eq_true_eq] at ok
    subst ok
    unfold s_aast at hs
    split at hs
    · split at hs
      · next n hk =>
        split at hs
        · next hb =>
          cases hs
          obtain ⟨a1, a2⟩ := AK_pop ak
          obtain ⟨a3, a4⟩ := AK_pop a1
          exact ⟨⟨(AK_pop a3).1, Nat.le_refl _, Nat.le_refl _⟩, fun g K Q fx _ _ _ nx => nx_aast fx hd hb.1 hk a4 hb.2.1 hb.2.2.1 hb.2.2.2.1 hb.2.2.2.2 nx⟩
        · cases hs
      · cases hs
    · cases hs
  · simp only [okJ, decide_eq_true_eq] at ok
    subst ok
    unfold s_alen at hs
    split at hs
    · split at hs
      · next n hk =>
        split at hs
        · next hb =>
          cases hs
          exact ⟨⟨AK_push (AK_pop ak).1 (by show inb _; unfold inb; omega), Nat.le_refl _, Nat.le_refl _⟩, fun g K Q fx _ _ _ nx => nx_alen fx hd hk nx⟩
        · cases hs
      · cases hs
    · cases hs
  · next idx =>
    simp only [okJ, okG, Bool.and_eq_true, decide_eq_true_eq] at ok
    obtain ⟨rfl, ok⟩ := ok
    split at ok
    · next r hr =>
      simp only [Bool.and_eq_true, decide_eq_true_eq] at ok
      unfold s_getf at hs
      split at hs
      · split at hs
        · next c n hk =>
          split at hs
          · next hb =>
            obtain ⟨rfl, hj, h3⟩ := hb
            cases hs
            exact ⟨⟨AK_push (AK_pop ak).1 (by split; exact ak.2.2.2 _ _; trivial), Nat.le_refl _, Nat.le_refl _⟩, fun g K Q fx _ _ _ nx => nx_getf fx hd h3 hk hj hr ok.1.1 (gw.1 _ _ hr).1 (wAt_in ok.1.2) nx⟩
          · cases hs
        · cases hs
      · cases hs
    · cases ok
  · next idx =>
    simp only [okJ, okG, Bool.and_eq_true, decide_eq_true_eq] at ok
    obtain ⟨rfl, ok⟩ := ok
    split at ok
    · next r hr =>
      simp only [Bool.and_eq_true, decide_eq_true_eq] at ok
      have hfin : (r.2.1 ri.2.1).2.2.2 = false ∨ ((me_y me).name = "<init>" ∧ (r.2.1 ri.2.1).1 = (me_y me).cls) := by
        have h := ok.2
        simp at h
        exact h
      unfold s_putf at hs
      split at hs
      · split at hs
        · next c n hk =>
          split at hs
          · next hb =>
            obtain ⟨rfl, hj, h3, hty⟩ := hb
            cases hs
            obtain ⟨a1, a2⟩ := AK_pop ak
            refine ⟨⟨AK_F (AK_pop a1).1 (inb_stt ak.2.2.2 a2), Nat.le_refl _, Nat.le_refl _⟩, fun g K Q fx _ _ _ nx => nx_putV fx hd h3 hk hj hr ok.1.1 (gw.1 _ _ hr).1 (wAt_in ok.1.2) hfin ?_ ?_ ?_ (fun a b hab => by unfold stt; rw [if_neg hab]) (fun a b hab => rfl) nx⟩
            · rcases hty with h | ⟨h, q | q⟩ <;> rw [h]
              · rfl
              · rw [q]; rfl
              · rw [q]; rfl
            · rcases hty with h | ⟨h, q | q⟩ <;> rw [h]
              · rfl
              · rw [q]; rfl
              · rw [q]; rfl
            · have e : isN (tyOf ri.1 ri.2.1) = true := by rcases hty with h | ⟨h, q⟩ <;> rw [h] <;> rfl
              unfold sval stt
              rw [if_pos e, if_pos ⟨rfl, rfl⟩]
              rfl
          · cases hs
        · cases hs
      · split at hs
        · next c n hk =>
          split at hs
          · next hb =>
            obtain ⟨rfl, hj, h3, hty⟩ := hb
            cases hs
            obtain ⟨a1, a2⟩ := AK_pop ak
            have hdf := clDef _ _ hr _ ok.1.1
            rw [if_neg (by rw [hty]; decide)] at hdf
            refine ⟨⟨(AK_pop a1).1, Nat.le_refl _, Nat.le_refl _⟩, fun g K Q fx _ _ _ nx => nx_putV fx hd h3 hk hj hr ok.1.1 (gw.1 _ _ hr).1 (wAt_in ok.1.2) hfin ?_ ?_ ?_ (fun a b hab => rfl) (fun a b hab => by unfold stp_; rw [if_neg hab]) nx⟩
            · exact (ptr_fit hdf _).1
            · exact (ptr_fit hdf _).2
            · unfold sval stp_
              rw [if_neg (by rw [hty]; decide), if_pos ⟨rfl, rfl⟩]
              rfl
          · cases hs
        · cases hs
      · cases hs
    · cases ok
  · next idx =>
    simp only [okJ, Bool.and_eq_true, decide_eq_true_eq] at ok
    obtain ⟨rfl, ok⟩ := ok
    split at ok
    · next r hr =>
      simp only [Bool.and_eq_true, decide_eq_true_eq] at ok
      unfold s_new at hs
      cases hs
      have e1 : (kd ++ [(ri.1 + 2, ri.2.1)]).length = kd.length + 1 := by simp
      have e2 : ksz (kd ++ [(ri.1 + 2, ri.2.1)]) = ksz kd + ri.2.1 := by unfold ksz; simp
      exact ⟨⟨AK_F (AK_push ak trivial) (inb_clF ak.2.2.2), by omega, by omega⟩, fun g K Q fx h1 h2 h3 nx => nx_new fx hd hr ok.1 (gw.1 _ _ hr).1 (wAt_in ok.2) (gw.1 _ _ hr).2.1 (gw.1 _ _ hr).2.2 h1 h2 (by rw [← e1]; exact h3.1) (by rw [← e2]; exact h3.2) nx⟩
    · cases ok
  · next t =>
    simp only [okJ, decide_eq_true_eq] at ok
    subst ok
    split at hs
    · next ht =>
      subst ht
      unfold s_newa at hs
      split at hs
      · next n S1 =>
        split at hs
        · next hb =>
          cases hs
          have e1 : List.length (kd ++ [((0 : Nat), n.toNat)]) = kd.length + 1 := by simp
          have e2 : ksz (kd ++ [((0 : Nat), n.toNat)]) = ksz kd + n.toNat := by unfold ksz; simp
          exact ⟨⟨AK_F (AK_push (AK_pop ak).1 trivial) (inb_clF ak.2.2.2), by omega, by omega⟩, fun g K Q fx h1 h2 h3 nx => nx_newa fx hd gw.2.2.2.2.1 hb.1 hb.2 h1 h2 (by rw [← e1]; exact h3.1) (by rw [← e2]; exact h3.2) nx⟩
        · cases hs
      · cases hs
    · split at hs
      · next ht =>
        subst ht
        unfold s_newl at hs
        split at hs
        · next n S1 =>
          split at hs
          · next hb =>
            cases hs
            have e1 : List.length (kd ++ [((30 : Nat), n.toNat)]) = kd.length + 1 := by simp
            have e2 : ksz (kd ++ [((30 : Nat), n.toNat)]) = ksz kd + n.toNat := by unfold ksz; simp
            exact ⟨⟨AK_F (AK_push (AK_pop ak).1 trivial) (inb_clF ak.2.2.2), by omega, by omega⟩, fun g K Q fx h1 h2 h3 nx => nx_newl fx hd gw.2.2.2.2.2.1 hb.1 hb.2 h1 h2 (by rw [← e1]; exact h3.1) (by rw [← e2]; exact h3.2) nx⟩
          · cases hs
        · cases hs
      · cases hs
  · next idx =>
    simp only [okJ, Bool.and_eq_true, decide_eq_true_eq] at ok
    obtain ⟨rfl, ok⟩ := ok
    unfold s_anew at hs
    split at hs
    · next n S1 =>
      split at hs
      · next hb =>
        cases hs
        have e1 : List.length (kd ++ [((1 : Nat), n.toNat)]) = kd.length + 1 := by simp
        have e2 : ksz (kd ++ [((1 : Nat), n.toNat)]) = ksz kd + n.toNat := by unfold ksz; simp
        exact ⟨⟨AK_push (AK_pop ak).1 trivial, by omega, by omega⟩, fun g K Q fx h1 h2 h3 nx => nx_anew fx hd (wAt_in ok) hb.1 hb.2 h1 h2 (by rw [← e1]; exact h3.1) (by rw [← e2]; exact h3.2) nx⟩
      · cases hs
    · cases hs
  · next idx =>
    simp only [okJ, Bool.and_eq_true, Bool.or_eq_true, decide_eq_true_eq] at ok
    obtain ⟨rfl, ok⟩ := ok
    unfold s_gets at hs
    cases hs
    refine ⟨⟨AK_push ak trivial, Nat.le_refl _, Nat.le_refl _⟩, fun g K Q fx _ _ _ nx => ?_⟩
    rcases ok with ⟨h, hw⟩ | ⟨h, hw⟩
    · rw [h] at nx
      exact nx_gets fx hd (nAt_in hw) fx.2.2.2.2.2.1.2.2.2.2.2.1 (by omega) nx
    · rw [h] at nx
      exact nx_gets fx hd (nAt_in hw) fx.2.2.2.2.2.1.2.2.2.2.2.2 (by omega) nx
  · next dflt lo hi offs =>
    have hs' := hs
    unfold s_tab at hs
    split at hs
    · next x S1 =>
      obtain ⟨a1, a2⟩ := AK_pop ak
      have hAK : L' = L ∧ S' = S1 ∧ kd' = kd ∧ F' = F := by
        split at hs
        · split at hs
          · unfold s_goto at hs
            split at hs
            · cases hs; exact ⟨rfl, rfl, rfl, rfl⟩
            · cases hs
          · cases hs
        · unfold s_goto at hs
          split at hs
          · cases hs; exact ⟨rfl, rfl, rfl, rfl⟩
          · cases hs
      obtain ⟨rfl, rfl, rfl, rfl⟩ := hAK
      exact ⟨⟨a1, Nat.le_refl _, Nat.le_refl _⟩, fun g K Q fx _ _ _ nx => nx_tab fx hd a2 hs' nx⟩
    · cases hs
  · next dflt ps =>
    have hs' := hs
    unfold s_look at hs
    split at hs
    · next x S1 =>
      obtain ⟨a1, a2⟩ := AK_pop ak
      have hAK : L' = L ∧ S' = S1 ∧ kd' = kd ∧ F' = F := by
        split at hs
        · unfold s_goto at hs
          split at hs
          · cases hs; exact ⟨rfl, rfl, rfl, rfl⟩
          · cases hs
        · cases hs
      obtain ⟨rfl, rfl, rfl, rfl⟩ := hAK
      exact ⟨⟨a1, Nat.le_refl _, Nat.le_refl _⟩, fun g K Q fx _ _ _ nx => nx_look fx hd a2 hs' nx⟩
    · cases hs
  · next idx =>
    simp only [okJ, Bool.and_eq_true, decide_eq_true_eq] at ok
    obtain ⟨rfl, ok⟩ := ok
    split at hs
    · next h2 =>
      rw [if_pos h2] at ok
      unfold s_copy at hs
      split at hs
      · split at hs
        · next n0 n1 e0 e1 =>
          split at hs
          · next hb =>
            obtain ⟨q1, q2, q3, q4, q5, q6, q7, q8⟩ := hb
            subst q2
            cases hs
            obtain ⟨a1, a2⟩ := AK_pop ak
            obtain ⟨a3, a4⟩ := AK_pop a1
            obtain ⟨a5, a6⟩ := AK_pop a3
            obtain ⟨a7, a8⟩ := AK_pop a5
            exact ⟨⟨AK_F (AK_pop a7).1 (inb_cpF ak.2.2.2), Nat.le_refl _, Nat.le_refl _⟩, fun g K Q fx _ _ _ nx => nx_copy fx ak.1 hd (wAt_in ok) gw.2.2.1.1 gw.2.2.1.2.1 gw.2.2.1.2.2 q1 q3 e0 e1 a2 a8 a4 q4 q5 q6 q7 q8 nx⟩
          · cases hs
        · cases hs
      · cases hs
    · next h2 =>
      rw [if_neg h2] at ok
      split at hs
      · next h4 =>
        rw [if_pos h4] at ok
        unfold s_mm at hs
        split at hs
        · next y x S1 =>
          split at hs
          · next hb =>
            cases hs
            obtain ⟨a1, a2⟩ := AK_pop ak
            obtain ⟨a3, a4⟩ := AK_pop a1
            exact ⟨⟨AK_push a3 (by show inb (if y < x then y else x); split; exact a2; exact a4), Nat.le_refl _, Nat.le_refl _⟩, fun g K Q fx _ _ hr nx => nx_mmin fx ak.1 hd (wAt_in ok) gw.2.1.2.1 gw.2.1.1 gw.2.1.2.2 hb.1 hb.2 a4 a2 hr nx⟩
          · cases hs
        · cases hs
      · cases hs
  · next idx =>
    simp only [okJ, Bool.and_eq_true, decide_eq_true_eq] at ok
    obtain ⟨rfl, ok⟩ := ok
    split at hs
    · next h5 =>
      rw [if_pos h5] at ok
      unfold s_oini at hs
      split at hs
      · split at hs
        · next hb =>
          obtain ⟨q1, q2⟩ := hb
          subst q2
          cases hs
          exact ⟨⟨(AK_pop ak).1, Nat.le_refl _, Nat.le_refl _⟩, fun g K Q fx _ _ _ nx => nx_oini fx ak.1 hd (wAt_in ok) gw.2.2.2.1.1 gw.2.2.2.1.2 q1 nx⟩
        · cases hs
      · cases hs
    · cases hs
  · cases hs
end STP
end
section
def OKM (pg : Nat → Option ME) (ce : ME) : Prop :=
  plainName (me_y ce).cls = true ∧ ((me_y ce).cls ≠ "java/lang/invoke/MethodHandle" ∧ (me_y ce).cls ≠ "java/lang/invoke/VarHandle") ∧ (parseMethodDescriptor (me_y ce).desc).map (fun d => d.parameters.length) = some (me_na ce) ∧ Jvm.Cond.code (me_y ce) (me_cc ce) (me_ml ce) (me_rt ce) ∈ WL ∧ Jvm.Cond.initialized (me_y ce).cls ∈ WL ∧
  (me_kd ce = 0 → Jvm.Cond.instanceMethod (me_y ce) ∈ WL ∧ Jvm.Cond.selects (me_y ce).cls (me_y ce) (me_y ce) ∈ WL ∧ ∃ r : vw_C, vwCl[me_ix ce]? = some r ∧ r.1 = (me_y ce).cls) ∧ (me_kd ce = 1 → Jvm.Cond.static (me_y ce) ∈ WL) ∧ (me_kd ce = 2 → Jvm.Cond.instanceMethod (me_y ce) ∈ WL ∧ (me_y ce).name = "<init>" ∧ me_rt ce = none) ∧ me_ml ce ≤ 20 ∧ ∀ e ∈ me_ci ce, okI pg ce e = true
def wsm (ce : ME) : List Jvm.Cond := .code (me_y ce) (me_cc ce) (me_ml ce) (me_rt ce) :: WL
def Mth (K : KX) (l : Launch) (ce : ME) (as : List AV) (kd : KL) (F : FM) (P : PM) (d : Nat) (rs : RS) : Prop :=
  Met l (me_y ce) (wsm ce) ({ frames := d, cells := rs.2.1.length - kd.length, slots := ksz rs.2.1 - ksz kd, locals := 39 * d } : Room) (fun a U => a = (as.map (gv K)).toArray ∧ TF K U ∧ WI K kd F P U.heap) (fun _ _ oc t => oc = .returned (rs.1.map (gv K)) ∧ WI K rs.2.1 rs.2.2.1 rs.2.2.2 t.heap) (rs.2.1.length - kd.length) (ksz rs.2.1 - ksz kd) (zA K)
theorem NWs_tab : ∀ w ∈ NWs, w.onTables = true := by decide +kernel
theorem TF_same {K : KX} {u U : State} (h : u.vm = U.vm) (t : TF K u) : TF K U := by
  have hA : u.vm.Alike U.vm := by rw [h]; exact Vm.Alike.refl _
  obtain ⟨t1, t2, t3, t4, t5, t6, t7⟩ := t
  exact ⟨t1, t2.moved hA, fun w hw => (t3 w hw).same (NWs_tab w hw) h, t4.moved hA, fun k hk => (t5 k hk).moved hA, t6.moved hA, t7.moved hA⟩
theorem NW_warm {s U : State} (hW : s.WarmedH U.vm) (h : ∀ w ∈ NWs, va_Nw w s) : ∀ w ∈ NWs, va_Nw w U := by
  simp only [NWs, List.forall_mem_cons] at h ⊢
  obtain ⟨h1, h2, h3, h4, h5, h6, h7, h8, h9⟩ := h
  exact ⟨h1.warmM hW, h2.warmM hW, h3.warmM hW, h4.warmM hW, h5.warmM hW, h6.warmM hW, h7.warmF hW, h8.warmF hW, fun _ h => absurd h List.not_mem_nil⟩
theorem TF_warm {K : KX} {s U : State} (hW : s.WarmedH U.vm) (t : TF K s) : TF K U := by
  obtain ⟨t1, t2, t3, t4, t5, t6, t7⟩ := t
  exact ⟨t1, t2.moved hW.alike, NW_warm hW t3, t4.moved hW.alike, fun k hk => (t5 k hk).moved hW.alike, t6.moved hW.alike, t7.moved hW.alike⟩
theorem spl_spec {n : Nat} {S as S' : List AV} (h : spl n S = some (as, S')) : S = as.reverse ++ S' ∧ as.length = n := by
  unfold spl at h
  split at h
  · next hn =>
    cases h
    exact ⟨by rw [List.reverse_reverse, List.take_append_drop], by rw [List.length_reverse, List.length_take]; omega⟩
  · cases h
theorem ftc_spec {pc : Nat} : ∀ {l : List CI} {e : CI}, ftc pc l = some e → e ∈ l ∧ e.1 = pc
  | [], e, h => by cases h
  | a :: l, e, h => by
    unfold ftc at h
    split at h
    · next hp => cases h; exact ⟨List.mem_cons_self, hp⟩
    · obtain ⟨h1, h2⟩ := ftc_spec h
      exact ⟨List.mem_cons_of_mem _ h1, h2⟩
theorem rcv0 {ce : ME} {kd : KL} {as : List AV} (hk : me_kd ce = 0) (h : rcv ce kd as = true) : ∃ (k : Nat) (as' : List AV) (n : Nat), as = .inr (some k) :: as' ∧ 3 ≤ k ∧ kd[k]? = some (me_ix ce + 2, n) := by
  simp only [rcv, hk] at h
  split at h
  · next k as' =>
    simp only [Bool.and_eq_true, decide_eq_true_eq] at h
    obtain ⟨k3, h⟩ := h
    split at h
    · next c n hk =>
      simp only [decide_eq_true_eq] at h
      subst h
      exact ⟨k, as', n, rfl, k3, hk⟩
    · cases h
  · cases h
theorem rcv2 {ce : ME} {kd : KL} {as : List AV} (hk : me_kd ce = 2) (h : rcv ce kd as = true) : ∃ (k : Nat) (as' : List AV), as = .inr (some k) :: as' := by
  simp only [rcv, hk] at h
  split at h
  · next k as' => exact ⟨k, as', rfl⟩
  · cases h
section CALLS
variable {g : GX} {K : KX} {d : Nat} {me : ME} {Q : State → Prop} {c0 s0 pc : Nat} {L : LV} {S S' : List AV} {kd : KL} {F : FM} {P : PM} {rs : RS} {pg : Nat → Option ME}
theorem nx_run {ls : Array Slot} {H : Heap} {locs : List Loc} {st : List Value} (hL : LI K L ls) (hX : XI K locs) (hc0 : c0 ≤ kd.length) (hs0 : s0 ≤ ksz kd) (hmono : kd.length ≤ rs.2.1.length ∧ ksz kd ≤ ksz rs.2.1)
    (hrun : va_Run g.1 g.2.1 g.2.2.1 g.2.2.2.1 g.2.2.2.2.1 g.2.2.2.2.2.1 g.2.2.2.2.2.2.1 g.2.2.2.2.2.2.2.1 g.2.2.2.2.2.2.2.2.1 g.2.2.2.2.2.2.2.2.2 H locs (kd.length - c0) (ksz kd - s0) (rs.2.1.length - kd.length) (ksz rs.2.1 - ksz kd) (F0 g.2.2.2.2.2.1 pc ls st) (S'.map (gv K)) (fun _ oc t => oc = .returned (rs.1.map (gv K)) ∧ WI K rs.2.1 rs.2.2.1 rs.2.2.2 t.heap) (zA K))
    (nx : NX g K Q c0 s0 (pc + 3) L (psh rs.1 S') rs.2.1 rs.2.2.1 rs.2.2.2) : gW g H locs (kd.length - c0) (ksz kd - s0) Q (F0 g.2.2.2.2.2.1 pc ls st) := by
  intro T hT X
  obtain ⟨v, st₀, t, T', Lc, e1, X', hLc, e2, e3, ⟨e4, e5⟩, hgo⟩ := hrun T hT X
  have e4 : v = rs.1.map (gv K) := by cases e4; rfl
  subst e4
  rw [show kd.length - c0 + (rs.2.1.length - kd.length) = rs.2.1.length - c0 by omega, show ksz kd - s0 + (ksz rs.2.1 - ksz kd) = ksz rs.2.1 - s0 by omega] at X'
  obtain ⟨t', a1, b1⟩ := nx ls T'.heap (locs ++ Lc) hL (by rw [e2]; exact e5) (fun q hq => by
    rcases List.mem_append.mp hq with h | h
    · exact hX q h
    · exact hLc q h) T' rfl X'
  refine ⟨t', hgo t' ?_, b1⟩
  have e6 : (psh rs.1 S').map (gv K) = (rs.1.map (gv K)).toList ++ S'.map (gv K) := by
    cases rs.1 <;> rfl
  rw [e6] at a1
  exact a1
theorem nx_call {ce : ME} {ins : Instr} {ri : RI} {i : Nat} {as : List AV} {d' : Nat} (fx : Fx g K d me) (okc : OKM pg ce) (hd : decode (me_cc me) pc = .ok (ins, 3)) (ok : okJ pg me ins 3 ri = true) (hcal : cal ri ins = some i) (hpg : pg i = some ce) (hspl : spl (nar ce) S = some (as, S')) (h8 : S'.length ≤ 8) (hrcv : rcv ce kd as = true) (hM : Mth K g.2.1 ce as kd F P d' rs) (hdd : d' + 1 = d) (hml : L.length = me_ml me) (hc0 : c0 ≤ kd.length) (hs0 : s0 ≤ ksz kd) (hmono : kd.length ≤ rs.2.1.length ∧ ksz kd ≤ ksz rs.2.1) (hr : rs.2.1.length - c0 ≤ g.2.2.2.1.cells ∧ ksz rs.2.1 - s0 ≤ g.2.2.2.1.slots)
    (nx : NX g K Q c0 s0 (pc + 3) L (psh rs.1 S') rs.2.1 rs.2.2.1 rs.2.2.2) : NX g K Q c0 s0 pc L S kd F P := by
  intro ls H locs hL hW hX
  obtain ⟨q1, q2, q3, q4, q5, q6, q7, q8, q9, -⟩ := okc
  have hts := fx.2.2.2.2.1
  have hfr := fx.2.2.2.2.2.2.2.1
  have hlo := fx.2.2.2.2.2.2.2.2
  have hgood : GoodIn WL (wsm ce) := WL_GoodIn (fun w hw => by
    rcases List.mem_cons.mp hw with h | h
    · rw [h]; exact q4
    · exact h)
  obtain ⟨hS, hlen⟩ := spl_spec hspl
  have hblind : FrameBlind (fun (a : Array Value) (U : State) => a = (as.map (gv K)).toArray ∧ TF K U ∧ WI K kd F P U.heap) := fun a U g' mk h => ⟨h.1, TF_same (u := U) rfl h.2.1, h.2.2⟩
  have hfix : CallFix g.1 g.2.2.2.2.2.1 g.2.2.2.2.2.2.2.2.2 (me_cc me) (me_ml me) g.2.2.2.2.1 g.2.2.2.2.2.2.1 WL (me_y me).cls := ⟨fx.1, fx.2.1, fx.2.2.1, fx.2.2.2.1, hts⟩
  have hroom : kd.length - c0 + (rs.2.1.length - kd.length) ≤ g.2.2.2.1.cells ∧ ksz kd - s0 + (ksz rs.2.1 - ksz kd) ≤ g.2.2.2.1.slots := by omega
  have hW8 : 2 * (F0 g.2.2.2.2.2.1 pc ls (S.map (gv K))).monitorRoom + ((S'.map (gv K)).map fun v => v.category).sum ≤ 8 := lv_room (by rw [gv_cats]; exact h8)
  have hbase : (rs.2.1.length - kd.length = rs.2.1.length - kd.length ∧ ksz rs.2.1 - ksz kd = ksz rs.2.1 - ksz kd ∧ d' + 1 ≤ g.2.2.2.1.frames ∧ 8 + (me_ml ce + 11) + 39 * d' ≤ g.2.2.2.1.locals) := ⟨rfl, rfl, by omega, by omega⟩
  have hpay := pay_in hts hgood
  have hmem : Jvm.Cond.code (me_y ce) (me_cc ce) (me_ml ce) (me_rt ce) ∈ wsm ce := List.mem_cons_self
  have hsig : ∀ sig, parseMethodDescriptor (me_y ce).desc = some sig → me_na ce = sig.parameters.length := fun sig h => by
    rw [h] at q3
    exact (Option.some.inj q3).symm
  have hpost : ∀ U : State, U.heap = H → g.2.2.2.2.1.WarmedH U.vm → TF K U ∧ WI K kd F P U.heap := fun U hU hw => ⟨TF_warm hw fx.2.2.2.2.2.1, by rw [hU]; exact hW⟩
  unfold cal at hcal
  split at hcal
  · next idx =>
    cases hcal
    simp only [okJ, okC, hpg, Bool.and_eq_true, decide_eq_true_eq] at ok
    obtain ⟨-, ok0, okk, ok⟩ := ok
    rw [if_pos ok0] at ok
    obtain ⟨w1, w2, r, w3, w4⟩ := q6 okk
    obtain ⟨k, as', n, rfl, k3, hk⟩ := rcv0 okk hrcv
    have hat0 := hW.2.2.2.1 k _ k3 hk
    rw [cel_ob (ci_of w3)] at hat0
    obtain ⟨r', h1, cell, g1, g2, g3, -⟩ := hat0
    have hre : r' = r := Option.some.inj (h1.symm.trans w3)
    subst hre
    have hn : nar ce = me_na ce + 1 := by unfold nar; rw [okk]; rfl
    refine nx_run hL hX hc0 hs0 hmono (va_runV (C := (me_y ce).cls) (b := ad K k) (As := as'.map (gv K)) (n := me_na ce) hfix hM ⟨⟨hbase.1, hbase.2.1, hbase.2.2.1, hbase.2.2.2, hpay, hmem, hts _ q4, hts _ q5, q2, hsig, hts _ (wAt_in ok)⟩, hts _ w1, hts _ w2⟩ ⟨hblind, ⟨cell, g1, by rw [g3]; rfl, by rw [g2, ← w4]; exact (fx.2.2.2.2.2.1.2.1.1 _ _ w3).2.1⟩, fun U hU hw => ⟨rfl, hpost U hU hw⟩⟩ rfl (by rw [List.length_map]; simp at hlen; omega) (hL.1.trans hml) ?_ hW8 hd hroom) nx
    show S.map (gv K) = _
    rw [hS]
    simp [gv, va_rf]
  · next idx =>
    split at hcal
    · next h2 =>
      cases hcal
      simp only [okJ, Bool.and_eq_true, decide_eq_true_eq] at ok
      obtain ⟨-, ok⟩ := ok
      rw [if_neg (by omega), if_neg (by omega)] at ok
      simp only [okC, hpg, Bool.and_eq_true, decide_eq_true_eq] at ok
      obtain ⟨okk, ok⟩ := ok
      have w1 := q7 okk
      have hn : nar ce = me_na ce := by unfold nar; rw [okk]; rfl
      have hst : S.map (gv K) = (as.map (gv K)).reverse ++ S'.map (gv K) := by rw [hS]; simp
      split at ok
      · exact nx_run hL hX hc0 hs0 hmono (va_runS (As := as.map (gv K)) (n := me_na ce) hfix hM ⟨⟨hbase.1, hbase.2.1, hbase.2.2.1, hbase.2.2.2, hpay, hmem, hts _ q4, hts _ q5, q2, hsig, hts _ (wAt_in ok)⟩, hts _ w1⟩ ⟨hblind, fun U hU hw => ⟨rfl, hpost U hU hw⟩⟩ rfl (by rw [List.length_map]; omega) (hL.1.trans hml) hst hW8 hd hroom) nx
      · simp only [Bool.and_eq_true, decide_eq_true_eq] at ok
        have hN := fx.2.2.2.2.2.1.2.2.1 _ (nAt_in ok.2)
        exact nx_run hL hX hc0 hs0 hmono (va_runSN (As := as.map (gv K)) (n := me_na ce) (host := RNG) hfix hM ⟨⟨⟨hbase.1, hbase.2.1, hbase.2.2.1, hbase.2.2.2, hpay, hmem⟩, hts _ q4, hts _ q5, q2, hsig, va_Nw.use rfl hN⟩, hts _ w1, trivial⟩ ⟨hblind, fun U hU hw => ⟨rfl, hpost U hU hw⟩⟩ rfl (by rw [List.length_map]; omega) (hL.1.trans hml) hst hW8 hd hroom) nx
    · cases hcal
  · next idx =>
    split at hcal
    · next h2 =>
      cases hcal
      simp only [okJ, Bool.and_eq_true, decide_eq_true_eq] at ok
      obtain ⟨-, ok⟩ := ok
      rw [if_neg (by omega)] at ok
      simp only [okC, hpg, Bool.and_eq_true, decide_eq_true_eq] at ok
      obtain ⟨okk, ok⟩ := ok
      obtain ⟨w1, w2, w3⟩ := q8 okk
      have hn : nar ce = me_na ce + 1 := by unfold nar; rw [okk]; rfl
      obtain ⟨k, as', rfl⟩ := rcv2 okk hrcv
      have hst : S.map (gv K) = (as'.map (gv K)).reverse ++ .ref (ad K k) :: S'.map (gv K) := by rw [hS]; simp [gv, va_rf]
      rw [w3] at hmem q4
      split at ok
      · exact nx_run hL hX hc0 hs0 hmono (va_runI (b := ad K k) (As := as'.map (gv K)) (n := me_na ce) hfix hM ⟨⟨hbase.1, hbase.2.1, hbase.2.2.1, hbase.2.2.2, hpay, hmem, hts _ q4, hts _ q5, q2, hsig, hts _ (wAt_in ok)⟩, w2, hts _ w1⟩ ⟨hblind, fun U hU hw => ⟨rfl, hpost U hU hw⟩⟩ rfl (by rw [List.length_map]; simp at hlen; omega) (hL.1.trans hml) hst hW8 hd hroom) nx
      · simp only [Bool.and_eq_true, decide_eq_true_eq] at ok
        have hN := fx.2.2.2.2.2.1.2.2.1 _ (nAt_in ok.2)
        exact nx_run hL hX hc0 hs0 hmono (va_runIN (b := ad K k) (As := as'.map (gv K)) (n := me_na ce) (host := RNG) hfix hM ⟨⟨⟨hbase.1, hbase.2.1, hbase.2.2.1, hbase.2.2.2, hpay, hmem⟩, hts _ q4, hts _ q5, q2, hsig, va_Nw.use rfl hN⟩, w2, hts _ w1⟩ ⟨hblind, fun U hU hw => ⟨rfl, hpost U hU hw⟩⟩ rfl (by rw [List.length_map]; simp at hlen; omega) (hL.1.trans hml) hst hW8 hd hroom) nx
    · cases hcal
  · cases hcal
end CALLS
def OKR (kd : KL) (rs : RS) : Prop := (∀ v, rs.1 = some v → okv v) ∧ (∀ k j, inb (rs.2.2.1 k j)) ∧ kd.length ≤ rs.2.1.length ∧ ksz kd ≤ ksz rs.2.1
def FIN (g : GX) (K : KX) (Q : State → Prop) (c0 s0 : Nat) (me : ME) (rs : RS) : Prop := ∀ (pc : Nat) (ins : Instr) (S : List AV) (ls : Array Slot) (H : Heap) (locs : List Loc), decode (me_cc me) pc = .ok (ins, 1) → isFin ins = true → fin (me_rt me) ins S = some rs.1 → WI K rs.2.1 rs.2.2.1 rs.2.2.2 H → XI K locs → gW g H locs (rs.2.1.length - c0) (ksz rs.2.1 - s0) Q (F0 g.2.2.2.2.2.1 pc ls (S.map (gv K)))
def CFok (pg : Nat → Option ME) (d : Nat) (cf : CF) : Prop := ∀ (i : Nat) (as : List AV) (kd : KL) (F : FM) (P : PM) (rs : RS), cf i as kd F P = some rs → (∀ v ∈ as, okv v) → (∀ k j, inb (F k j)) → OKR kd rs ∧ ∀ ce, pg i = some ce → ∀ (K : KX) (l : Launch), ∃ d', d' + 1 = d ∧ Mth K l ce as kd F P d' rs
theorem fin_ok {rt : Option FieldType} {ins : Instr} {S : List AV} {r : Option AV} (h : fin rt ins S = some r) (hS : ∀ v ∈ S, okv v) : ∀ v, r = some v → okv v := by
  intro v hv
  subst hv
  unfold fin at h
  split at h
  · split at h
    · split at h
      · cases h; exact hS _ List.mem_cons_self
      · cases h
    · cases h
  · split at h
    · split at h
      · cases h; exact trivial
      · cases h
    · cases h
  · split at h
    · split at h <;> cases h
    · cases h
  · cases h
theorem len3_of {pg : Nat → Option ME} {me : ME} {ins : Instr} {len i : Nat} {ri : RI} (ok : okJ pg me ins len ri = true) (hc : cal ri ins = some i) : len = 3 := by
  unfold cal at hc
  split at hc <;> first | (simp only [okJ, Bool.and_eq_true, decide_eq_true_eq] at ok; exact ok.1) | cases hc
theorem len1_of {pg : Nat → Option ME} {me : ME} {ins : Instr} {len : Nat} {ri : RI} (ok : okJ pg me ins len ri = true) (hc : isFin ins = true) : len = 1 := by
  unfold isFin at hc
  split at hc <;> first | (simp only [okJ, decide_eq_true_eq] at ok; exact ok) | cases hc
theorem okJ_cal {pg : Nat → Option ME} {me : ME} {ins : Instr} {len i : Nat} {ri : RI} (ok : okJ pg me ins len ri = true) (hc : cal ri ins = some i) : i = ri.1 := by
  unfold cal at hc
  split at hc
  · cases hc; rfl
  · split at hc <;> cases hc; rfl
  · split at hc <;> cases hc; rfl
  · cases hc
set_option maxHeartbeats 2000000 in
theorem go_sound {pg : Nat → Option ME} {d : Nat} {cf : CF} {me : ME} (gw : GWs) (okall : ∀ i ce, pg i = some ce → OKM pg ce) (okme : ∀ e ∈ me_ci me, okI pg me e = true) (hcf : CFok pg d cf) : ∀ (f pc : Nat) (L : LV) (S : List AV) (kd : KL) (F : FM) (P : PM) (rs : RS), go pg d cf me f pc L S kd F P = some rs → AK me L S F →
    OKR kd rs ∧ ∀ (g : GX) (K : KX) (Q : State → Prop) (c0 s0 : Nat), Fx g K d me → c0 ≤ kd.length → s0 ≤ ksz kd → (rs.2.1.length - c0 ≤ g.2.2.2.1.cells ∧ ksz rs.2.1 - s0 ≤ g.2.2.2.1.slots) → FIN g K Q c0 s0 me rs → NX g K Q c0 s0 pc L S kd F P := by
  intro f
  induction f with
  | zero => intro pc L S kd F P rs h; cases h
  | succ f ih =>
    intro pc L S kd F P rs h ak
    unfold go at h
    split at h
    · cases h
    · next e he =>
      obtain ⟨hmem, hpc⟩ := ftc_spec he
      have hok := okme e hmem
      simp only [okI, Bool.and_eq_true, decide_eq_true_eq] at hok
      obtain ⟨⟨hd, ok⟩, om⟩ := hok
      rw [hpc] at hd h om
      split at h
      · next hf =>
        split at h
        · next r hr =>
          cases h
          refine ⟨⟨fin_ok hr ak.2.1, ak.2.2.2, Nat.le_refl _, Nat.le_refl _⟩, fun g K Q c0 s0 fx _ _ _ hfin => ?_⟩
          rw [len1_of ok hf] at hd
          exact fun ls H locs _ hW hX => hfin pc _ S ls H locs hd hf hr hW hX
        · cases h
      · split at h
        · next i hi =>
          have hl3 := len3_of ok hi
          rw [hl3] at hd ok
          split at h
          · cases h
          · next ce hce =>
            split at h
            · cases h
            · next as S' hspl =>
              split at h
              · next hb =>
                split at h
                · cases h
                · next r kd1 F1 P1 hcall =>
                  obtain ⟨hS, hlen⟩ := spl_spec hspl
                  have has : ∀ v ∈ as, okv v := fun v hv => ak.2.1 v (by rw [hS]; exact List.mem_append_left _ (List.mem_reverse.mpr hv))
                  have hS' : ∀ v ∈ S', okv v := fun v hv => ak.2.1 v (by rw [hS]; exact List.mem_append_right _ hv)
                  obtain ⟨⟨o1, o2, o3, o4⟩, hM⟩ := hcf i as kd F P _ hcall has ak.2.2.2
                  have ak1 : AK me L (psh r S') F1 := by
                    refine ⟨ak.1, ?_, ak.2.2.1, o2⟩
                    unfold psh
                    split
                    · next v => exact List.forall_mem_cons.mpr ⟨o1 v rfl, hS'⟩
                    · exact hS'
                  obtain ⟨⟨p1, p2, p3, p4⟩, hgo⟩ := ih _ _ _ _ _ _ _ h ak1
                  dsimp only at o3 o4
                  refine ⟨⟨p1, p2, by omega, by omega⟩, fun g K Q c0 s0 fx h1 h2 hr hfin => ?_⟩
                  obtain ⟨d', hdd, hM'⟩ := hM ce hce K g.2.1
                  exact nx_call fx (okall i ce hce) hd ok hi hce hspl hb.1 hb.2 hM' hdd ak.1 h1 h2 ⟨o3, o4⟩ (by dsimp only; omega) (hgo g K Q c0 s0 fx (by omega) (by omega) hr hfin)
              · cases h
        · split at h
          · cases h
          · next pc' L' S' kd' F' P' hst =>
            obtain ⟨p1, p2, p3, p4⟩ := (ih _ _ _ _ _ _ _ h (stp_sound (c0 := 0) (s0 := 0) gw hd ok om hst ak).1.1).1
            obtain ⟨hak, hm1, hm2⟩ := (stp_sound (c0 := 0) (s0 := 0) gw hd ok om hst ak).1
            refine ⟨⟨p1, p2, by omega, by omega⟩, fun g K Q c0 s0 fx h1 h2 hr hfin => ?_⟩
            exact (stp_sound gw hd ok om hst ak).2 g K Q fx h1 h2 (by omega) ((ih _ _ _ _ _ _ _ h hak).2 g K Q c0 s0 fx (by omega) (by omega) hr hfin)
theorem lv_args_in {K : KX} : ∀ (as : List AV) (j i : Nat) (v : AV), as[i]? = some v → (j + i, gv K v) ∈ lv_args j (as.map (gv K))
  | [], j, i, v, h => by simp at h
  | a :: as, j, 0, v, h => by
    cases h
    exact List.mem_cons_self
  | a :: as, j, i + 1, v, h => by
    rw [List.getElem?_cons_succ] at h
    have e := lv_args_in (K := K) as (j + 1) i v h
    show _ ∈ (_ :: lv_args (if (gv K a).category = 2 then j + 2 else j + 1) (as.map (gv K)))
    rw [gv_cat, if_neg (by decide), show j + (i + 1) = j + 1 + i by omega]
    exact List.mem_cons_of_mem _ e
theorem lg_len {K : KX} : ∀ (as : List AV), (lg_sl (as.map (gv K))).length = as.length
  | [] => rfl
  | a :: as => by
    have e := lg_len (K := K) as
    unfold lg_sl at e ⊢
    rw [List.map_cons, List.flatMap_cons, gv_cat, if_neg (by decide), List.length_append, e]
    simp; omega
def L0 (as : List AV) (n : Nat) : LV := as.map some ++ List.replicate (n - as.length) none
theorem L0_get {as : List AV} {n i : Nat} {v : AV} (h : (L0 as n)[i]? = some (some v)) : as[i]? = some v := by
  unfold L0 at h
  by_cases hi : i < as.length
  · rw [List.getElem?_append_left (by simp; exact hi), List.getElem?_map] at h
    cases hq : as[i]? with
    | none => rw [hq] at h; cases h
    | some w => rw [hq] at h; cases h; rfl
  · rw [List.getElem?_append_right (by simp; omega), List.getElem?_replicate] at h
    split at h <;> cases h
theorem LI_entry {K : KX} {as : List AV} {n : Nat} (h : as.length ≤ n) : LI K (L0 as n) ((lg_sl (as.map (gv K)) ++ List.replicate (n - (lg_sl (as.map (gv K))).length) Slot.unset).toArray) := by
  have e := lv_entry (as.map (gv K)) (n := n) (by rw [lg_len]; exact h)
  refine ⟨by rw [e.1]; unfold L0; simp; omega, e.2.1, fun i v hi => ?_⟩
  have h1 := lv_args_in (K := K) as 0 i v (L0_get hi)
  rw [Nat.zero_add] at h1
  exact e.2.2 _ h1
theorem Mth_of {pg : Nat → Option ME} {d : Nat} {cf : CF} {me : ME} {K : KX} {l : Launch} {f : Nat} {as : List AV} {kd : KL} {F : FM} {P : PM} {rs : RS} (gw : GWs) (okall : ∀ i ce, pg i = some ce → OKM pg ce) (okm : OKM pg me) (hcf : CFok pg d cf) (hlen : as.length ≤ me_ml me) (has : ∀ v ∈ as, okv v) (hF : ∀ k j, inb (F k j)) (h : go pg d cf me f 0 (L0 as (me_ml me)) [] kd F P = some rs) : OKR kd rs ∧ Mth K l me as kd F P d rs := by
  have ak : AK me (L0 as (me_ml me)) [] F := ⟨by unfold L0; simp; omega, fun v hv => absurd hv List.not_mem_nil, fun i v hi => has v (List.mem_of_getElem? (L0_get hi)), hF⟩
  obtain ⟨h1, h2⟩ := go_sound gw okall okm.2.2.2.2.2.2.2.2.2 hcf f 0 _ _ _ _ _ _ h ak
  refine ⟨h1, ?_⟩
  refine Met.ofW (cc := me_cc me) (maxL := me_ml me) (ret := me_rt me) okm.1 rfl ?_
  intro p e s m args below meth c s₁ B hml hv
  obtain ⟨rfl, hT, hW⟩ := hv
  have hts := atoms_spec (ws := wsm me) B.pre
  have fx : Fx (p, l, e, ({ frames := d, cells := rs.2.1.length - kd.length, slots := ksz rs.2.1 - ksz kd, locals := 39 * d } : Room), s, m, (as.map (gv K)).toArray, below, meth, c) K d me :=
    ⟨B.exec, B.bytes, hml, findClass_of_methodNamed B.named, fun w hw => hts w (List.mem_cons_of_mem _ hw), hT, fun hn => (name_of_methodNamed B.named B.method).1.trans hn, Nat.le_refl _, Nat.le_refl _⟩
  have hr := B.returns
  have hlocks := B.notSynchronized
  have key := h2 _ K (MQ below (fun _ _ oc t => oc = .returned (rs.1.map (gv K)) ∧ WI K rs.2.1 rs.2.2.1 rs.2.2.2 t.heap) (as.map (gv K)).toArray s (rs.2.1.length - kd.length) (ksz rs.2.1 - ksz kd) (zA K)) kd.length (ksz kd) fx (Nat.le_refl _) (Nat.le_refl _) ⟨Nat.le_refl _, Nat.le_refl _⟩ ?_ _ _ [] (LI_entry hlen) hW (fun q hq => absurd hq List.not_mem_nil)
  · rw [Nat.sub_self, Nat.sub_self] at key
    rw [lg_entry_eq]
    exact key
  · intro pc ins S ls H locs hd hf hfin hW1 hX
    unfold fin at hfin
    split at hfin
    · split at hfin
      · next v =>
        split at hfin
        · next hb =>
          have hfin := Option.some.inj hfin
          rcases hb with hb | ⟨hb, hv⟩
          · rw [hb] at hr
            exact W.iret fx.1 fx.2.1 hr (fun t ht _ => ⟨by rw [← hfin]; rfl, by rw [ht]; exact hW1⟩) hX hd hlocks
          · rw [hb] at hr
            refine W.zret (ty := .boolean) fx.1 fx.2.1 hr ?_ (fun t ht _ => ⟨by rw [← hfin]; rfl, by rw [ht]; exact hW1⟩) hX hd hlocks
            rcases hv with hv | hv <;> rw [hv] <;> decide
        · cases hfin
      · cases hfin
    · split at hfin
      · next v =>
        split at hfin
        · next n hb =>
          have hfin := Option.some.inj hfin
          rw [hb] at hr
          refine W.aret fx.1 fx.2.1 hr (Or.inl ⟨_, rfl⟩) ?_ (fun t ht _ => ⟨by rw [← hfin]; rfl, by rw [ht]; exact hW1⟩) hX hd hlocks
          cases v
          · exact Or.inl rfl
          · exact Or.inr ⟨_, rfl⟩
        · cases hfin
      · cases hfin
    · split at hfin
      · split at hfin
        · next hb =>
          have hfin := Option.some.inj hfin
          rw [hb] at hr
          exact W.vret fx.1 fx.2.1 hr (fun t ht _ => ⟨by rw [← hfin]; rfl, by rw [ht]; exact hW1⟩) hX hd hlocks
        · cases hfin
      · cases hfin
    · cases hfin
theorem lvl_sound {pg : Nat → Option ME} (gw : GWs) (okall : ∀ i ce, pg i = some ce → OKM pg ce) (f : Nat) : ∀ d, CFok pg d (lvl pg d f)
  | 0 => fun i as kd F P rs h => by cases h
  | d + 1 => fun i as kd F P rs h has hF => by
    have ih := lvl_sound gw okall f d
    unfold lvl at h
    split at h
    · cases h
    · next me hme =>
      split at h
      · next hb =>
        have h0 := fun (K : KX) (l : Launch) => Mth_of (K := K) (l := l) gw okall (okall i me hme) ih hb.2 has hF h
        refine ⟨?_, fun ce hce K l => ⟨d, rfl, ?_⟩⟩
        · exact (go_sound gw okall (okall i me hme).2.2.2.2.2.2.2.2.2 ih f 0 _ _ _ _ _ _ h ⟨by simp; omega, fun v hv => absurd hv List.not_mem_nil, fun i v hi => has v (List.mem_of_getElem? (L0_get hi)), hF⟩).1
        · cases hme.symm.trans hce
          exact (h0 K l).2
      · cases h
end
