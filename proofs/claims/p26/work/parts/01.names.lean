-- ===== PART A: goes FIRST, ahead of the names: the tables' words, and 'selects' of the private methods out of them =====
/-- a private method of a class that the tables say can be made, by its rows of tables_1 -/
def lw_okq (q : MethodName × Nat) : Prop := (q.1.cls ≠ "java/lang/invoke/MethodHandle" ∧ q.1.cls ≠ "java/lang/invoke/VarHandle") ∧ Cond.instantiable q.1.cls q.2 ∈ tables_1 ∧ Cond.privateMethod q.1 ∈ tables_1 ∧ Cond.instanceMethod q.1 ∈ tables_1
theorem lw_p0 : lw_okq (⟨"HiddenBids", "freshDraft", "()LHiddenBids$State;"⟩, 8) := ⟨⟨by decide +kernel, by decide +kernel⟩, List.mem_of_getElem? (i := 12) (by decide +kernel), List.mem_of_getElem? (i := 293) (by decide +kernel), List.mem_of_getElem? (i := 294) (by decide +kernel)⟩
theorem lw_p1 : lw_okq (⟨"HiddenBids", "adopt", "(I)I"⟩, 8) := ⟨⟨by decide +kernel, by decide +kernel⟩, List.mem_of_getElem? (i := 12) (by decide +kernel), List.mem_of_getElem? (i := 312) (by decide +kernel), List.mem_of_getElem? (i := 313) (by decide +kernel)⟩
def lw_privs_1 : List (MethodName × Nat) := [(⟨"HiddenBids", "freshDraft", "()LHiddenBids$State;"⟩, 8), (⟨"HiddenBids", "adopt", "(I)I"⟩, 8)]
theorem lw_r1 : ∀ q ∈ lw_privs_1, lw_okq q := List.forall_mem_cons.mpr ⟨lw_p0, List.forall_mem_cons.mpr ⟨lw_p1, fun _ h => absurd h List.not_mem_nil⟩⟩
def lw_privs : List (MethodName × Nat) := lw_privs_1
def lw_tbl : List Cond := k2_sels lw_privs ++ tables_1
theorem lw_privs_ok : ∀ q ∈ lw_privs, lw_okq q := lw_r1
-- ===== end of PART A; then your names; then what follows =====
def RX0 : String := "HiddenBids$Adviser"
def TX0 : u_T := fun k => match k with
  | 0 => ("HiddenBids$Adviser", "outcome", "LHiddenBids$Outcome;", true)
  | _ => ("HiddenBids$Adviser", "trial", "[I", true)
def tyX0 : Nat → FieldType := fun k => match k with
  | 0 => .object "HiddenBids$Outcome"
  | _ => .array .int
abbrev wsX00 : List Cond := u_ws RX0 TX0 2
theorem nmX0 : ∀ a, a < 2 → ∀ b, b < 2 → a ≠ b → (TX0 a).2.1 ≠ (TX0 b).2.1 := by decide +kernel
theorem tyX0_ok : ∀ k, k < 2 → parseFieldDescriptor (TX0 k).2.2.1 = some (tyX0 k) := by decide +kernel
abbrev cX0_init : ByteArray := prog_2_method_1_code
def yX0_init : MethodName := ⟨RX0, "<init>", "()V"⟩
def RX1 : String := "HiddenBids$History"
def TX1 : u_T := fun k => match k with
  | 0 => ("HiddenBids$History", "states", "[LHiddenBids$State;", true)
  | _ => ("HiddenBids$History", "size", "I", false)
def tyX1 : Nat → FieldType := fun k => match k with
  | 0 => .array (.object "HiddenBids$State")
  | _ => .int
abbrev wsX10 : List Cond := u_ws RX1 TX1 2
theorem nmX1 : ∀ a, a < 2 → ∀ b, b < 2 → a ≠ b → (TX1 a).2.1 ≠ (TX1 b).2.1 := by decide +kernel
theorem tyX1_ok : ∀ k, k < 2 → parseFieldDescriptor (TX1 k).2.2.1 = some (tyX1 k) := by decide +kernel
abbrev cX1_init : ByteArray := prog_3_method_1_code
def yX1_init : MethodName := ⟨RX1, "<init>", "()V"⟩
abbrev cX1_add : ByteArray := prog_3_method_2_code
def yX1_add : MethodName := ⟨RX1, "add", "(LHiddenBids$State;)LHiddenBids$State;"⟩
def RX2 : String := "HiddenBids$Outcome"
def TX2 : u_T := fun k => match k with
  | 0 => ("HiddenBids$Outcome", "winner", "I", false)
  | 1 => ("HiddenBids$Outcome", "greatest", "I", false)
  | 2 => ("HiddenBids$Outcome", "leaders", "I", false)
  | 3 => ("HiddenBids$Outcome", "pot", "I", false)
  | 4 => ("HiddenBids$Outcome", "paid", "[I", true)
  | _ => ("HiddenBids$Outcome", "got", "[I", true)
def tyX2 : Nat → FieldType := fun k => match k with
  | 0 => .int
  | 1 => .int
  | 2 => .int
  | 3 => .int
  | 4 => .array .int
  | _ => .array .int
abbrev wsX20 : List Cond := u_ws RX2 TX2 6
theorem nmX2 : ∀ a, a < 6 → ∀ b, b < 6 → a ≠ b → (TX2 a).2.1 ≠ (TX2 b).2.1 := by decide +kernel
theorem tyX2_ok : ∀ k, k < 6 → parseFieldDescriptor (TX2 k).2.2.1 = some (tyX2 k) := by decide +kernel
abbrev cX2_init : ByteArray := prog_4_method_1_code
def yX2_init : MethodName := ⟨RX2, "<init>", "()V"⟩
abbrev cX2_work : ByteArray := prog_4_method_2_code
def yX2_work : MethodName := ⟨RX2, "work", "(LHiddenBids$State;[I)V"⟩
abbrev cX2_findWinner : ByteArray := prog_4_method_3_code
def yX2_findWinner : MethodName := ⟨RX2, "findWinner", "(I[I)V"⟩
abbrev cX2_payment : ByteArray := prog_4_method_4_code
def yX2_payment : MethodName := ⟨RX2, "payment", "([III)I"⟩
abbrev cX2_sharePot : ByteArray := prog_4_method_5_code
def yX2_sharePot : MethodName := ⟨RX2, "sharePot", "(I)V"⟩
abbrev cX2_coinsBehind : ByteArray := prog_4_method_6_code
def yX2_coinsBehind : MethodName := ⟨RX2, "coinsBehind", "(LHiddenBids$State;I)I"⟩
def RX3 : String := "HiddenBids$PairList"
def TX3 : u_T := fun k => match k with
  | 0 => ("HiddenBids$PairList", "players", "[I", true)
  | 1 => ("HiddenBids$PairList", "bids", "[I", true)
  | 2 => ("HiddenBids$PairList", "times", "[I", true)
  | 3 => ("HiddenBids$PairList", "wins", "[I", true)
  | _ => ("HiddenBids$PairList", "size", "I", false)
def tyX3 : Nat → FieldType := fun k => match k with
  | 0 => .array .int
  | 1 => .array .int
  | 2 => .array .int
  | 3 => .array .int
  | _ => .int
abbrev wsX30 : List Cond := u_ws RX3 TX3 5
theorem nmX3 : ∀ a, a < 5 → ∀ b, b < 5 → a ≠ b → (TX3 a).2.1 ≠ (TX3 b).2.1 := by decide +kernel
theorem tyX3_ok : ∀ k, k < 5 → parseFieldDescriptor (TX3 k).2.2.1 = some (tyX3 k) := by decide +kernel
abbrev cX3_init : ByteArray := prog_5_method_1_code
def yX3_init : MethodName := ⟨RX3, "<init>", "()V"⟩
abbrev cX3_empty : ByteArray := prog_5_method_2_code
def yX3_empty : MethodName := ⟨RX3, "empty", "()V"⟩
abbrev cX3_copyFrom : ByteArray := prog_5_method_3_code
def yX3_copyFrom : MethodName := ⟨RX3, "copyFrom", "(LHiddenBids$PairList;)V"⟩
abbrev cX3_note : ByteArray := prog_5_method_4_code
def yX3_note : MethodName := ⟨RX3, "note", "(IIZ)V"⟩
abbrev cX3_indexOf : ByteArray := prog_5_method_5_code
def yX3_indexOf : MethodName := ⟨RX3, "indexOf", "(II)I"⟩
abbrev cX3_numberOfPair : ByteArray := prog_5_method_6_code
def yX3_numberOfPair : MethodName := ⟨RX3, "numberOfPair", "(II)I"⟩
def RX4 : String := "HiddenBids$RoundLog"
def TX4 : u_T := fun k => match k with
  | 0 => ("HiddenBids$RoundLog", "numbers", "[I", true)
  | 1 => ("HiddenBids$RoundLog", "size", "I", false)
  | _ => ("HiddenBids$RoundLog", "latest", "I", false)
def tyX4 : Nat → FieldType := fun k => match k with
  | 0 => .array .int
  | 1 => .int
  | _ => .int
abbrev wsX40 : List Cond := u_ws RX4 TX4 3
theorem nmX4 : ∀ a, a < 3 → ∀ b, b < 3 → a ≠ b → (TX4 a).2.1 ≠ (TX4 b).2.1 := by decide +kernel
theorem tyX4_ok : ∀ k, k < 3 → parseFieldDescriptor (TX4 k).2.2.1 = some (tyX4 k) := by decide +kernel
abbrev cX4_init : ByteArray := prog_6_method_1_code
def yX4_init : MethodName := ⟨RX4, "<init>", "()V"⟩
abbrev cX4_empty : ByteArray := prog_6_method_2_code
def yX4_empty : MethodName := ⟨RX4, "empty", "()V"⟩
abbrev cX4_copyFrom : ByteArray := prog_6_method_3_code
def yX4_copyFrom : MethodName := ⟨RX4, "copyFrom", "(LHiddenBids$RoundLog;)V"⟩
abbrev cX4_add : ByteArray := prog_6_method_4_code
def yX4_add : MethodName := ⟨RX4, "add", "(LHiddenBids$Outcome;I[I)V"⟩
abbrev cX4_numberOfRound : ByteArray := prog_6_method_5_code
def yX4_numberOfRound : MethodName := ⟨RX4, "numberOfRound", "(III)I"⟩
abbrev cX4_columnOf : ByteArray := prog_6_method_6_code
def yX4_columnOf : MethodName := ⟨RX4, "columnOf", "(II)I"⟩
def RX5 : String := "HiddenBids$State"
def TX5 : u_T := fun k => match k with
  | 0 => ("HiddenBids$State", "players", "I", false)
  | 1 => ("HiddenBids$State", "pot", "I", false)
  | 2 => ("HiddenBids$State", "rounds", "I", false)
  | 3 => ("HiddenBids$State", "openRounds", "I", false)
  | 4 => ("HiddenBids$State", "tableSize", "I", false)
  | 5 => ("HiddenBids$State", "tableSum", "I", false)
  | 6 => ("HiddenBids$State", "rowSize", "I", false)
  | 7 => ("HiddenBids$State", "coins", "[I", true)
  | 8 => ("HiddenBids$State", "points", "[I", true)
  | 9 => ("HiddenBids$State", "bids", "[I", true)
  | 10 => ("HiddenBids$State", "won", "[I", true)
  | 11 => ("HiddenBids$State", "paid", "[I", true)
  | 12 => ("HiddenBids$State", "got", "[I", true)
  | 13 => ("HiddenBids$State", "settings", "[I", true)
  | 14 => ("HiddenBids$State", "lots", "[I", true)
  | 15 => ("HiddenBids$State", "log", "LHiddenBids$RoundLog;", true)
  | _ => ("HiddenBids$State", "pairs", "LHiddenBids$PairList;", true)
def tyX5 : Nat → FieldType := fun k => match k with
  | 0 => .int
  | 1 => .int
  | 2 => .int
  | 3 => .int
  | 4 => .int
  | 5 => .int
  | 6 => .int
  | 7 => .array .int
  | 8 => .array .int
  | 9 => .array .int
  | 10 => .array .int
  | 11 => .array .int
  | 12 => .array .int
  | 13 => .array .int
  | 14 => .array .int
  | 15 => .object "HiddenBids$RoundLog"
  | _ => .object "HiddenBids$PairList"
abbrev wsX50 : List Cond := u_ws RX5 TX5 17
theorem nmX5 : ∀ a, a < 17 → ∀ b, b < 17 → a ≠ b → (TX5 a).2.1 ≠ (TX5 b).2.1 := by decide +kernel
theorem tyX5_ok : ∀ k, k < 17 → parseFieldDescriptor (TX5 k).2.2.1 = some (tyX5 k) := by decide +kernel
abbrev cX5_init : ByteArray := prog_7_method_1_code
def yX5_init : MethodName := ⟨RX5, "<init>", "()V"⟩
abbrev cX5_copyFrom : ByteArray := prog_7_method_2_code
def yX5_copyFrom : MethodName := ⟨RX5, "copyFrom", "(LHiddenBids$State;)V"⟩
abbrev cX5_startGame : ByteArray := prog_7_method_3_code
def yX5_startGame : MethodName := ⟨RX5, "startGame", "(II)I"⟩
abbrev cX5_addLot : ByteArray := prog_7_method_4_code
def yX5_addLot : MethodName := ⟨RX5, "addLot", "(I)I"⟩
abbrev cX5_makeBid : ByteArray := prog_7_method_5_code
def yX5_makeBid : MethodName := ⟨RX5, "makeBid", "(II)I"⟩
abbrev cX5_changeSetting : ByteArray := prog_7_method_6_code
def yX5_changeSetting : MethodName := ⟨RX5, "changeSetting", "(II)I"⟩
abbrev cX5_settle : ByteArray := prog_7_method_7_code
def yX5_settle : MethodName := ⟨RX5, "settle", "(LHiddenBids$Outcome;)I"⟩
abbrev cX5_emptyTable : ByteArray := prog_7_method_8_code
def yX5_emptyTable : MethodName := ⟨RX5, "emptyTable", "()V"⟩
abbrev cX5_hasPlayer : ByteArray := prog_7_method_9_code
def yX5_hasPlayer : MethodName := ⟨RX5, "hasPlayer", "(I)Z"⟩
abbrev cX5_isOver : ByteArray := prog_7_method_10_code
def yX5_isOver : MethodName := ⟨RX5, "isOver", "()Z"⟩
abbrev cX5_nextStake : ByteArray := prog_7_method_11_code
def yX5_nextStake : MethodName := ⟨RX5, "nextStake", "()I"⟩
abbrev cX5_bidCount : ByteArray := prog_7_method_12_code
def yX5_bidCount : MethodName := ⟨RX5, "bidCount", "()I"⟩
abbrev cX5_allCoins : ByteArray := prog_7_method_15_code
def yX5_allCoins : MethodName := ⟨RX5, "allCoins", "()I"⟩
abbrev cX5_leader : ByteArray := prog_7_method_16_code
def yX5_leader : MethodName := ⟨RX5, "leader", "()I"⟩
abbrev cX5_numberOfPlayer : ByteArray := prog_7_method_18_code
def yX5_numberOfPlayer : MethodName := ⟨RX5, "numberOfPlayer", "(II)I"⟩
abbrev cX5_valueAt : ByteArray := prog_7_method_19_code
def yX5_valueAt : MethodName := ⟨RX5, "valueAt", "(II)I"⟩
abbrev cX5_number : ByteArray := prog_7_method_20_code
def yX5_number : MethodName := ⟨RX5, "number", "(I)I"⟩
def RX6 : String := "HiddenBids$Text"
def TX6 : u_T := fun k => match k with
  | 0 => ("HiddenBids$Text", "characters", "[I", true)
  | 1 => ("HiddenBids$Text", "length", "I", false)
  | 2 => ("HiddenBids$Text", "position", "I", false)
  | 3 => ("HiddenBids$Text", "reason", "I", false)
  | 4 => ("HiddenBids$Text", "cause", "I", false)
  | 5 => ("HiddenBids$Text", "commands", "I", false)
  | 6 => ("HiddenBids$Text", "next", "I", false)
  | 7 => ("HiddenBids$Text", "kind", "I", false)
  | 8 => ("HiddenBids$Text", "first", "I", false)
  | _ => ("HiddenBids$Text", "second", "I", false)
def tyX6 : Nat → FieldType := fun k => match k with
  | 0 => .array .int
  | 1 => .int
  | 2 => .int
  | 3 => .int
  | 4 => .int
  | 5 => .int
  | 6 => .int
  | 7 => .int
  | 8 => .int
  | _ => .int
abbrev wsX60 : List Cond := u_ws RX6 TX6 10
theorem nmX6 : ∀ a, a < 10 → ∀ b, b < 10 → a ≠ b → (TX6 a).2.1 ≠ (TX6 b).2.1 := by decide +kernel
theorem tyX6_ok : ∀ k, k < 10 → parseFieldDescriptor (TX6 k).2.2.1 = some (tyX6 k) := by decide +kernel
abbrev cX6_init : ByteArray := prog_8_method_1_code
def yX6_init : MethodName := ⟨RX6, "<init>", "()V"⟩
def RX7 : String := "HiddenBids"
def TX7 : u_T := fun k => match k with
  | 0 => ("HiddenBids", "history", "LHiddenBids$History;", true)
  | 1 => ("HiddenBids", "snapshot", "LHiddenBids$State;", true)
  | 2 => ("HiddenBids", "text", "LHiddenBids$Text;", true)
  | 3 => ("HiddenBids", "outcome", "LHiddenBids$Outcome;", true)
  | 4 => ("HiddenBids", "adviser", "LHiddenBids$Adviser;", true)
  | 5 => ("HiddenBids", "state", "LHiddenBids$State;", false)
  | 6 => ("HiddenBids", "draft", "LHiddenBids$State;", false)
  | _ => ("HiddenBids", "hasSnapshot", "Z", false)
def tyX7 : Nat → FieldType := fun k => match k with
  | 0 => .object "HiddenBids$History"
  | 1 => .object "HiddenBids$State"
  | 2 => .object "HiddenBids$Text"
  | 3 => .object "HiddenBids$Outcome"
  | 4 => .object "HiddenBids$Adviser"
  | 5 => .object "HiddenBids$State"
  | 6 => .object "HiddenBids$State"
  | _ => .boolean
abbrev wsX70 : List Cond := u_ws RX7 TX7 8
theorem nmX7 : ∀ a, a < 8 → ∀ b, b < 8 → a ≠ b → (TX7 a).2.1 ≠ (TX7 b).2.1 := by decide +kernel
theorem tyX7_ok : ∀ k, k < 8 → parseFieldDescriptor (TX7 k).2.2.1 = some (tyX7 k) := by decide +kernel
abbrev cX7_init : ByteArray := prog_1_method_1_code
def yX7_init : MethodName := ⟨RX7, "<init>", "()V"⟩
abbrev cX7_begin : ByteArray := prog_1_method_2_code
def yX7_begin : MethodName := ⟨RX7, "begin", "(II)I"⟩
abbrev cX7_lot : ByteArray := prog_1_method_3_code
def yX7_lot : MethodName := ⟨RX7, "lot", "(I)I"⟩
abbrev cX7_bid : ByteArray := prog_1_method_4_code
def yX7_bid : MethodName := ⟨RX7, "bid", "(II)I"⟩
abbrev cX7_resolve : ByteArray := prog_1_method_5_code
def yX7_resolve : MethodName := ⟨RX7, "resolve", "()I"⟩
abbrev cX7_set : ByteArray := prog_1_method_6_code
def yX7_set : MethodName := ⟨RX7, "set", "(II)I"⟩
abbrev cX7_playerOf : ByteArray := prog_1_method_7_code
def yX7_playerOf : MethodName := ⟨RX7, "playerOf", "(II)I"⟩
abbrev cX7_lotOf : ByteArray := prog_1_method_8_code
def yX7_lotOf : MethodName := ⟨RX7, "lotOf", "(II)I"⟩
abbrev cX7_roundOf : ByteArray := prog_1_method_9_code
def yX7_roundOf : MethodName := ⟨RX7, "roundOf", "(II)I"⟩
abbrev cX7_record : ByteArray := prog_1_method_10_code
def yX7_record : MethodName := ⟨RX7, "record", "(II)I"⟩
abbrev cX7_count : ByteArray := prog_1_method_11_code
def yX7_count : MethodName := ⟨RX7, "count", "(I)I"⟩
abbrev cX7_winner : ByteArray := prog_1_method_12_code
def yX7_winner : MethodName := ⟨RX7, "winner", "()I"⟩
abbrev cX7_freshDraft : ByteArray := prog_1_method_25_code
def yX7_freshDraft : MethodName := ⟨RX7, "freshDraft", "()LHiddenBids$State;"⟩
abbrev cX7_adopt : ByteArray := prog_1_method_26_code
def yX7_adopt : MethodName := ⟨RX7, "adopt", "(I)I"⟩
abbrev cX7_isError : ByteArray := prog_1_method_27_code
def yX7_isError : MethodName := ⟨RX7, "isError", "(I)Z"⟩
def RX8 : String := "HiddenBidsModel"
def TX8 : u_T := fun k => match k with
  | _ => ("", "", "", false)
def tyX8 : Nat → FieldType := fun k => match k with
  | _ => .int
abbrev wsX80 : List Cond := u_ws RX8 TX8 0
theorem nmX8 : ∀ a, a < 0 → ∀ b, b < 0 → a ≠ b → (TX8 a).2.1 ≠ (TX8 b).2.1 := by decide +kernel
theorem tyX8_ok : ∀ k, k < 0 → parseFieldDescriptor (TX8 k).2.2.1 = some (tyX8 k) := by decide +kernel
def RJ9 : String := "java/lang/Math"
def TJ9 : u_T := fun k => match k with
  | _ => ("", "", "", false)
def tyJ9 : Nat → FieldType := fun k => match k with
  | _ => .int
theorem nmJ9 : ∀ a, a < 0 → ∀ b, b < 0 → a ≠ b → (TJ9 a).2.1 ≠ (TJ9 b).2.1 := by decide +kernel
theorem tyJ9_ok : ∀ k, k < 0 → parseFieldDescriptor (TJ9 k).2.2.1 = some (tyJ9 k) := by decide +kernel
abbrev cJ9_min_7cf53 : ByteArray := prog_11_method_69_code
def yJ9_min_7cf53 : MethodName := ⟨RJ9, "min", "(II)I"⟩
def RJ10 : String := "java/lang/System"
def TJ10 : u_T := fun k => match k with
  | _ => ("", "", "", false)
def tyJ10 : Nat → FieldType := fun k => match k with
  | _ => .int
theorem nmJ10 : ∀ a, a < 0 → ∀ b, b < 0 → a ≠ b → (TJ10 a).2.1 ≠ (TJ10 b).2.1 := by decide +kernel
theorem tyJ10_ok : ∀ k, k < 0 → parseFieldDescriptor (TJ10 k).2.2.1 = some (tyJ10 k) := by decide +kernel
def RL : String := "HiddenBidsLaw"
abbrev cL_cell : ByteArray := method_2_code
def yL_cell : MethodName := ⟨RL, "cell", "([II)I"⟩
abbrev cL_low : ByteArray := method_3_code
def yL_low : MethodName := ⟨RL, "low", "(II)I"⟩
abbrev cL_sum : ByteArray := method_4_code
def yL_sum : MethodName := ⟨RL, "sum", "([II)I"⟩
abbrev cL_bids : ByteArray := method_5_code
def yL_bids : MethodName := ⟨RL, "bids", "([I[I)I"⟩
abbrev cL_less : ByteArray := method_6_code
def yL_less : MethodName := ⟨RL, "less", "(II)I"⟩
abbrev cL_pair : ByteArray := method_7_code
def yL_pair : MethodName := ⟨RL, "pair", "([I[JIIZ)V"⟩
abbrev cL_resolve : ByteArray := method_8_code
def yL_resolve : MethodName := ⟨RL, "resolve", "([I[I[I[I[I[I[J)I"⟩
abbrev cL_acts : ByteArray := method_9_code
def yL_acts : MethodName := ⟨RL, "acts", "(LHiddenBids;[I[I[I[I[I[I[JI)Z"⟩
abbrev cL_areRounds : ByteArray := method_10_code
def yL_areRounds : MethodName := ⟨RL, "areRounds", "(LHiddenBids;[I[I[I[J)Z"⟩
abbrev cL_isSo : ByteArray := method_11_code
def yL_isSo : MethodName := ⟨RL, "isSo", "(LHiddenBids;[I[I[I[I[I[I[J)Z"⟩
abbrev cL_law : ByteArray := code
def yL_law : MethodName := ⟨RL, "law", "([I)Z"⟩
abbrev vwCl : List vw_C := [(RX0, TX0, 2), (RX1, TX1, 2), (RX2, TX2, 6), (RX3, TX3, 5), (RX4, TX4, 3), (RX5, TX5, 17), (RX6, TX6, 10), (RX7, TX7, 8)]
