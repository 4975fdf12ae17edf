-- ===== PART A: goes FIRST, ahead of the names: the tables' words, and 'selects' of the private methods out of them =====
/-- a private method of a class that the tables say can be made, by its rows of tables_1 -/
def lw_okq (q : MethodName × Nat) : Prop := (q.1.cls ≠ "java/lang/invoke/MethodHandle" ∧ q.1.cls ≠ "java/lang/invoke/VarHandle") ∧ Cond.instantiable q.1.cls q.2 ∈ tables_1 ∧ Cond.privateMethod q.1 ∈ tables_1 ∧ Cond.instanceMethod q.1 ∈ tables_1
theorem lw_p0 : lw_okq (⟨"HiddenBids", "freshDraft", "()LHiddenBids$State;"⟩, 8) := ⟨⟨by decide +kernel, by decide +kernel⟩, List.mem_of_getElem? (i := 13) (by decide +kernel), List.mem_of_getElem? (i := 290) (by decide +kernel), List.mem_of_getElem? (i := 291) (by decide +kernel)⟩
theorem lw_p1 : lw_okq (⟨"HiddenBids", "adopt", "(I)I"⟩, 8) := ⟨⟨by decide +kernel, by decide +kernel⟩, List.mem_of_getElem? (i := 13) (by decide +kernel), List.mem_of_getElem? (i := 309) (by decide +kernel), List.mem_of_getElem? (i := 310) (by decide +kernel)⟩
theorem lw_p2 : lw_okq (⟨"HiddenBidsModel", "begins", "(II)V"⟩, 22) := ⟨⟨by decide +kernel, by decide +kernel⟩, List.mem_of_getElem? (i := 620) (by decide +kernel), List.mem_of_getElem? (i := 626) (by decide +kernel), List.mem_of_getElem? (i := 627) (by decide +kernel)⟩
theorem lw_p3 : lw_okq (⟨"HiddenBidsModel", "changes", "()V"⟩, 22) := ⟨⟨by decide +kernel, by decide +kernel⟩, List.mem_of_getElem? (i := 620) (by decide +kernel), List.mem_of_getElem? (i := 705) (by decide +kernel), List.mem_of_getElem? (i := 706) (by decide +kernel)⟩
theorem lw_p4 : lw_okq (⟨"HiddenBidsModel", "isPlayer", "(I)Z"⟩, 22) := ⟨⟨by decide +kernel, by decide +kernel⟩, List.mem_of_getElem? (i := 620) (by decide +kernel), List.mem_of_getElem? (i := 718) (by decide +kernel), List.mem_of_getElem? (i := 719) (by decide +kernel)⟩
theorem lw_p5 : lw_okq (⟨"HiddenBidsModel", "of", "(II)I"⟩, 22) := ⟨⟨by decide +kernel, by decide +kernel⟩, List.mem_of_getElem? (i := 620) (by decide +kernel), List.mem_of_getElem? (i := 722) (by decide +kernel), List.mem_of_getElem? (i := 723) (by decide +kernel)⟩
theorem lw_p6 : lw_okq (⟨"HiddenBidsModel", "bids", "()I"⟩, 22) := ⟨⟨by decide +kernel, by decide +kernel⟩, List.mem_of_getElem? (i := 620) (by decide +kernel), List.mem_of_getElem? (i := 727) (by decide +kernel), List.mem_of_getElem? (i := 728) (by decide +kernel)⟩
theorem lw_p7 : lw_okq (⟨"HiddenBidsModel", "resolves", "()I"⟩, 22) := ⟨⟨by decide +kernel, by decide +kernel⟩, List.mem_of_getElem? (i := 620) (by decide +kernel), List.mem_of_getElem? (i := 735) (by decide +kernel), List.mem_of_getElem? (i := 736) (by decide +kernel)⟩
theorem lw_p8 : lw_okq (⟨"HiddenBidsModel", "greatest", "()I"⟩, 22) := ⟨⟨by decide +kernel, by decide +kernel⟩, List.mem_of_getElem? (i := 620) (by decide +kernel), List.mem_of_getElem? (i := 739) (by decide +kernel), List.mem_of_getElem? (i := 740) (by decide +kernel)⟩
theorem lw_p9 : lw_okq (⟨"HiddenBidsModel", "onTable", "()I"⟩, 22) := ⟨⟨by decide +kernel, by decide +kernel⟩, List.mem_of_getElem? (i := 620) (by decide +kernel), List.mem_of_getElem? (i := 743) (by decide +kernel), List.mem_of_getElem? (i := 744) (by decide +kernel)⟩
theorem lw_p10 : lw_okq (⟨"HiddenBidsModel", "lays", "()V"⟩, 22) := ⟨⟨by decide +kernel, by decide +kernel⟩, List.mem_of_getElem? (i := 620) (by decide +kernel), List.mem_of_getElem? (i := 747) (by decide +kernel), List.mem_of_getElem? (i := 748) (by decide +kernel)⟩
theorem lw_p11 : lw_okq (⟨"HiddenBidsModel", "keeps", "(IIII)V"⟩, 22) := ⟨⟨by decide +kernel, by decide +kernel⟩, List.mem_of_getElem? (i := 620) (by decide +kernel), List.mem_of_getElem? (i := 751) (by decide +kernel), List.mem_of_getElem? (i := 752) (by decide +kernel)⟩
theorem lw_p12 : lw_okq (⟨"HiddenBidsModel", "notes", "(IZ)V"⟩, 22) := ⟨⟨by decide +kernel, by decide +kernel⟩, List.mem_of_getElem? (i := 620) (by decide +kernel), List.mem_of_getElem? (i := 758) (by decide +kernel), List.mem_of_getElem? (i := 759) (by decide +kernel)⟩
theorem lw_p13 : lw_okq (⟨"HiddenBidsModel", "pays", "(II)V"⟩, 22) := ⟨⟨by decide +kernel, by decide +kernel⟩, List.mem_of_getElem? (i := 620) (by decide +kernel), List.mem_of_getElem? (i := 762) (by decide +kernel), List.mem_of_getElem? (i := 763) (by decide +kernel)⟩
theorem lw_p14 : lw_okq (⟨"HiddenBidsModel", "shares", "(I)V"⟩, 22) := ⟨⟨by decide +kernel, by decide +kernel⟩, List.mem_of_getElem? (i := 620) (by decide +kernel), List.mem_of_getElem? (i := 766) (by decide +kernel), List.mem_of_getElem? (i := 767) (by decide +kernel)⟩
theorem lw_p15 : lw_okq (⟨"HiddenBidsModel", "coinsAll", "()I"⟩, 22) := ⟨⟨by decide +kernel, by decide +kernel⟩, List.mem_of_getElem? (i := 620) (by decide +kernel), List.mem_of_getElem? (i := 795) (by decide +kernel), List.mem_of_getElem? (i := 796) (by decide +kernel)⟩
def lw_privs_1 : List (MethodName × Nat) := [(⟨"HiddenBids", "freshDraft", "()LHiddenBids$State;"⟩, 8), (⟨"HiddenBids", "adopt", "(I)I"⟩, 8), (⟨"HiddenBidsModel", "begins", "(II)V"⟩, 22), (⟨"HiddenBidsModel", "changes", "()V"⟩, 22), (⟨"HiddenBidsModel", "isPlayer", "(I)Z"⟩, 22), (⟨"HiddenBidsModel", "of", "(II)I"⟩, 22), (⟨"HiddenBidsModel", "bids", "()I"⟩, 22), (⟨"HiddenBidsModel", "resolves", "()I"⟩, 22), (⟨"HiddenBidsModel", "greatest", "()I"⟩, 22), (⟨"HiddenBidsModel", "onTable", "()I"⟩, 22), (⟨"HiddenBidsModel", "lays", "()V"⟩, 22), (⟨"HiddenBidsModel", "keeps", "(IIII)V"⟩, 22), (⟨"HiddenBidsModel", "notes", "(IZ)V"⟩, 22), (⟨"HiddenBidsModel", "pays", "(II)V"⟩, 22), (⟨"HiddenBidsModel", "shares", "(I)V"⟩, 22), (⟨"HiddenBidsModel", "coinsAll", "()I"⟩, 22)]
theorem lw_r1 : ∀ q ∈ lw_privs_1, lw_okq q := List.forall_mem_cons.mpr ⟨lw_p0, List.forall_mem_cons.mpr ⟨lw_p1, List.forall_mem_cons.mpr ⟨lw_p2, List.forall_mem_cons.mpr ⟨lw_p3, List.forall_mem_cons.mpr ⟨lw_p4, List.forall_mem_cons.mpr ⟨lw_p5, List.forall_mem_cons.mpr ⟨lw_p6, List.forall_mem_cons.mpr ⟨lw_p7, List.forall_mem_cons.mpr ⟨lw_p8, List.forall_mem_cons.mpr ⟨lw_p9, List.forall_mem_cons.mpr ⟨lw_p10, List.forall_mem_cons.mpr ⟨lw_p11, List.forall_mem_cons.mpr ⟨lw_p12, List.forall_mem_cons.mpr ⟨lw_p13, List.forall_mem_cons.mpr ⟨lw_p14, List.forall_mem_cons.mpr ⟨lw_p15, fun _ h => absurd h List.not_mem_nil⟩⟩⟩⟩⟩⟩⟩⟩⟩⟩⟩⟩⟩⟩⟩⟩
theorem lw_p16 : lw_okq (⟨"HiddenBidsModel", "looks", "(II)Z"⟩, 22) := ⟨⟨by decide +kernel, by decide +kernel⟩, List.mem_of_getElem? (i := 620) (by decide +kernel), List.mem_of_getElem? (i := 818) (by decide +kernel), List.mem_of_getElem? (i := 819) (by decide +kernel)⟩
theorem lw_p17 : lw_okq (⟨"HiddenBidsModel", "holdsOne", "(IIIIII)I"⟩, 22) := ⟨⟨by decide +kernel, by decide +kernel⟩, List.mem_of_getElem? (i := 620) (by decide +kernel), List.mem_of_getElem? (i := 822) (by decide +kernel), List.mem_of_getElem? (i := 823) (by decide +kernel)⟩
theorem lw_p18 : lw_okq (⟨"HiddenBidsModel", "tries", "(IIIIIII)V"⟩, 22) := ⟨⟨by decide +kernel, by decide +kernel⟩, List.mem_of_getElem? (i := 620) (by decide +kernel), List.mem_of_getElem? (i := 826) (by decide +kernel), List.mem_of_getElem? (i := 827) (by decide +kernel)⟩
theorem lw_p19 : lw_okq (⟨"HiddenBidsModel", "holdsTwo", "(III)I"⟩, 22) := ⟨⟨by decide +kernel, by decide +kernel⟩, List.mem_of_getElem? (i := 620) (by decide +kernel), List.mem_of_getElem? (i := 830) (by decide +kernel), List.mem_of_getElem? (i := 831) (by decide +kernel)⟩
theorem lw_p20 : lw_okq (⟨"HiddenBidsModel", "plays", "()I"⟩, 22) := ⟨⟨by decide +kernel, by decide +kernel⟩, List.mem_of_getElem? (i := 620) (by decide +kernel), List.mem_of_getElem? (i := 866) (by decide +kernel), List.mem_of_getElem? (i := 867) (by decide +kernel)⟩
theorem lw_p21 : lw_okq (⟨"HiddenBidsModel", "reads", "()Z"⟩, 22) := ⟨⟨by decide +kernel, by decide +kernel⟩, List.mem_of_getElem? (i := 620) (by decide +kernel), List.mem_of_getElem? (i := 870) (by decide +kernel), List.mem_of_getElem? (i := 871) (by decide +kernel)⟩
theorem lw_p22 : lw_okq (⟨"HiddenBidsModel", "number", "(IZ)Z"⟩, 22) := ⟨⟨by decide +kernel, by decide +kernel⟩, List.mem_of_getElem? (i := 620) (by decide +kernel), List.mem_of_getElem? (i := 874) (by decide +kernel), List.mem_of_getElem? (i := 875) (by decide +kernel)⟩
theorem lw_p23 : lw_okq (⟨"HiddenBidsModel", "sign", "(I)Z"⟩, 22) := ⟨⟨by decide +kernel, by decide +kernel⟩, List.mem_of_getElem? (i := 620) (by decide +kernel), List.mem_of_getElem? (i := 878) (by decide +kernel), List.mem_of_getElem? (i := 879) (by decide +kernel)⟩
theorem lw_p24 : lw_okq (⟨"HiddenBidsModel", "isAt", "(II)Z"⟩, 22) := ⟨⟨by decide +kernel, by decide +kernel⟩, List.mem_of_getElem? (i := 620) (by decide +kernel), List.mem_of_getElem? (i := 882) (by decide +kernel), List.mem_of_getElem? (i := 883) (by decide +kernel)⟩
theorem lw_p25 : lw_okq (⟨"HiddenBidsModel", "calls", "()I"⟩, 22) := ⟨⟨by decide +kernel, by decide +kernel⟩, List.mem_of_getElem? (i := 620) (by decide +kernel), List.mem_of_getElem? (i := 886) (by decide +kernel), List.mem_of_getElem? (i := 887) (by decide +kernel)⟩
def lw_privs_2 : List (MethodName × Nat) := [(⟨"HiddenBidsModel", "looks", "(II)Z"⟩, 22), (⟨"HiddenBidsModel", "holdsOne", "(IIIIII)I"⟩, 22), (⟨"HiddenBidsModel", "tries", "(IIIIIII)V"⟩, 22), (⟨"HiddenBidsModel", "holdsTwo", "(III)I"⟩, 22), (⟨"HiddenBidsModel", "plays", "()I"⟩, 22), (⟨"HiddenBidsModel", "reads", "()Z"⟩, 22), (⟨"HiddenBidsModel", "number", "(IZ)Z"⟩, 22), (⟨"HiddenBidsModel", "sign", "(I)Z"⟩, 22), (⟨"HiddenBidsModel", "isAt", "(II)Z"⟩, 22), (⟨"HiddenBidsModel", "calls", "()I"⟩, 22)]
theorem lw_r2 : ∀ q ∈ lw_privs_2, lw_okq q := List.forall_mem_cons.mpr ⟨lw_p16, List.forall_mem_cons.mpr ⟨lw_p17, List.forall_mem_cons.mpr ⟨lw_p18, List.forall_mem_cons.mpr ⟨lw_p19, List.forall_mem_cons.mpr ⟨lw_p20, List.forall_mem_cons.mpr ⟨lw_p21, List.forall_mem_cons.mpr ⟨lw_p22, List.forall_mem_cons.mpr ⟨lw_p23, List.forall_mem_cons.mpr ⟨lw_p24, List.forall_mem_cons.mpr ⟨lw_p25, fun _ h => absurd h List.not_mem_nil⟩⟩⟩⟩⟩⟩⟩⟩⟩⟩
def lw_privs : List (MethodName × Nat) := lw_privs_1 ++ (lw_privs_2)
def lw_tbl : List Cond := k2_sels lw_privs ++ tables_1
theorem lw_privs_ok : ∀ q ∈ lw_privs, lw_okq q := by
  show ∀ q ∈ lw_privs_1 ++ (lw_privs_2), lw_okq q
  exact List.forall_mem_append.mpr ⟨lw_r1, lw_r2⟩
-- ===== end of PART A; then your names; then what follows =====
def RX0 : String := "HiddenBids$Adviser"
def TX0 : u_T := fun k => match k with
  | 0 => ("HiddenBids$Adviser", "outcome", "LHiddenBids$Outcome;", true)
  | _ => ("HiddenBids$Adviser", "trial", "[I", true)
def tyX0 : Nat → FieldType := fun k => match k with
  | 0 => .object "HiddenBids$Outcome"
  | _ => .array .int
abbrev wsX00 : List Cond := u_ws RX0 TX0 2
theorem nmX0 : ∀ a, a < 2 → ∀ b, b < 2 → a ≠ b → (TX0 a).2.1 ≠ (TX0 b).2.1 := by decide +kernel
theorem tyX0_ok : ∀ k, k < 2 → parseFieldDescriptor (TX0 k).2.2.1 = some (tyX0 k) := by decide +kernel
abbrev cX0_init : ByteArray := prog_2_method_1_code
def yX0_init : MethodName := ⟨RX0, "<init>", "()V"⟩
abbrev cX0_bestReply : ByteArray := prog_2_method_2_code
def yX0_bestReply : MethodName := ⟨RX0, "bestReply", "(LHiddenBids$State;I)I"⟩
abbrev cX0_bestOpenBid : ByteArray := prog_2_method_3_code
def yX0_bestOpenBid : MethodName := ⟨RX0, "bestOpenBid", "(LHiddenBids$State;II)I"⟩
abbrev cX0_gainByOpenBid : ByteArray := prog_2_method_4_code
def yX0_gainByOpenBid : MethodName := ⟨RX0, "gainByOpenBid", "(LHiddenBids$State;III)I"⟩
abbrev cX0_leastGain : ByteArray := prog_2_method_5_code
def yX0_leastGain : MethodName := ⟨RX0, "leastGain", "(LHiddenBids$State;IIII)I"⟩
abbrev cX0_gainOfTrial : ByteArray := prog_2_method_6_code
def yX0_gainOfTrial : MethodName := ⟨RX0, "gainOfTrial", "(LHiddenBids$State;III)I"⟩
abbrev cX0_gainInLastRound : ByteArray := prog_2_method_7_code
def yX0_gainInLastRound : MethodName := ⟨RX0, "gainInLastRound", "(III)I"⟩
def RX1 : String := "HiddenBids$History"
def TX1 : u_T := fun k => match k with
  | 0 => ("HiddenBids$History", "states", "[LHiddenBids$State;", true)
  | _ => ("HiddenBids$History", "size", "I", false)
def tyX1 : Nat → FieldType := fun k => match k with
  | 0 => .array (.object "HiddenBids$State")
  | _ => .int
abbrev wsX10 : List Cond := u_ws RX1 TX1 2
theorem nmX1 : ∀ a, a < 2 → ∀ b, b < 2 → a ≠ b → (TX1 a).2.1 ≠ (TX1 b).2.1 := by decide +kernel
theorem tyX1_ok : ∀ k, k < 2 → parseFieldDescriptor (TX1 k).2.2.1 = some (tyX1 k) := by decide +kernel
abbrev cX1_init : ByteArray := prog_3_method_1_code
def yX1_init : MethodName := ⟨RX1, "<init>", "()V"⟩
abbrev cX1_add : ByteArray := prog_3_method_2_code
def yX1_add : MethodName := ⟨RX1, "add", "(LHiddenBids$State;)LHiddenBids$State;"⟩
abbrev cX1_takeLatest : ByteArray := prog_3_method_3_code
def yX1_takeLatest : MethodName := ⟨RX1, "takeLatest", "(LHiddenBids$State;)LHiddenBids$State;"⟩
def RX2 : String := "HiddenBids$Outcome"
def TX2 : u_T := fun k => match k with
  | 0 => ("HiddenBids$Outcome", "winner", "I", false)
  | 1 => ("HiddenBids$Outcome", "greatest", "I", false)
  | 2 => ("HiddenBids$Outcome", "leaders", "I", false)
  | 3 => ("HiddenBids$Outcome", "pot", "I", false)
  | 4 => ("HiddenBids$Outcome", "paid", "[I", true)
  | _ => ("HiddenBids$Outcome", "got", "[I", true)
def tyX2 : Nat → FieldType := fun k => match k with
  | 0 => .int
  | 1 => .int
  | 2 => .int
  | 3 => .int
  | 4 => .array .int
  | _ => .array .int
abbrev wsX20 : List Cond := u_ws RX2 TX2 6
theorem nmX2 : ∀ a, a < 6 → ∀ b, b < 6 → a ≠ b → (TX2 a).2.1 ≠ (TX2 b).2.1 := by decide +kernel
theorem tyX2_ok : ∀ k, k < 6 → parseFieldDescriptor (TX2 k).2.2.1 = some (tyX2 k) := by decide +kernel
abbrev cX2_init : ByteArray := prog_4_method_1_code
def yX2_init : MethodName := ⟨RX2, "<init>", "()V"⟩
abbrev cX2_work : ByteArray := prog_4_method_2_code
def yX2_work : MethodName := ⟨RX2, "work", "(LHiddenBids$State;[I)V"⟩
abbrev cX2_findWinner : ByteArray := prog_4_method_3_code
def yX2_findWinner : MethodName := ⟨RX2, "findWinner", "(I[I)V"⟩
abbrev cX2_payment : ByteArray := prog_4_method_4_code
def yX2_payment : MethodName := ⟨RX2, "payment", "([III)I"⟩
abbrev cX2_sharePot : ByteArray := prog_4_method_5_code
def yX2_sharePot : MethodName := ⟨RX2, "sharePot", "(I)V"⟩
abbrev cX2_coinsBehind : ByteArray := prog_4_method_6_code
def yX2_coinsBehind : MethodName := ⟨RX2, "coinsBehind", "(LHiddenBids$State;I)I"⟩
def RX3 : String := "HiddenBids$PairList"
def TX3 : u_T := fun k => match k with
  | 0 => ("HiddenBids$PairList", "players", "[I", true)
  | 1 => ("HiddenBids$PairList", "bids", "[I", true)
  | 2 => ("HiddenBids$PairList", "times", "[I", true)
  | 3 => ("HiddenBids$PairList", "wins", "[I", true)
  | _ => ("HiddenBids$PairList", "size", "I", false)
def tyX3 : Nat → FieldType := fun k => match k with
  | 0 => .array .int
  | 1 => .array .int
  | 2 => .array .int
  | 3 => .array .int
  | _ => .int
abbrev wsX30 : List Cond := u_ws RX3 TX3 5
theorem nmX3 : ∀ a, a < 5 → ∀ b, b < 5 → a ≠ b → (TX3 a).2.1 ≠ (TX3 b).2.1 := by decide +kernel
theorem tyX3_ok : ∀ k, k < 5 → parseFieldDescriptor (TX3 k).2.2.1 = some (tyX3 k) := by decide +kernel
abbrev cX3_init : ByteArray := prog_5_method_1_code
def yX3_init : MethodName := ⟨RX3, "<init>", "()V"⟩
abbrev cX3_empty : ByteArray := prog_5_method_2_code
def yX3_empty : MethodName := ⟨RX3, "empty", "()V"⟩
abbrev cX3_copyFrom : ByteArray := prog_5_method_3_code
def yX3_copyFrom : MethodName := ⟨RX3, "copyFrom", "(LHiddenBids$PairList;)V"⟩
abbrev cX3_note : ByteArray := prog_5_method_4_code
def yX3_note : MethodName := ⟨RX3, "note", "(IIZ)V"⟩
abbrev cX3_indexOf : ByteArray := prog_5_method_5_code
def yX3_indexOf : MethodName := ⟨RX3, "indexOf", "(II)I"⟩
abbrev cX3_numberOfPair : ByteArray := prog_5_method_6_code
def yX3_numberOfPair : MethodName := ⟨RX3, "numberOfPair", "(II)I"⟩
def RX4 : String := "HiddenBids$RoundLog"
def TX4 : u_T := fun k => match k with
  | 0 => ("HiddenBids$RoundLog", "numbers", "[I", true)
  | 1 => ("HiddenBids$RoundLog", "size", "I", false)
  | _ => ("HiddenBids$RoundLog", "latest", "I", false)
def tyX4 : Nat → FieldType := fun k => match k with
  | 0 => .array .int
  | 1 => .int
  | _ => .int
abbrev wsX40 : List Cond := u_ws RX4 TX4 3
theorem nmX4 : ∀ a, a < 3 → ∀ b, b < 3 → a ≠ b → (TX4 a).2.1 ≠ (TX4 b).2.1 := by decide +kernel
theorem tyX4_ok : ∀ k, k < 3 → parseFieldDescriptor (TX4 k).2.2.1 = some (tyX4 k) := by decide +kernel
abbrev cX4_init : ByteArray := prog_6_method_1_code
def yX4_init : MethodName := ⟨RX4, "<init>", "()V"⟩
abbrev cX4_empty : ByteArray := prog_6_method_2_code
def yX4_empty : MethodName := ⟨RX4, "empty", "()V"⟩
abbrev cX4_copyFrom : ByteArray := prog_6_method_3_code
def yX4_copyFrom : MethodName := ⟨RX4, "copyFrom", "(LHiddenBids$RoundLog;)V"⟩
abbrev cX4_add : ByteArray := prog_6_method_4_code
def yX4_add : MethodName := ⟨RX4, "add", "(LHiddenBids$Outcome;I[I)V"⟩
abbrev cX4_numberOfRound : ByteArray := prog_6_method_5_code
def yX4_numberOfRound : MethodName := ⟨RX4, "numberOfRound", "(III)I"⟩
abbrev cX4_columnOf : ByteArray := prog_6_method_6_code
def yX4_columnOf : MethodName := ⟨RX4, "columnOf", "(II)I"⟩
def RX5 : String := "HiddenBids$State"
def TX5 : u_T := fun k => match k with
  | 0 => ("HiddenBids$State", "players", "I", false)
  | 1 => ("HiddenBids$State", "pot", "I", false)
  | 2 => ("HiddenBids$State", "rounds", "I", false)
  | 3 => ("HiddenBids$State", "openRounds", "I", false)
  | 4 => ("HiddenBids$State", "tableSize", "I", false)
  | 5 => ("HiddenBids$State", "tableSum", "I", false)
  | 6 => ("HiddenBids$State", "rowSize", "I", false)
  | 7 => ("HiddenBids$State", "coins", "[I", true)
  | 8 => ("HiddenBids$State", "points", "[I", true)
  | 9 => ("HiddenBids$State", "bids", "[I", true)
  | 10 => ("HiddenBids$State", "won", "[I", true)
  | 11 => ("HiddenBids$State", "paid", "[I", true)
  | 12 => ("HiddenBids$State", "got", "[I", true)
  | 13 => ("HiddenBids$State", "settings", "[I", true)
  | 14 => ("HiddenBids$State", "lots", "[I", true)
  | 15 => ("HiddenBids$State", "log", "LHiddenBids$RoundLog;", true)
  | _ => ("HiddenBids$State", "pairs", "LHiddenBids$PairList;", true)
def tyX5 : Nat → FieldType := fun k => match k with
  | 0 => .int
  | 1 => .int
  | 2 => .int
  | 3 => .int
  | 4 => .int
  | 5 => .int
  | 6 => .int
  | 7 => .array .int
  | 8 => .array .int
  | 9 => .array .int
  | 10 => .array .int
  | 11 => .array .int
  | 12 => .array .int
  | 13 => .array .int
  | 14 => .array .int
  | 15 => .object "HiddenBids$RoundLog"
  | _ => .object "HiddenBids$PairList"
abbrev wsX50 : List Cond := u_ws RX5 TX5 17
theorem nmX5 : ∀ a, a < 17 → ∀ b, b < 17 → a ≠ b → (TX5 a).2.1 ≠ (TX5 b).2.1 := by decide +kernel
theorem tyX5_ok : ∀ k, k < 17 → parseFieldDescriptor (TX5 k).2.2.1 = some (tyX5 k) := by decide +kernel
abbrev cX5_init : ByteArray := prog_7_method_1_code
def yX5_init : MethodName := ⟨RX5, "<init>", "()V"⟩
abbrev cX5_copyFrom : ByteArray := prog_7_method_2_code
def yX5_copyFrom : MethodName := ⟨RX5, "copyFrom", "(LHiddenBids$State;)V"⟩
abbrev cX5_startGame : ByteArray := prog_7_method_3_code
def yX5_startGame : MethodName := ⟨RX5, "startGame", "(II)I"⟩
abbrev cX5_addLot : ByteArray := prog_7_method_4_code
def yX5_addLot : MethodName := ⟨RX5, "addLot", "(I)I"⟩
abbrev cX5_makeBid : ByteArray := prog_7_method_5_code
def yX5_makeBid : MethodName := ⟨RX5, "makeBid", "(II)I"⟩
abbrev cX5_changeSetting : ByteArray := prog_7_method_6_code
def yX5_changeSetting : MethodName := ⟨RX5, "changeSetting", "(II)I"⟩
abbrev cX5_settle : ByteArray := prog_7_method_7_code
def yX5_settle : MethodName := ⟨RX5, "settle", "(LHiddenBids$Outcome;)I"⟩
abbrev cX5_emptyTable : ByteArray := prog_7_method_8_code
def yX5_emptyTable : MethodName := ⟨RX5, "emptyTable", "()V"⟩
abbrev cX5_hasPlayer : ByteArray := prog_7_method_9_code
def yX5_hasPlayer : MethodName := ⟨RX5, "hasPlayer", "(I)Z"⟩
abbrev cX5_isOver : ByteArray := prog_7_method_10_code
def yX5_isOver : MethodName := ⟨RX5, "isOver", "()Z"⟩
abbrev cX5_nextStake : ByteArray := prog_7_method_11_code
def yX5_nextStake : MethodName := ⟨RX5, "nextStake", "()I"⟩
abbrev cX5_bidCount : ByteArray := prog_7_method_12_code
def yX5_bidCount : MethodName := ⟨RX5, "bidCount", "()I"⟩
abbrev cX5_othersHaveBids : ByteArray := prog_7_method_13_code
def yX5_othersHaveBids : MethodName := ⟨RX5, "othersHaveBids", "(I)Z"⟩
abbrev cX5_mostCoinsOfOthers : ByteArray := prog_7_method_14_code
def yX5_mostCoinsOfOthers : MethodName := ⟨RX5, "mostCoinsOfOthers", "(I)I"⟩
abbrev cX5_allCoins : ByteArray := prog_7_method_15_code
def yX5_allCoins : MethodName := ⟨RX5, "allCoins", "()I"⟩
abbrev cX5_leader : ByteArray := prog_7_method_16_code
def yX5_leader : MethodName := ⟨RX5, "leader", "()I"⟩
abbrev cX5_canLead : ByteArray := prog_7_method_17_code
def yX5_canLead : MethodName := ⟨RX5, "canLead", "(I)Z"⟩
abbrev cX5_numberOfPlayer : ByteArray := prog_7_method_18_code
def yX5_numberOfPlayer : MethodName := ⟨RX5, "numberOfPlayer", "(II)I"⟩
abbrev cX5_valueAt : ByteArray := prog_7_method_19_code
def yX5_valueAt : MethodName := ⟨RX5, "valueAt", "(II)I"⟩
abbrev cX5_number : ByteArray := prog_7_method_20_code
def yX5_number : MethodName := ⟨RX5, "number", "(I)I"⟩
def RX6 : String := "HiddenBids$Text"
def TX6 : u_T := fun k => match k with
  | 0 => ("HiddenBids$Text", "characters", "[I", true)
  | 1 => ("HiddenBids$Text", "length", "I", false)
  | 2 => ("HiddenBids$Text", "position", "I", false)
  | 3 => ("HiddenBids$Text", "reason", "I", false)
  | 4 => ("HiddenBids$Text", "cause", "I", false)
  | 5 => ("HiddenBids$Text", "commands", "I", false)
  | 6 => ("HiddenBids$Text", "next", "I", false)
  | 7 => ("HiddenBids$Text", "kind", "I", false)
  | 8 => ("HiddenBids$Text", "first", "I", false)
  | _ => ("HiddenBids$Text", "second", "I", false)
def tyX6 : Nat → FieldType := fun k => match k with
  | 0 => .array .int
  | 1 => .int
  | 2 => .int
  | 3 => .int
  | 4 => .int
  | 5 => .int
  | 6 => .int
  | 7 => .int
  | 8 => .int
  | _ => .int
abbrev wsX60 : List Cond := u_ws RX6 TX6 10
theorem nmX6 : ∀ a, a < 10 → ∀ b, b < 10 → a ≠ b → (TX6 a).2.1 ≠ (TX6 b).2.1 := by decide +kernel
theorem tyX6_ok : ∀ k, k < 10 → parseFieldDescriptor (TX6 k).2.2.1 = some (tyX6 k) := by decide +kernel
abbrev cX6_init : ByteArray := prog_8_method_1_code
def yX6_init : MethodName := ⟨RX6, "<init>", "()V"⟩
abbrev cX6_append : ByteArray := prog_8_method_2_code
def yX6_append : MethodName := ⟨RX6, "append", "(I)I"⟩
abbrev cX6_numberOfFault : ByteArray := prog_8_method_3_code
def yX6_numberOfFault : MethodName := ⟨RX6, "numberOfFault", "(I)I"⟩
abbrev cX6_perform : ByteArray := prog_8_method_4_code
def yX6_perform : MethodName := ⟨RX6, "perform", "(LHiddenBids$State;LHiddenBids$Outcome;)V"⟩
abbrev cX6_call : ByteArray := prog_8_method_5_code
def yX6_call : MethodName := ⟨RX6, "call", "(LHiddenBids$State;LHiddenBids$Outcome;)I"⟩
abbrev cX6_readCommand : ByteArray := prog_8_method_6_code
def yX6_readCommand : MethodName := ⟨RX6, "readCommand", "()Z"⟩
abbrev cX6_readValue : ByteArray := prog_8_method_7_code
def yX6_readValue : MethodName := ⟨RX6, "readValue", "()Z"⟩
abbrev cX6_readBid : ByteArray := prog_8_method_8_code
def yX6_readBid : MethodName := ⟨RX6, "readBid", "()Z"⟩
abbrev cX6_readNumber : ByteArray := prog_8_method_9_code
def yX6_readNumber : MethodName := ⟨RX6, "readNumber", "()I"⟩
abbrev cX6_passes : ByteArray := prog_8_method_10_code
def yX6_passes : MethodName := ⟨RX6, "passes", "(I)Z"⟩
abbrev cX6_digitAt : ByteArray := prog_8_method_11_code
def yX6_digitAt : MethodName := ⟨RX6, "digitAt", "(I)I"⟩
abbrev cX6_characterAt : ByteArray := prog_8_method_12_code
def yX6_characterAt : MethodName := ⟨RX6, "characterAt", "(I)I"⟩
def RX7 : String := "HiddenBids"
def TX7 : u_T := fun k => match k with
  | 0 => ("HiddenBids", "history", "LHiddenBids$History;", true)
  | 1 => ("HiddenBids", "snapshot", "LHiddenBids$State;", true)
  | 2 => ("HiddenBids", "text", "LHiddenBids$Text;", true)
  | 3 => ("HiddenBids", "outcome", "LHiddenBids$Outcome;", true)
  | 4 => ("HiddenBids", "adviser", "LHiddenBids$Adviser;", true)
  | 5 => ("HiddenBids", "state", "LHiddenBids$State;", false)
  | 6 => ("HiddenBids", "draft", "LHiddenBids$State;", false)
  | _ => ("HiddenBids", "hasSnapshot", "Z", false)
def tyX7 : Nat → FieldType := fun k => match k with
  | 0 => .object "HiddenBids$History"
  | 1 => .object "HiddenBids$State"
  | 2 => .object "HiddenBids$Text"
  | 3 => .object "HiddenBids$Outcome"
  | 4 => .object "HiddenBids$Adviser"
  | 5 => .object "HiddenBids$State"
  | 6 => .object "HiddenBids$State"
  | _ => .boolean
abbrev wsX70 : List Cond := u_ws RX7 TX7 8
theorem nmX7 : ∀ a, a < 8 → ∀ b, b < 8 → a ≠ b → (TX7 a).2.1 ≠ (TX7 b).2.1 := by decide +kernel
theorem tyX7_ok : ∀ k, k < 8 → parseFieldDescriptor (TX7 k).2.2.1 = some (tyX7 k) := by decide +kernel
abbrev cX7_init : ByteArray := prog_1_method_1_code
def yX7_init : MethodName := ⟨RX7, "<init>", "()V"⟩
abbrev cX7_begin : ByteArray := prog_1_method_2_code
def yX7_begin : MethodName := ⟨RX7, "begin", "(II)I"⟩
abbrev cX7_lot : ByteArray := prog_1_method_3_code
def yX7_lot : MethodName := ⟨RX7, "lot", "(I)I"⟩
abbrev cX7_bid : ByteArray := prog_1_method_4_code
def yX7_bid : MethodName := ⟨RX7, "bid", "(II)I"⟩
abbrev cX7_resolve : ByteArray := prog_1_method_5_code
def yX7_resolve : MethodName := ⟨RX7, "resolve", "()I"⟩
abbrev cX7_set : ByteArray := prog_1_method_6_code
def yX7_set : MethodName := ⟨RX7, "set", "(II)I"⟩
abbrev cX7_playerOf : ByteArray := prog_1_method_7_code
def yX7_playerOf : MethodName := ⟨RX7, "playerOf", "(II)I"⟩
abbrev cX7_lotOf : ByteArray := prog_1_method_8_code
def yX7_lotOf : MethodName := ⟨RX7, "lotOf", "(II)I"⟩
abbrev cX7_roundOf : ByteArray := prog_1_method_9_code
def yX7_roundOf : MethodName := ⟨RX7, "roundOf", "(II)I"⟩
abbrev cX7_record : ByteArray := prog_1_method_10_code
def yX7_record : MethodName := ⟨RX7, "record", "(II)I"⟩
abbrev cX7_count : ByteArray := prog_1_method_11_code
def yX7_count : MethodName := ⟨RX7, "count", "(I)I"⟩
abbrev cX7_winner : ByteArray := prog_1_method_12_code
def yX7_winner : MethodName := ⟨RX7, "winner", "()I"⟩
abbrev cX7_sure : ByteArray := prog_1_method_13_code
def yX7_sure : MethodName := ⟨RX7, "sure", "(I)I"⟩
abbrev cX7_reply : ByteArray := prog_1_method_14_code
def yX7_reply : MethodName := ⟨RX7, "reply", "(I)I"⟩
abbrev cX7_holds : ByteArray := prog_1_method_15_code
def yX7_holds : MethodName := ⟨RX7, "holds", "(II)I"⟩
abbrev cX7_holding : ByteArray := prog_1_method_16_code
def yX7_holding : MethodName := ⟨RX7, "holding", "(II)I"⟩
abbrev cX7_chance : ByteArray := prog_1_method_17_code
def yX7_chance : MethodName := ⟨RX7, "chance", "(I)I"⟩
abbrev cX7_keep : ByteArray := prog_1_method_18_code
def yX7_keep : MethodName := ⟨RX7, "keep", "()I"⟩
abbrev cX7_restore : ByteArray := prog_1_method_19_code
def yX7_restore : MethodName := ⟨RX7, "restore", "()I"⟩
abbrev cX7_undo : ByteArray := prog_1_method_20_code
def yX7_undo : MethodName := ⟨RX7, "undo", "()I"⟩
abbrev cX7_type : ByteArray := prog_1_method_21_code
def yX7_type : MethodName := ⟨RX7, "type", "(I)I"⟩
abbrev cX7_clearText : ByteArray := prog_1_method_22_code
def yX7_clearText : MethodName := ⟨RX7, "clearText", "()I"⟩
abbrev cX7_fault : ByteArray := prog_1_method_23_code
def yX7_fault : MethodName := ⟨RX7, "fault", "(I)I"⟩
abbrev cX7_play : ByteArray := prog_1_method_24_code
def yX7_play : MethodName := ⟨RX7, "play", "()I"⟩
abbrev cX7_freshDraft : ByteArray := prog_1_method_25_code
def yX7_freshDraft : MethodName := ⟨RX7, "freshDraft", "()LHiddenBids$State;"⟩
abbrev cX7_adopt : ByteArray := prog_1_method_26_code
def yX7_adopt : MethodName := ⟨RX7, "adopt", "(I)I"⟩
abbrev cX7_isError : ByteArray := prog_1_method_27_code
def yX7_isError : MethodName := ⟨RX7, "isError", "(I)Z"⟩
def RX8 : String := "HiddenBidsModel"
def TX8 : u_T := fun k => match k with
  | 0 => ("HiddenBidsModel", "s", "[I", true)
  | 1 => ("HiddenBidsModel", "past", "[I", true)
  | 2 => ("HiddenBidsModel", "held", "[I", true)
  | 3 => ("HiddenBidsModel", "tried", "[I", true)
  | 4 => ("HiddenBidsModel", "kept", "[I", true)
  | 5 => ("HiddenBidsModel", "isKept", "Z", false)
  | 6 => ("HiddenBidsModel", "pasts", "I", false)
  | 7 => ("HiddenBidsModel", "runs", "Z", false)
  | 8 => ("HiddenBidsModel", "text", "[I", true)
  | 9 => ("HiddenBidsModel", "typed", "I", false)
  | 10 => ("HiddenBidsModel", "ownThen", "I", false)
  | 11 => ("HiddenBidsModel", "otherThen", "I", false)
  | 12 => ("HiddenBidsModel", "aheadThen", "I", false)
  | 13 => ("HiddenBidsModel", "potThen", "I", false)
  | 14 => ("HiddenBidsModel", "tableThen", "I", false)
  | 15 => ("HiddenBidsModel", "bestBid", "I", false)
  | 16 => ("HiddenBidsModel", "heldNow", "I", false)
  | 17 => ("HiddenBidsModel", "spot", "I", false)
  | 18 => ("HiddenBidsModel", "cause", "I", false)
  | 19 => ("HiddenBidsModel", "commands", "I", false)
  | 20 => ("HiddenBidsModel", "order", "I", false)
  | _ => ("HiddenBidsModel", "told", "[I", true)
def tyX8 : Nat → FieldType := fun k => match k with
  | 0 => .array .int
  | 1 => .array .int
  | 2 => .array .int
  | 3 => .array .int
  | 4 => .array .int
  | 5 => .boolean
  | 6 => .int
  | 7 => .boolean
  | 8 => .array .int
  | 9 => .int
  | 10 => .int
  | 11 => .int
  | 12 => .int
  | 13 => .int
  | 14 => .int
  | 15 => .int
  | 16 => .int
  | 17 => .int
  | 18 => .int
  | 19 => .int
  | 20 => .int
  | _ => .array .int
abbrev wsX80 : List Cond := u_ws RX8 TX8 22
theorem nmX8 : ∀ a, a < 22 → ∀ b, b < 22 → a ≠ b → (TX8 a).2.1 ≠ (TX8 b).2.1 := by decide +kernel
theorem tyX8_ok : ∀ k, k < 22 → parseFieldDescriptor (TX8 k).2.2.1 = some (tyX8 k) := by decide +kernel
abbrev cX8_init : ByteArray := prog_10_method_1_code
def yX8_init : MethodName := ⟨RX8, "<init>", "()V"⟩
abbrev cX8_in : ByteArray := prog_10_method_3_code
def yX8_in : MethodName := ⟨RX8, "in", "(III)Z"⟩
abbrev cX8_copies : ByteArray := prog_10_method_4_code
def yX8_copies : MethodName := ⟨RX8, "copies", "([I[I)V"⟩
abbrev cX8_changes : ByteArray := prog_10_method_5_code
def yX8_changes : MethodName := ⟨RX8, "changes", "()V"⟩
abbrev cX8_isPlayer : ByteArray := prog_10_method_6_code
def yX8_isPlayer : MethodName := ⟨RX8, "isPlayer", "(I)Z"⟩
abbrev cX8_of : ByteArray := prog_10_method_7_code
def yX8_of : MethodName := ⟨RX8, "of", "(II)I"⟩
abbrev cX8_begins : ByteArray := prog_10_method_8_code
def yX8_begins : MethodName := ⟨RX8, "begins", "(II)V"⟩
abbrev cX8_begin : ByteArray := prog_10_method_9_code
def yX8_begin : MethodName := ⟨RX8, "begin", "(II)I"⟩
abbrev cX8_lot : ByteArray := prog_10_method_10_code
def yX8_lot : MethodName := ⟨RX8, "lot", "(I)I"⟩
abbrev cX8_bids : ByteArray := prog_10_method_11_code
def yX8_bids : MethodName := ⟨RX8, "bids", "()I"⟩
abbrev cX8_bid : ByteArray := prog_10_method_12_code
def yX8_bid : MethodName := ⟨RX8, "bid", "(II)I"⟩
abbrev cX8_onTable : ByteArray := prog_10_method_13_code
def yX8_onTable : MethodName := ⟨RX8, "onTable", "()I"⟩
abbrev cX8_greatest : ByteArray := prog_10_method_14_code
def yX8_greatest : MethodName := ⟨RX8, "greatest", "()I"⟩
abbrev cX8_lays : ByteArray := prog_10_method_15_code
def yX8_lays : MethodName := ⟨RX8, "lays", "()V"⟩
abbrev cX8_pays : ByteArray := prog_10_method_16_code
def yX8_pays : MethodName := ⟨RX8, "pays", "(II)V"⟩
abbrev cX8_least : ByteArray := prog_10_method_17_code
def yX8_least : MethodName := ⟨RX8, "least", "(II)I"⟩
abbrev cX8_notes : ByteArray := prog_10_method_18_code
def yX8_notes : MethodName := ⟨RX8, "notes", "(IZ)V"⟩
abbrev cX8_keeps : ByteArray := prog_10_method_19_code
def yX8_keeps : MethodName := ⟨RX8, "keeps", "(IIII)V"⟩
abbrev cX8_shares : ByteArray := prog_10_method_20_code
def yX8_shares : MethodName := ⟨RX8, "shares", "(I)V"⟩
abbrev cX8_resolves : ByteArray := prog_10_method_21_code
def yX8_resolves : MethodName := ⟨RX8, "resolves", "()I"⟩
abbrev cX8_resolve : ByteArray := prog_10_method_22_code
def yX8_resolve : MethodName := ⟨RX8, "resolve", "()I"⟩
abbrev cX8_set : ByteArray := prog_10_method_23_code
def yX8_set : MethodName := ⟨RX8, "set", "(II)I"⟩
abbrev cX8_playerOf : ByteArray := prog_10_method_24_code
def yX8_playerOf : MethodName := ⟨RX8, "playerOf", "(II)I"⟩
abbrev cX8_lotOf : ByteArray := prog_10_method_25_code
def yX8_lotOf : MethodName := ⟨RX8, "lotOf", "(II)I"⟩
abbrev cX8_roundOf : ByteArray := prog_10_method_26_code
def yX8_roundOf : MethodName := ⟨RX8, "roundOf", "(II)I"⟩
abbrev cX8_record : ByteArray := prog_10_method_27_code
def yX8_record : MethodName := ⟨RX8, "record", "(II)I"⟩
abbrev cX8_coinsAll : ByteArray := prog_10_method_28_code
def yX8_coinsAll : MethodName := ⟨RX8, "coinsAll", "()I"⟩
abbrev cX8_count : ByteArray := prog_10_method_29_code
def yX8_count : MethodName := ⟨RX8, "count", "(I)I"⟩
abbrev cX8_winner : ByteArray := prog_10_method_30_code
def yX8_winner : MethodName := ⟨RX8, "winner", "()I"⟩
abbrev cX8_sure : ByteArray := prog_10_method_31_code
def yX8_sure : MethodName := ⟨RX8, "sure", "(I)I"⟩
abbrev cX8_reply : ByteArray := prog_10_method_32_code
def yX8_reply : MethodName := ⟨RX8, "reply", "(I)I"⟩
abbrev cX8_tries : ByteArray := prog_10_method_33_code
def yX8_tries : MethodName := ⟨RX8, "tries", "(IIIIIII)V"⟩
abbrev cX8_holdsOne : ByteArray := prog_10_method_34_code
def yX8_holdsOne : MethodName := ⟨RX8, "holdsOne", "(IIIIII)I"⟩
abbrev cX8_holdsTwo : ByteArray := prog_10_method_35_code
def yX8_holdsTwo : MethodName := ⟨RX8, "holdsTwo", "(III)I"⟩
abbrev cX8_looks : ByteArray := prog_10_method_36_code
def yX8_looks : MethodName := ⟨RX8, "looks", "(II)Z"⟩
abbrev cX8_holds : ByteArray := prog_10_method_37_code
def yX8_holds : MethodName := ⟨RX8, "holds", "(II)I"⟩
abbrev cX8_holding : ByteArray := prog_10_method_38_code
def yX8_holding : MethodName := ⟨RX8, "holding", "(II)I"⟩
abbrev cX8_chance : ByteArray := prog_10_method_39_code
def yX8_chance : MethodName := ⟨RX8, "chance", "(I)I"⟩
abbrev cX8_keep : ByteArray := prog_10_method_40_code
def yX8_keep : MethodName := ⟨RX8, "keep", "()I"⟩
abbrev cX8_restore : ByteArray := prog_10_method_41_code
def yX8_restore : MethodName := ⟨RX8, "restore", "()I"⟩
abbrev cX8_undo : ByteArray := prog_10_method_42_code
def yX8_undo : MethodName := ⟨RX8, "undo", "()I"⟩
abbrev cX8_type : ByteArray := prog_10_method_43_code
def yX8_type : MethodName := ⟨RX8, "type", "(I)I"⟩
abbrev cX8_clearText : ByteArray := prog_10_method_44_code
def yX8_clearText : MethodName := ⟨RX8, "clearText", "()I"⟩
abbrev cX8_isAt : ByteArray := prog_10_method_45_code
def yX8_isAt : MethodName := ⟨RX8, "isAt", "(II)Z"⟩
abbrev cX8_sign : ByteArray := prog_10_method_46_code
def yX8_sign : MethodName := ⟨RX8, "sign", "(I)Z"⟩
abbrev cX8_number : ByteArray := prog_10_method_47_code
def yX8_number : MethodName := ⟨RX8, "number", "(IZ)Z"⟩
abbrev cX8_reads : ByteArray := prog_10_method_48_code
def yX8_reads : MethodName := ⟨RX8, "reads", "()Z"⟩
abbrev cX8_calls : ByteArray := prog_10_method_49_code
def yX8_calls : MethodName := ⟨RX8, "calls", "()I"⟩
abbrev cX8_plays : ByteArray := prog_10_method_50_code
def yX8_plays : MethodName := ⟨RX8, "plays", "()I"⟩
abbrev cX8_fault : ByteArray := prog_10_method_51_code
def yX8_fault : MethodName := ⟨RX8, "fault", "(I)I"⟩
abbrev cX8_play : ByteArray := prog_10_method_52_code
def yX8_play : MethodName := ⟨RX8, "play", "()I"⟩
def RJ9 : String := "java/lang/Math"
def TJ9 : u_T := fun k => match k with
  | _ => ("", "", "", false)
def tyJ9 : Nat → FieldType := fun k => match k with
  | _ => .int
theorem nmJ9 : ∀ a, a < 0 → ∀ b, b < 0 → a ≠ b → (TJ9 a).2.1 ≠ (TJ9 b).2.1 := by decide +kernel
theorem tyJ9_ok : ∀ k, k < 0 → parseFieldDescriptor (TJ9 k).2.2.1 = some (tyJ9 k) := by decide +kernel
abbrev cJ9_max_7cf53 : ByteArray := prog_11_method_65_code
def yJ9_max_7cf53 : MethodName := ⟨RJ9, "max", "(II)I"⟩
abbrev cJ9_min_7cf53 : ByteArray := prog_11_method_69_code
def yJ9_min_7cf53 : MethodName := ⟨RJ9, "min", "(II)I"⟩
def RJ10 : String := "java/lang/System"
def TJ10 : u_T := fun k => match k with
  | _ => ("", "", "", false)
def tyJ10 : Nat → FieldType := fun k => match k with
  | _ => .int
theorem nmJ10 : ∀ a, a < 0 → ∀ b, b < 0 → a ≠ b → (TJ10 a).2.1 ≠ (TJ10 b).2.1 := by decide +kernel
theorem tyJ10_ok : ∀ k, k < 0 → parseFieldDescriptor (TJ10 k).2.2.1 = some (tyJ10 k) := by decide +kernel
def RL : String := "HiddenBidsLaw"
abbrev cL_law : ByteArray := code
def yL_law : MethodName := ⟨RL, "law", "([I)Z"⟩
abbrev vwCl : List vw_C := [(RX0, TX0, 2), (RX1, TX1, 2), (RX2, TX2, 6), (RX3, TX3, 5), (RX4, TX4, 3), (RX5, TX5, 17), (RX6, TX6, 10), (RX7, TX7, 8), (RX8, TX8, 22)]
