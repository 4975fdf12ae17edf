section
-- ===== PART A: goes FIRST, ahead of the names: the tables' words, and 'selects' of the private methods out of them =====
/-- a private method of a class that the tables say can be made, by its rows of tables_1 -/
def lw_okq (q : MethodName × Nat) : Prop := (q.1.cls ≠ "java/lang/invoke/MethodHandle" ∧ q.1.cls ≠ "java/lang/invoke/VarHandle") ∧ Cond.instantiable q.1.cls q.2 ∈ tables_1 ∧ Cond.privateMethod q.1 ∈ tables_1 ∧ Cond.instanceMethod q.1 ∈ tables_1
theorem lw_p0 : lw_okq (⟨"HiddenBids", "freshDraft", "()LHiddenBids$State;"⟩, 8) := ⟨⟨by decide +kernel, by decide +kernel⟩, List.mem_of_getElem? (i := 13) (by decide +kernel), List.mem_of_getElem? (i := 288) (by decide +kernel), List.mem_of_getElem? (i := 289) (by decide +kernel)⟩
theorem lw_p1 : lw_okq (⟨"HiddenBids", "adopt", "(I)I"⟩, 8) := ⟨⟨by decide +kernel, by decide +kernel⟩, List.mem_of_getElem? (i := 13) (by decide +kernel), List.mem_of_getElem? (i := 307) (by decide +kernel), List.mem_of_getElem? (i := 308) (by decide +kernel)⟩
theorem lw_p2 : lw_okq (⟨"HiddenBidsModel", "begins", "(II)V"⟩, 22) := ⟨⟨by decide +kernel, by decide +kernel⟩, List.mem_of_getElem? (i := 619) (by decide +kernel), List.mem_of_getElem? (i := 625) (by decide +kernel), List.mem_of_getElem? (i := 626) (by decide +kernel)⟩
theorem lw_p3 : lw_okq (⟨"HiddenBidsModel", "changes", "()V"⟩, 22) := ⟨⟨by decide +kernel, by decide +kernel⟩, List.mem_of_getElem? (i := 619) (by decide +kernel), List.mem_of_getElem? (i := 704) (by decide +kernel), List.mem_of_getElem? (i := 705) (by decide +kernel)⟩
theorem lw_p4 : lw_okq (⟨"HiddenBidsModel", "isPlayer", "(I)Z"⟩, 22) := ⟨⟨by decide +kernel, by decide +kernel⟩, List.mem_of_getElem? (i := 619) (by decide +kernel), List.mem_of_getElem? (i := 717) (by decide +kernel), List.mem_of_getElem? (i := 718) (by decide +kernel)⟩
theorem lw_p5 : lw_okq (⟨"HiddenBidsModel", "of", "(II)I"⟩, 22) := ⟨⟨by decide +kernel, by decide +kernel⟩, List.mem_of_getElem? (i := 619) (by decide +kernel), List.mem_of_getElem? (i := 721) (by decide +kernel), List.mem_of_getElem? (i := 722) (by decide +kernel)⟩
theorem lw_p6 : lw_okq (⟨"HiddenBidsModel", "bids", "()I"⟩, 22) := ⟨⟨by decide +kernel, by decide +kernel⟩, List.mem_of_getElem? (i := 619) (by decide +kernel), List.mem_of_getElem? (i := 726) (by decide +kernel), List.mem_of_getElem? (i := 727) (by decide +kernel)⟩
theorem lw_p7 : lw_okq (⟨"HiddenBidsModel", "resolves", "()I"⟩, 22) := ⟨⟨by decide +kernel, by decide +kernel⟩, List.mem_of_getElem? (i := 619) (by decide +kernel), List.mem_of_getElem? (i := 734) (by decide +kernel), List.mem_of_getElem? (i := 735) (by decide +kernel)⟩
theorem lw_p8 : lw_okq (⟨"HiddenBidsModel", "greatest", "()I"⟩, 22) := ⟨⟨by decide +kernel, by decide +kernel⟩, List.mem_of_getElem? (i := 619) (by decide +kernel), List.mem_of_getElem? (i := 738) (by decide +kernel), List.mem_of_getElem? (i := 739) (by decide +kernel)⟩
theorem lw_p9 : lw_okq (⟨"HiddenBidsModel", "onTable", "()I"⟩, 22) := ⟨⟨by decide +kernel, by decide +kernel⟩, List.mem_of_getElem? (i := 619) (by decide +kernel), List.mem_of_getElem? (i := 742) (by decide +kernel), List.mem_of_getElem? (i := 743) (by decide +kernel)⟩
theorem lw_p10 : lw_okq (⟨"HiddenBidsModel", "lays", "()V"⟩, 22) := ⟨⟨by decide +kernel, by decide +kernel⟩, List.mem_of_getElem? (i := 619) (by decide +kernel), List.mem_of_getElem? (i := 746) (by decide +kernel), List.mem_of_getElem? (i := 747) (by decide +kernel)⟩
theorem lw_p11 : lw_okq (⟨"HiddenBidsModel", "keeps", "(IIII)V"⟩, 22) := ⟨⟨by decide +kernel, by decide +kernel⟩, List.mem_of_getElem? (i := 619) (by decide +kernel), List.mem_of_getElem? (i := 750) (by decide +kernel), List.mem_of_getElem? (i := 751) (by decide +kernel)⟩
theorem lw_p12 : lw_okq (⟨"HiddenBidsModel", "notes", "(IZ)V"⟩, 22) := ⟨⟨by decide +kernel, by decide +kernel⟩, List.mem_of_getElem? (i := 619) (by decide +kernel), List.mem_of_getElem? (i := 757) (by decide +kernel), List.mem_of_getElem? (i := 758) (by decide +kernel)⟩
theorem lw_p13 : lw_okq (⟨"HiddenBidsModel", "pays", "(II)V"⟩, 22) := ⟨⟨by decide +kernel, by decide +kernel⟩, List.mem_of_getElem? (i := 619) (by decide +kernel), List.mem_of_getElem? (i := 761) (by decide +kernel), List.mem_of_getElem? (i := 762) (by decide +kernel)⟩
theorem lw_p14 : lw_okq (⟨"HiddenBidsModel", "shares", "(I)V"⟩, 22) := ⟨⟨by decide +kernel, by decide +kernel⟩, List.mem_of_getElem? (i := 619) (by decide +kernel), List.mem_of_getElem? (i := 765) (by decide +kernel), List.mem_of_getElem? (i := 766) (by decide +kernel)⟩
theorem lw_p15 : lw_okq (⟨"HiddenBidsModel", "coinsAll", "()I"⟩, 22) := ⟨⟨by decide +kernel, by decide +kernel⟩, List.mem_of_getElem? (i := 619) (by decide +kernel), List.mem_of_getElem? (i := 794) (by decide +kernel), List.mem_of_getElem? (i := 795) (by decide +kernel)⟩
def lw_privs_1 : List (MethodName × Nat) := [(⟨"HiddenBids", "freshDraft", "()LHiddenBids$State;"⟩, 8), (⟨"HiddenBids", "adopt", "(I)I"⟩, 8), (⟨"HiddenBidsModel", "begins", "(II)V"⟩, 22), (⟨"HiddenBidsModel", "changes", "()V"⟩, 22), (⟨"HiddenBidsModel", "isPlayer", "(I)Z"⟩, 22), (⟨"HiddenBidsModel", "of", "(II)I"⟩, 22), (⟨"HiddenBidsModel", "bids", "()I"⟩, 22), (⟨"HiddenBidsModel", "resolves", "()I"⟩, 22), (⟨"HiddenBidsModel", "greatest", "()I"⟩, 22), (⟨"HiddenBidsModel", "onTable", "()I"⟩, 22), (⟨"HiddenBidsModel", "lays", "()V"⟩, 22), (⟨"HiddenBidsModel", "keeps", "(IIII)V"⟩, 22), (⟨"HiddenBidsModel", "notes", "(IZ)V"⟩, 22), (⟨"HiddenBidsModel", "pays", "(II)V"⟩, 22), (⟨"HiddenBidsModel", "shares", "(I)V"⟩, 22), (⟨"HiddenBidsModel", "coinsAll", "()I"⟩, 22)]
theorem lw_r1 : ∀ q ∈ lw_privs_1, lw_okq q := List.forall_mem_cons.mpr ⟨lw_p0, List.forall_mem_cons.mpr ⟨lw_p1, List.forall_mem_cons.mpr ⟨lw_p2, List.forall_mem_cons.mpr ⟨lw_p3, List.forall_mem_cons.mpr ⟨lw_p4, List.forall_mem_cons.mpr ⟨lw_p5, List.forall_mem_cons.mpr ⟨lw_p6, List.forall_mem_cons.mpr ⟨lw_p7, List.forall_mem_cons.mpr ⟨lw_p8, List.forall_mem_cons.mpr ⟨lw_p9, List.forall_mem_cons.mpr ⟨lw_p10, List.forall_mem_cons.mpr ⟨lw_p11, List.forall_mem_cons.mpr ⟨lw_p12, List.forall_mem_cons.mpr ⟨lw_p13, List.forall_mem_cons.mpr ⟨lw_p14, List.forall_mem_cons.mpr ⟨lw_p15, fun _ h => absurd h List.not_mem_nil⟩⟩⟩⟩⟩⟩⟩⟩⟩⟩⟩⟩⟩⟩⟩⟩
theorem lw_p16 : lw_okq (⟨"HiddenBidsModel", "looks", "(II)Z"⟩, 22) := ⟨⟨by decide +kernel, by decide +kernel⟩, List.mem_of_getElem? (i := 619) (by decide +kernel), List.mem_of_getElem? (i := 817) (by decide +kernel), List.mem_of_getElem? (i := 818) (by decide +kernel)⟩
theorem lw_p17 : lw_okq (⟨"HiddenBidsModel", "holdsOne", "(IIIIII)I"⟩, 22) := ⟨⟨by decide +kernel, by decide +kernel⟩, List.mem_of_getElem? (i := 619) (by decide +kernel), List.mem_of_getElem? (i := 821) (by decide +kernel), List.mem_of_getElem? (i := 822) (by decide +kernel)⟩
theorem lw_p18 : lw_okq (⟨"HiddenBidsModel", "tries", "(IIIIIII)V"⟩, 22) := ⟨⟨by decide +kernel, by decide +kernel⟩, List.mem_of_getElem? (i := 619) (by decide +kernel), List.mem_of_getElem? (i := 825) (by decide +kernel), List.mem_of_getElem? (i := 826) (by decide +kernel)⟩
theorem lw_p19 : lw_okq (⟨"HiddenBidsModel", "holdsTwo", "(III)I"⟩, 22) := ⟨⟨by decide +kernel, by decide +kernel⟩, List.mem_of_getElem? (i := 619) (by decide +kernel), List.mem_of_getElem? (i := 829) (by decide +kernel), List.mem_of_getElem? (i := 830) (by decide +kernel)⟩
theorem lw_p20 : lw_okq (⟨"HiddenBidsModel", "plays", "()I"⟩, 22) := ⟨⟨by decide +kernel, by decide +kernel⟩, List.mem_of_getElem? (i := 619) (by decide +kernel), List.mem_of_getElem? (i := 865) (by decide +kernel), List.mem_of_getElem? (i := 866) (by decide +kernel)⟩
theorem lw_p21 : lw_okq (⟨"HiddenBidsModel", "reads", "()Z"⟩, 22) := ⟨⟨by decide +kernel, by decide +kernel⟩, List.mem_of_getElem? (i := 619) (by decide +kernel), List.mem_of_getElem? (i := 869) (by decide +kernel), List.mem_of_getElem? (i := 870) (by decide +kernel)⟩
theorem lw_p22 : lw_okq (⟨"HiddenBidsModel", "number", "(IZ)Z"⟩, 22) := ⟨⟨by decide +kernel, by decide +kernel⟩, List.mem_of_getElem? (i := 619) (by decide +kernel), List.mem_of_getElem? (i := 873) (by decide +kernel), List.mem_of_getElem? (i := 874) (by decide +kernel)⟩
theorem lw_p23 : lw_okq (⟨"HiddenBidsModel", "sign", "(I)Z"⟩, 22) := ⟨⟨by decide +kernel, by decide +kernel⟩, List.mem_of_getElem? (i := 619) (by decide +kernel), List.mem_of_getElem? (i := 877) (by decide +kernel), List.mem_of_getElem? (i := 878) (by decide +kernel)⟩
theorem lw_p24 : lw_okq (⟨"HiddenBidsModel", "isAt", "(II)Z"⟩, 22) := ⟨⟨by decide +kernel, by decide +kernel⟩, List.mem_of_getElem? (i := 619) (by decide +kernel), List.mem_of_getElem? (i := 881) (by decide +kernel), List.mem_of_getElem? (i := 882) (by decide +kernel)⟩
theorem lw_p25 : lw_okq (⟨"HiddenBidsModel", "calls", "()I"⟩, 22) := ⟨⟨by decide +kernel, by decide +kernel⟩, List.mem_of_getElem? (i := 619) (by decide +kernel), List.mem_of_getElem? (i := 885) (by decide +kernel), List.mem_of_getElem? (i := 886) (by decide +kernel)⟩
def lw_privs_2 : List (MethodName × Nat) := [(⟨"HiddenBidsModel", "looks", "(II)Z"⟩, 22), (⟨"HiddenBidsModel", "holdsOne", "(IIIIII)I"⟩, 22), (⟨"HiddenBidsModel", "tries", "(IIIIIII)V"⟩, 22), (⟨"HiddenBidsModel", "holdsTwo", "(III)I"⟩, 22), (⟨"HiddenBidsModel", "plays", "()I"⟩, 22), (⟨"HiddenBidsModel", "reads", "()Z"⟩, 22), (⟨"HiddenBidsModel", "number", "(IZ)Z"⟩, 22), (⟨"HiddenBidsModel", "sign", "(I)Z"⟩, 22), (⟨"HiddenBidsModel", "isAt", "(II)Z"⟩, 22), (⟨"HiddenBidsModel", "calls", "()I"⟩, 22)]
theorem lw_r2 : ∀ q ∈ lw_privs_2, lw_okq q := List.forall_mem_cons.mpr ⟨lw_p16, List.forall_mem_cons.mpr ⟨lw_p17, List.forall_mem_cons.mpr ⟨lw_p18, List.forall_mem_cons.mpr ⟨lw_p19, List.forall_mem_cons.mpr ⟨lw_p20, List.forall_mem_cons.mpr ⟨lw_p21, List.forall_mem_cons.mpr ⟨lw_p22, List.forall_mem_cons.mpr ⟨lw_p23, List.forall_mem_cons.mpr ⟨lw_p24, List.forall_mem_cons.mpr ⟨lw_p25, fun _ h => absurd h List.not_mem_nil⟩⟩⟩⟩⟩⟩⟩⟩⟩⟩
def lw_privs : List (MethodName × Nat) := lw_privs_1 ++ (lw_privs_2)
def lw_tbl : List Cond := k2_sels lw_privs ++ tables_1
theorem lw_privs_ok : ∀ q ∈ lw_privs, lw_okq q := by
  show ∀ q ∈ lw_privs_1 ++ (lw_privs_2), lw_okq q
  exact List.forall_mem_append.mpr ⟨lw_r1, lw_r2⟩
-- ===== end of PART A; then your names; then what follows =====
def RX0 : String := "HiddenBids$Adviser"
def TX0 : u_T := fun k => match k with
  | 0 => ("HiddenBids$Adviser", "outcome", "LHiddenBids$Outcome;", true)
  | _ => ("HiddenBids$Adviser", "trial", "[I", true)
def tyX0 : Nat → FieldType := fun k => match k with
  | 0 => .object "HiddenBids$Outcome"
  | _ => .array .int
abbrev wsX00 : List Cond := u_ws RX0 TX0 2
theorem nmX0 : ∀ a, a < 2 → ∀ b, b < 2 → a ≠ b → (TX0 a).2.1 ≠ (TX0 b).2.1 := by decide +kernel
theorem tyX0_ok : ∀ k, k < 2 → parseFieldDescriptor (TX0 k).2.2.1 = some (tyX0 k) := by decide +kernel
abbrev cX0_init : ByteArray := prog_2_method_1_code
def yX0_init : MethodName := ⟨RX0, "<init>", "(LHiddenBids$Outcome;)V"⟩
abbrev cX0_bestReply : ByteArray := prog_2_method_2_code
def yX0_bestReply : MethodName := ⟨RX0, "bestReply", "(LHiddenBids$State;I)I"⟩
abbrev cX0_bestOpenBid : ByteArray := prog_2_method_3_code
def yX0_bestOpenBid : MethodName := ⟨RX0, "bestOpenBid", "(LHiddenBids$State;II)I"⟩
abbrev cX0_gainByOpenBid : ByteArray := prog_2_method_4_code
def yX0_gainByOpenBid : MethodName := ⟨RX0, "gainByOpenBid", "(LHiddenBids$State;II)I"⟩
abbrev cX0_leastGain : ByteArray := prog_2_method_5_code
def yX0_leastGain : MethodName := ⟨RX0, "leastGain", "(LHiddenBids$State;IIII)I"⟩
abbrev cX0_gainOfTrial : ByteArray := prog_2_method_6_code
def yX0_gainOfTrial : MethodName := ⟨RX0, "gainOfTrial", "(LHiddenBids$State;III)I"⟩
abbrev cX0_gainInLastRound : ByteArray := prog_2_method_7_code
def yX0_gainInLastRound : MethodName := ⟨RX0, "gainInLastRound", "(III)I"⟩
def RX1 : String := "HiddenBids$History"
def TX1 : u_T := fun k => match k with
  | 0 => ("HiddenBids$History", "states", "[LHiddenBids$State;", true)
  | _ => ("HiddenBids$History", "size", "I", false)
def tyX1 : Nat → FieldType := fun k => match k with
  | 0 => .array (.object "HiddenBids$State")
  | _ => .int
abbrev wsX10 : List Cond := u_ws RX1 TX1 2
theorem nmX1 : ∀ a, a < 2 → ∀ b, b < 2 → a ≠ b → (TX1 a).2.1 ≠ (TX1 b).2.1 := by decide +kernel
theorem tyX1_ok : ∀ k, k < 2 → parseFieldDescriptor (TX1 k).2.2.1 = some (tyX1 k) := by decide +kernel
abbrev cX1_init : ByteArray := prog_3_method_1_code
def yX1_init : MethodName := ⟨RX1, "<init>", "()V"⟩
abbrev cX1_add : ByteArray := prog_3_method_2_code
def yX1_add : MethodName := ⟨RX1, "add", "(LHiddenBids$State;)LHiddenBids$State;"⟩
abbrev cX1_takeLatest : ByteArray := prog_3_method_3_code
def yX1_takeLatest : MethodName := ⟨RX1, "takeLatest", "(LHiddenBids$State;)LHiddenBids$State;"⟩
def RX2 : String := "HiddenBids$Outcome"
def TX2 : u_T := fun k => match k with
  | 0 => ("HiddenBids$Outcome", "winner", "I", false)
  | 1 => ("HiddenBids$Outcome", "greatest", "I", false)
  | 2 => ("HiddenBids$Outcome", "leaders", "I", false)
  | 3 => ("HiddenBids$Outcome", "pot", "I", false)
  | 4 => ("HiddenBids$Outcome", "paid", "[I", true)
  | _ => ("HiddenBids$Outcome", "got", "[I", true)
def tyX2 : Nat → FieldType := fun k => match k with
  | 0 => .int
  | 1 => .int
  | 2 => .int
  | 3 => .int
  | 4 => .array .int
  | _ => .array .int
abbrev wsX20 : List Cond := u_ws RX2 TX2 6
theorem nmX2 : ∀ a, a < 6 → ∀ b, b < 6 → a ≠ b → (TX2 a).2.1 ≠ (TX2 b).2.1 := by decide +kernel
theorem tyX2_ok : ∀ k, k < 6 → parseFieldDescriptor (TX2 k).2.2.1 = some (tyX2 k) := by decide +kernel
abbrev cX2_init : ByteArray := prog_4_method_1_code
def yX2_init : MethodName := ⟨RX2, "<init>", "()V"⟩
abbrev cX2_work : ByteArray := prog_4_method_2_code
def yX2_work : MethodName := ⟨RX2, "work", "(LHiddenBids$State;[I)V"⟩
abbrev cX2_findWinner : ByteArray := prog_4_method_3_code
def yX2_findWinner : MethodName := ⟨RX2, "findWinner", "(I[I)V"⟩
abbrev cX2_payment : ByteArray := prog_4_method_4_code
def yX2_payment : MethodName := ⟨RX2, "payment", "([III)I"⟩
abbrev cX2_sharePot : ByteArray := prog_4_method_5_code
def yX2_sharePot : MethodName := ⟨RX2, "sharePot", "(I)V"⟩
abbrev cX2_coinsBehind : ByteArray := prog_4_method_6_code
def yX2_coinsBehind : MethodName := ⟨RX2, "coinsBehind", "(LHiddenBids$State;I)I"⟩
def RX3 : String := "HiddenBids$PairList"
def TX3 : u_T := fun k => match k with
  | 0 => ("HiddenBids$PairList", "players", "[I", true)
  | 1 => ("HiddenBids$PairList", "bids", "[I", true)
  | 2 => ("HiddenBids$PairList", "times", "[I", true)
  | 3 => ("HiddenBids$PairList", "wins", "[I", true)
  | _ => ("HiddenBids$PairList", "size", "I", false)
def tyX3 : Nat → FieldType := fun k => match k with
  | 0 => .array .int
  | 1 => .array .int
  | 2 => .array .int
  | 3 => .array .int
  | _ => .int
abbrev wsX30 : List Cond := u_ws RX3 TX3 5
theorem nmX3 : ∀ a, a < 5 → ∀ b, b < 5 → a ≠ b → (TX3 a).2.1 ≠ (TX3 b).2.1 := by decide +kernel
theorem tyX3_ok : ∀ k, k < 5 → parseFieldDescriptor (TX3 k).2.2.1 = some (tyX3 k) := by decide +kernel
abbrev cX3_init : ByteArray := prog_5_method_1_code
def yX3_init : MethodName := ⟨RX3, "<init>", "()V"⟩
abbrev cX3_empty : ByteArray := prog_5_method_2_code
def yX3_empty : MethodName := ⟨RX3, "empty", "()V"⟩
abbrev cX3_copyFrom : ByteArray := prog_5_method_3_code
def yX3_copyFrom : MethodName := ⟨RX3, "copyFrom", "(LHiddenBids$PairList;)V"⟩
abbrev cX3_note : ByteArray := prog_5_method_4_code
def yX3_note : MethodName := ⟨RX3, "note", "(IIZ)V"⟩
abbrev cX3_indexOf : ByteArray := prog_5_method_5_code
def yX3_indexOf : MethodName := ⟨RX3, "indexOf", "(II)I"⟩
abbrev cX3_numberOfPair : ByteArray := prog_5_method_6_code
def yX3_numberOfPair : MethodName := ⟨RX3, "numberOfPair", "(II)I"⟩
def RX4 : String := "HiddenBids$RoundLog"
def TX4 : u_T := fun k => match k with
  | 0 => ("HiddenBids$RoundLog", "numbers", "[I", true)
  | 1 => ("HiddenBids$RoundLog", "size", "I", false)
  | _ => ("HiddenBids$RoundLog", "latest", "I", false)
def tyX4 : Nat → FieldType := fun k => match k with
  | 0 => .array .int
  | 1 => .int
  | _ => .int
abbrev wsX40 : List Cond := u_ws RX4 TX4 3
theorem nmX4 : ∀ a, a < 3 → ∀ b, b < 3 → a ≠ b → (TX4 a).2.1 ≠ (TX4 b).2.1 := by decide +kernel
theorem tyX4_ok : ∀ k, k < 3 → parseFieldDescriptor (TX4 k).2.2.1 = some (tyX4 k) := by decide +kernel
abbrev cX4_init : ByteArray := prog_6_method_1_code
def yX4_init : MethodName := ⟨RX4, "<init>", "()V"⟩
abbrev cX4_empty : ByteArray := prog_6_method_2_code
def yX4_empty : MethodName := ⟨RX4, "empty", "()V"⟩
abbrev cX4_copyFrom : ByteArray := prog_6_method_3_code
def yX4_copyFrom : MethodName := ⟨RX4, "copyFrom", "(LHiddenBids$RoundLog;)V"⟩
abbrev cX4_add : ByteArray := prog_6_method_4_code
def yX4_add : MethodName := ⟨RX4, "add", "(LHiddenBids$Outcome;I[I)V"⟩
abbrev cX4_numberOfRound : ByteArray := prog_6_method_5_code
def yX4_numberOfRound : MethodName := ⟨RX4, "numberOfRound", "(III)I"⟩
abbrev cX4_columnOf : ByteArray := prog_6_method_6_code
def yX4_columnOf : MethodName := ⟨RX4, "columnOf", "(II)I"⟩
def RX5 : String := "HiddenBids$State"
def TX5 : u_T := fun k => match k with
  | 0 => ("HiddenBids$State", "players", "I", false)
  | 1 => ("HiddenBids$State", "pot", "I", false)
  | 2 => ("HiddenBids$State", "rounds", "I", false)
  | 3 => ("HiddenBids$State", "openRounds", "I", false)
  | 4 => ("HiddenBids$State", "tableSize", "I", false)
  | 5 => ("HiddenBids$State", "tableSum", "I", false)
  | 6 => ("HiddenBids$State", "rowSize", "I", false)
  | 7 => ("HiddenBids$State", "coins", "[I", true)
  | 8 => ("HiddenBids$State", "points", "[I", true)
  | 9 => ("HiddenBids$State", "bids", "[I", true)
  | 10 => ("HiddenBids$State", "won", "[I", true)
  | 11 => ("HiddenBids$State", "paid", "[I", true)
  | 12 => ("HiddenBids$State", "got", "[I", true)
  | 13 => ("HiddenBids$State", "settings", "[I", true)
  | 14 => ("HiddenBids$State", "lots", "[I", true)
  | 15 => ("HiddenBids$State", "log", "LHiddenBids$RoundLog;", true)
  | _ => ("HiddenBids$State", "pairs", "LHiddenBids$PairList;", true)
def tyX5 : Nat → FieldType := fun k => match k with
  | 0 => .int
  | 1 => .int
  | 2 => .int
  | 3 => .int
  | 4 => .int
  | 5 => .int
  | 6 => .int
  | 7 => .array .int
  | 8 => .array .int
  | 9 => .array .int
  | 10 => .array .int
  | 11 => .array .int
  | 12 => .array .int
  | 13 => .array .int
  | 14 => .array .int
  | 15 => .object "HiddenBids$RoundLog"
  | _ => .object "HiddenBids$PairList"
abbrev wsX50 : List Cond := u_ws RX5 TX5 17
theorem nmX5 : ∀ a, a < 17 → ∀ b, b < 17 → a ≠ b → (TX5 a).2.1 ≠ (TX5 b).2.1 := by decide +kernel
theorem tyX5_ok : ∀ k, k < 17 → parseFieldDescriptor (TX5 k).2.2.1 = some (tyX5 k) := by decide +kernel
abbrev cX5_init : ByteArray := prog_7_method_1_code
def yX5_init : MethodName := ⟨RX5, "<init>", "()V"⟩
abbrev cX5_copyFrom : ByteArray := prog_7_method_2_code
def yX5_copyFrom : MethodName := ⟨RX5, "copyFrom", "(LHiddenBids$State;)V"⟩
abbrev cX5_startGame : ByteArray := prog_7_method_3_code
def yX5_startGame : MethodName := ⟨RX5, "startGame", "(II)I"⟩
abbrev cX5_addLot : ByteArray := prog_7_method_4_code
def yX5_addLot : MethodName := ⟨RX5, "addLot", "(I)I"⟩
abbrev cX5_makeBid : ByteArray := prog_7_method_5_code
def yX5_makeBid : MethodName := ⟨RX5, "makeBid", "(II)I"⟩
abbrev cX5_changeSetting : ByteArray := prog_7_method_6_code
def yX5_changeSetting : MethodName := ⟨RX5, "changeSetting", "(II)I"⟩
abbrev cX5_settle : ByteArray := prog_7_method_7_code
def yX5_settle : MethodName := ⟨RX5, "settle", "(LHiddenBids$Outcome;)I"⟩
abbrev cX5_emptyTable : ByteArray := prog_7_method_8_code
def yX5_emptyTable : MethodName := ⟨RX5, "emptyTable", "()V"⟩
abbrev cX5_hasPlayer : ByteArray := prog_7_method_9_code
def yX5_hasPlayer : MethodName := ⟨RX5, "hasPlayer", "(I)Z"⟩
abbrev cX5_isOver : ByteArray := prog_7_method_10_code
def yX5_isOver : MethodName := ⟨RX5, "isOver", "()Z"⟩
abbrev cX5_nextStake : ByteArray := prog_7_method_11_code
def yX5_nextStake : MethodName := ⟨RX5, "nextStake", "()I"⟩
abbrev cX5_bidCount : ByteArray := prog_7_method_12_code
def yX5_bidCount : MethodName := ⟨RX5, "bidCount", "()I"⟩
abbrev cX5_othersHaveBids : ByteArray := prog_7_method_13_code
def yX5_othersHaveBids : MethodName := ⟨RX5, "othersHaveBids", "(I)Z"⟩
abbrev cX5_mostCoinsOfOthers : ByteArray := prog_7_method_14_code
def yX5_mostCoinsOfOthers : MethodName := ⟨RX5, "mostCoinsOfOthers", "(I)I"⟩
abbrev cX5_allCoins : ByteArray := prog_7_method_15_code
def yX5_allCoins : MethodName := ⟨RX5, "allCoins", "()I"⟩
abbrev cX5_leader : ByteArray := prog_7_method_16_code
def yX5_leader : MethodName := ⟨RX5, "leader", "()I"⟩
abbrev cX5_canLead : ByteArray := prog_7_method_17_code
def yX5_canLead : MethodName := ⟨RX5, "canLead", "(I)Z"⟩
abbrev cX5_numberOfPlayer : ByteArray := prog_7_method_18_code
def yX5_numberOfPlayer : MethodName := ⟨RX5, "numberOfPlayer", "(II)I"⟩
abbrev cX5_valueAt : ByteArray := prog_7_method_19_code
def yX5_valueAt : MethodName := ⟨RX5, "valueAt", "(II)I"⟩
abbrev cX5_number : ByteArray := prog_7_method_20_code
def yX5_number : MethodName := ⟨RX5, "number", "(I)I"⟩
def RX6 : String := "HiddenBids$Text"
def TX6 : u_T := fun k => match k with
  | 0 => ("HiddenBids$Text", "characters", "[I", true)
  | 1 => ("HiddenBids$Text", "length", "I", false)
  | 2 => ("HiddenBids$Text", "position", "I", false)
  | 3 => ("HiddenBids$Text", "reason", "I", false)
  | 4 => ("HiddenBids$Text", "cause", "I", false)
  | 5 => ("HiddenBids$Text", "commands", "I", false)
  | 6 => ("HiddenBids$Text", "next", "I", false)
  | 7 => ("HiddenBids$Text", "kind", "I", false)
  | 8 => ("HiddenBids$Text", "first", "I", false)
  | _ => ("HiddenBids$Text", "second", "I", false)
def tyX6 : Nat → FieldType := fun k => match k with
  | 0 => .array .int
  | 1 => .int
  | 2 => .int
  | 3 => .int
  | 4 => .int
  | 5 => .int
  | 6 => .int
  | 7 => .int
  | 8 => .int
  | _ => .int
abbrev wsX60 : List Cond := u_ws RX6 TX6 10
theorem nmX6 : ∀ a, a < 10 → ∀ b, b < 10 → a ≠ b → (TX6 a).2.1 ≠ (TX6 b).2.1 := by decide +kernel
theorem tyX6_ok : ∀ k, k < 10 → parseFieldDescriptor (TX6 k).2.2.1 = some (tyX6 k) := by decide +kernel
abbrev cX6_init : ByteArray := prog_8_method_1_code
def yX6_init : MethodName := ⟨RX6, "<init>", "()V"⟩
abbrev cX6_append : ByteArray := prog_8_method_2_code
def yX6_append : MethodName := ⟨RX6, "append", "(I)I"⟩
abbrev cX6_numberOfFault : ByteArray := prog_8_method_3_code
def yX6_numberOfFault : MethodName := ⟨RX6, "numberOfFault", "(I)I"⟩
abbrev cX6_perform : ByteArray := prog_8_method_4_code
def yX6_perform : MethodName := ⟨RX6, "perform", "(LHiddenBids$State;LHiddenBids$Outcome;)V"⟩
abbrev cX6_call : ByteArray := prog_8_method_5_code
def yX6_call : MethodName := ⟨RX6, "call", "(LHiddenBids$State;LHiddenBids$Outcome;)I"⟩
abbrev cX6_readCommand : ByteArray := prog_8_method_6_code
def yX6_readCommand : MethodName := ⟨RX6, "readCommand", "()Z"⟩
abbrev cX6_readValue : ByteArray := prog_8_method_7_code
def yX6_readValue : MethodName := ⟨RX6, "readValue", "()Z"⟩
abbrev cX6_readBid : ByteArray := prog_8_method_8_code
def yX6_readBid : MethodName := ⟨RX6, "readBid", "()Z"⟩
abbrev cX6_readNumber : ByteArray := prog_8_method_9_code
def yX6_readNumber : MethodName := ⟨RX6, "readNumber", "()I"⟩
abbrev cX6_passes : ByteArray := prog_8_method_10_code
def yX6_passes : MethodName := ⟨RX6, "passes", "(I)Z"⟩
abbrev cX6_digitAt : ByteArray := prog_8_method_11_code
def yX6_digitAt : MethodName := ⟨RX6, "digitAt", "(I)I"⟩
abbrev cX6_characterAt : ByteArray := prog_8_method_12_code
def yX6_characterAt : MethodName := ⟨RX6, "characterAt", "(I)I"⟩
def RX7 : String := "HiddenBids"
def TX7 : u_T := fun k => match k with
  | 0 => ("HiddenBids", "history", "LHiddenBids$History;", true)
  | 1 => ("HiddenBids", "snapshot", "LHiddenBids$State;", true)
  | 2 => ("HiddenBids", "text", "LHiddenBids$Text;", true)
  | 3 => ("HiddenBids", "outcome", "LHiddenBids$Outcome;", true)
  | 4 => ("HiddenBids", "adviser", "LHiddenBids$Adviser;", true)
  | 5 => ("HiddenBids", "state", "LHiddenBids$State;", false)
  | 6 => ("HiddenBids", "draft", "LHiddenBids$State;", false)
  | _ => ("HiddenBids", "hasSnapshot", "Z", false)
def tyX7 : Nat → FieldType := fun k => match k with
  | 0 => .object "HiddenBids$History"
  | 1 => .object "HiddenBids$State"
  | 2 => .object "HiddenBids$Text"
  | 3 => .object "HiddenBids$Outcome"
  | 4 => .object "HiddenBids$Adviser"
  | 5 => .object "HiddenBids$State"
  | 6 => .object "HiddenBids$State"
  | _ => .boolean
abbrev wsX70 : List Cond := u_ws RX7 TX7 8
theorem nmX7 : ∀ a, a < 8 → ∀ b, b < 8 → a ≠ b → (TX7 a).2.1 ≠ (TX7 b).2.1 := by decide +kernel
theorem tyX7_ok : ∀ k, k < 8 → parseFieldDescriptor (TX7 k).2.2.1 = some (tyX7 k) := by decide +kernel
abbrev cX7_init : ByteArray := prog_1_method_1_code
def yX7_init : MethodName := ⟨RX7, "<init>", "()V"⟩
abbrev cX7_begin : ByteArray := prog_1_method_2_code
def yX7_begin : MethodName := ⟨RX7, "begin", "(II)I"⟩
abbrev cX7_lot : ByteArray := prog_1_method_3_code
def yX7_lot : MethodName := ⟨RX7, "lot", "(I)I"⟩
abbrev cX7_bid : ByteArray := prog_1_method_4_code
def yX7_bid : MethodName := ⟨RX7, "bid", "(II)I"⟩
abbrev cX7_resolve : ByteArray := prog_1_method_5_code
def yX7_resolve : MethodName := ⟨RX7, "resolve", "()I"⟩
abbrev cX7_set : ByteArray := prog_1_method_6_code
def yX7_set : MethodName := ⟨RX7, "set", "(II)I"⟩
abbrev cX7_playerOf : ByteArray := prog_1_method_7_code
def yX7_playerOf : MethodName := ⟨RX7, "playerOf", "(II)I"⟩
abbrev cX7_lotOf : ByteArray := prog_1_method_8_code
def yX7_lotOf : MethodName := ⟨RX7, "lotOf", "(II)I"⟩
abbrev cX7_roundOf : ByteArray := prog_1_method_9_code
def yX7_roundOf : MethodName := ⟨RX7, "roundOf", "(II)I"⟩
abbrev cX7_record : ByteArray := prog_1_method_10_code
def yX7_record : MethodName := ⟨RX7, "record", "(II)I"⟩
abbrev cX7_count : ByteArray := prog_1_method_11_code
def yX7_count : MethodName := ⟨RX7, "count", "(I)I"⟩
abbrev cX7_winner : ByteArray := prog_1_method_12_code
def yX7_winner : MethodName := ⟨RX7, "winner", "()I"⟩
abbrev cX7_sure : ByteArray := prog_1_method_13_code
def yX7_sure : MethodName := ⟨RX7, "sure", "(I)I"⟩
abbrev cX7_reply : ByteArray := prog_1_method_14_code
def yX7_reply : MethodName := ⟨RX7, "reply", "(I)I"⟩
abbrev cX7_holds : ByteArray := prog_1_method_15_code
def yX7_holds : MethodName := ⟨RX7, "holds", "(II)I"⟩
abbrev cX7_holding : ByteArray := prog_1_method_16_code
def yX7_holding : MethodName := ⟨RX7, "holding", "(II)I"⟩
abbrev cX7_chance : ByteArray := prog_1_method_17_code
def yX7_chance : MethodName := ⟨RX7, "chance", "(I)I"⟩
abbrev cX7_keep : ByteArray := prog_1_method_18_code
def yX7_keep : MethodName := ⟨RX7, "keep", "()I"⟩
abbrev cX7_restore : ByteArray := prog_1_method_19_code
def yX7_restore : MethodName := ⟨RX7, "restore", "()I"⟩
abbrev cX7_undo : ByteArray := prog_1_method_20_code
def yX7_undo : MethodName := ⟨RX7, "undo", "()I"⟩
abbrev cX7_type : ByteArray := prog_1_method_21_code
def yX7_type : MethodName := ⟨RX7, "type", "(I)I"⟩
abbrev cX7_clearText : ByteArray := prog_1_method_22_code
def yX7_clearText : MethodName := ⟨RX7, "clearText", "()I"⟩
abbrev cX7_fault : ByteArray := prog_1_method_23_code
def yX7_fault : MethodName := ⟨RX7, "fault", "(I)I"⟩
abbrev cX7_play : ByteArray := prog_1_method_24_code
def yX7_play : MethodName := ⟨RX7, "play", "()I"⟩
abbrev cX7_freshDraft : ByteArray := prog_1_method_25_code
def yX7_freshDraft : MethodName := ⟨RX7, "freshDraft", "()LHiddenBids$State;"⟩
abbrev cX7_adopt : ByteArray := prog_1_method_26_code
def yX7_adopt : MethodName := ⟨RX7, "adopt", "(I)I"⟩
abbrev cX7_isError : ByteArray := prog_1_method_27_code
def yX7_isError : MethodName := ⟨RX7, "isError", "(I)Z"⟩
def RX8 : String := "HiddenBidsModel"
def TX8 : u_T := fun k => match k with
  | 0 => ("HiddenBidsModel", "s", "[I", true)
  | 1 => ("HiddenBidsModel", "past", "[I", true)
  | 2 => ("HiddenBidsModel", "held", "[I", true)
  | 3 => ("HiddenBidsModel", "tried", "[I", true)
  | 4 => ("HiddenBidsModel", "kept", "[I", true)
  | 5 => ("HiddenBidsModel", "isKept", "Z", false)
  | 6 => ("HiddenBidsModel", "pasts", "I", false)
  | 7 => ("HiddenBidsModel", "runs", "Z", false)
  | 8 => ("HiddenBidsModel", "text", "[I", true)
  | 9 => ("HiddenBidsModel", "typed", "I", false)
  | 10 => ("HiddenBidsModel", "ownThen", "I", false)
  | 11 => ("HiddenBidsModel", "otherThen", "I", false)
  | 12 => ("HiddenBidsModel", "aheadThen", "I", false)
  | 13 => ("HiddenBidsModel", "potThen", "I", false)
  | 14 => ("HiddenBidsModel", "tableThen", "I", false)
  | 15 => ("HiddenBidsModel", "bestBid", "I", false)
  | 16 => ("HiddenBidsModel", "heldNow", "I", false)
  | 17 => ("HiddenBidsModel", "spot", "I", false)
  | 18 => ("HiddenBidsModel", "cause", "I", false)
  | 19 => ("HiddenBidsModel", "commands", "I", false)
  | 20 => ("HiddenBidsModel", "order", "I", false)
  | _ => ("HiddenBidsModel", "told", "[I", true)
def tyX8 : Nat → FieldType := fun k => match k with
  | 0 => .array .int
  | 1 => .array .int
  | 2 => .array .int
  | 3 => .array .int
  | 4 => .array .int
  | 5 => .boolean
  | 6 => .int
  | 7 => .boolean
  | 8 => .array .int
  | 9 => .int
  | 10 => .int
  | 11 => .int
  | 12 => .int
  | 13 => .int
  | 14 => .int
  | 15 => .int
  | 16 => .int
  | 17 => .int
  | 18 => .int
  | 19 => .int
  | 20 => .int
  | _ => .array .int
abbrev wsX80 : List Cond := u_ws RX8 TX8 22
theorem nmX8 : ∀ a, a < 22 → ∀ b, b < 22 → a ≠ b → (TX8 a).2.1 ≠ (TX8 b).2.1 := by decide +kernel
theorem tyX8_ok : ∀ k, k < 22 → parseFieldDescriptor (TX8 k).2.2.1 = some (tyX8 k) := by decide +kernel
abbrev cX8_init : ByteArray := prog_10_method_1_code
def yX8_init : MethodName := ⟨RX8, "<init>", "()V"⟩
abbrev cX8_in : ByteArray := prog_10_method_3_code
def yX8_in : MethodName := ⟨RX8, "in", "(III)Z"⟩
abbrev cX8_copies : ByteArray := prog_10_method_4_code
def yX8_copies : MethodName := ⟨RX8, "copies", "([I[I)V"⟩
abbrev cX8_changes : ByteArray := prog_10_method_5_code
def yX8_changes : MethodName := ⟨RX8, "changes", "()V"⟩
abbrev cX8_isPlayer : ByteArray := prog_10_method_6_code
def yX8_isPlayer : MethodName := ⟨RX8, "isPlayer", "(I)Z"⟩
abbrev cX8_of : ByteArray := prog_10_method_7_code
def yX8_of : MethodName := ⟨RX8, "of", "(II)I"⟩
abbrev cX8_begins : ByteArray := prog_10_method_8_code
def yX8_begins : MethodName := ⟨RX8, "begins", "(II)V"⟩
abbrev cX8_begin : ByteArray := prog_10_method_9_code
def yX8_begin : MethodName := ⟨RX8, "begin", "(II)I"⟩
abbrev cX8_lot : ByteArray := prog_10_method_10_code
def yX8_lot : MethodName := ⟨RX8, "lot", "(I)I"⟩
abbrev cX8_bids : ByteArray := prog_10_method_11_code
def yX8_bids : MethodName := ⟨RX8, "bids", "()I"⟩
abbrev cX8_bid : ByteArray := prog_10_method_12_code
def yX8_bid : MethodName := ⟨RX8, "bid", "(II)I"⟩
abbrev cX8_onTable : ByteArray := prog_10_method_13_code
def yX8_onTable : MethodName := ⟨RX8, "onTable", "()I"⟩
abbrev cX8_greatest : ByteArray := prog_10_method_14_code
def yX8_greatest : MethodName := ⟨RX8, "greatest", "()I"⟩
abbrev cX8_lays : ByteArray := prog_10_method_15_code
def yX8_lays : MethodName := ⟨RX8, "lays", "()V"⟩
abbrev cX8_pays : ByteArray := prog_10_method_16_code
def yX8_pays : MethodName := ⟨RX8, "pays", "(II)V"⟩
abbrev cX8_least : ByteArray := prog_10_method_17_code
def yX8_least : MethodName := ⟨RX8, "least", "(II)I"⟩
abbrev cX8_notes : ByteArray := prog_10_method_18_code
def yX8_notes : MethodName := ⟨RX8, "notes", "(IZ)V"⟩
abbrev cX8_keeps : ByteArray := prog_10_method_19_code
def yX8_keeps : MethodName := ⟨RX8, "keeps", "(IIII)V"⟩
abbrev cX8_shares : ByteArray := prog_10_method_20_code
def yX8_shares : MethodName := ⟨RX8, "shares", "(I)V"⟩
abbrev cX8_resolves : ByteArray := prog_10_method_21_code
def yX8_resolves : MethodName := ⟨RX8, "resolves", "()I"⟩
abbrev cX8_resolve : ByteArray := prog_10_method_22_code
def yX8_resolve : MethodName := ⟨RX8, "resolve", "()I"⟩
abbrev cX8_set : ByteArray := prog_10_method_23_code
def yX8_set : MethodName := ⟨RX8, "set", "(II)I"⟩
abbrev cX8_playerOf : ByteArray := prog_10_method_24_code
def yX8_playerOf : MethodName := ⟨RX8, "playerOf", "(II)I"⟩
abbrev cX8_lotOf : ByteArray := prog_10_method_25_code
def yX8_lotOf : MethodName := ⟨RX8, "lotOf", "(II)I"⟩
abbrev cX8_roundOf : ByteArray := prog_10_method_26_code
def yX8_roundOf : MethodName := ⟨RX8, "roundOf", "(II)I"⟩
abbrev cX8_record : ByteArray := prog_10_method_27_code
def yX8_record : MethodName := ⟨RX8, "record", "(II)I"⟩
abbrev cX8_coinsAll : ByteArray := prog_10_method_28_code
def yX8_coinsAll : MethodName := ⟨RX8, "coinsAll", "()I"⟩
abbrev cX8_count : ByteArray := prog_10_method_29_code
def yX8_count : MethodName := ⟨RX8, "count", "(I)I"⟩
abbrev cX8_winner : ByteArray := prog_10_method_30_code
def yX8_winner : MethodName := ⟨RX8, "winner", "()I"⟩
abbrev cX8_sure : ByteArray := prog_10_method_31_code
def yX8_sure : MethodName := ⟨RX8, "sure", "(I)I"⟩
abbrev cX8_reply : ByteArray := prog_10_method_32_code
def yX8_reply : MethodName := ⟨RX8, "reply", "(I)I"⟩
abbrev cX8_tries : ByteArray := prog_10_method_33_code
def yX8_tries : MethodName := ⟨RX8, "tries", "(IIIIIII)V"⟩
abbrev cX8_holdsOne : ByteArray := prog_10_method_34_code
def yX8_holdsOne : MethodName := ⟨RX8, "holdsOne", "(IIIIII)I"⟩
abbrev cX8_holdsTwo : ByteArray := prog_10_method_35_code
def yX8_holdsTwo : MethodName := ⟨RX8, "holdsTwo", "(III)I"⟩
abbrev cX8_looks : ByteArray := prog_10_method_36_code
def yX8_looks : MethodName := ⟨RX8, "looks", "(II)Z"⟩
abbrev cX8_holds : ByteArray := prog_10_method_37_code
def yX8_holds : MethodName := ⟨RX8, "holds", "(II)I"⟩
abbrev cX8_holding : ByteArray := prog_10_method_38_code
def yX8_holding : MethodName := ⟨RX8, "holding", "(II)I"⟩
abbrev cX8_chance : ByteArray := prog_10_method_39_code
def yX8_chance : MethodName := ⟨RX8, "chance", "(I)I"⟩
abbrev cX8_keep : ByteArray := prog_10_method_40_code
def yX8_keep : MethodName := ⟨RX8, "keep", "()I"⟩
abbrev cX8_restore : ByteArray := prog_10_method_41_code
def yX8_restore : MethodName := ⟨RX8, "restore", "()I"⟩
abbrev cX8_undo : ByteArray := prog_10_method_42_code
def yX8_undo : MethodName := ⟨RX8, "undo", "()I"⟩
abbrev cX8_type : ByteArray := prog_10_method_43_code
def yX8_type : MethodName := ⟨RX8, "type", "(I)I"⟩
abbrev cX8_clearText : ByteArray := prog_10_method_44_code
def yX8_clearText : MethodName := ⟨RX8, "clearText", "()I"⟩
abbrev cX8_isAt : ByteArray := prog_10_method_45_code
def yX8_isAt : MethodName := ⟨RX8, "isAt", "(II)Z"⟩
abbrev cX8_sign : ByteArray := prog_10_method_46_code
def yX8_sign : MethodName := ⟨RX8, "sign", "(I)Z"⟩
abbrev cX8_number : ByteArray := prog_10_method_47_code
def yX8_number : MethodName := ⟨RX8, "number", "(IZ)Z"⟩
abbrev cX8_reads : ByteArray := prog_10_method_48_code
def yX8_reads : MethodName := ⟨RX8, "reads", "()Z"⟩
abbrev cX8_calls : ByteArray := prog_10_method_49_code
def yX8_calls : MethodName := ⟨RX8, "calls", "()I"⟩
abbrev cX8_plays : ByteArray := prog_10_method_50_code
def yX8_plays : MethodName := ⟨RX8, "plays", "()I"⟩
abbrev cX8_fault : ByteArray := prog_10_method_51_code
def yX8_fault : MethodName := ⟨RX8, "fault", "(I)I"⟩
abbrev cX8_play : ByteArray := prog_10_method_52_code
def yX8_play : MethodName := ⟨RX8, "play", "()I"⟩
def RJ9 : String := "java/lang/Math"
def TJ9 : u_T := fun k => match k with
  | _ => ("", "", "", false)
def tyJ9 : Nat → FieldType := fun k => match k with
  | _ => .int
theorem nmJ9 : ∀ a, a < 0 → ∀ b, b < 0 → a ≠ b → (TJ9 a).2.1 ≠ (TJ9 b).2.1 := by decide +kernel
theorem tyJ9_ok : ∀ k, k < 0 → parseFieldDescriptor (TJ9 k).2.2.1 = some (tyJ9 k) := by decide +kernel
abbrev cJ9_max_7cf53 : ByteArray := prog_11_method_65_code
def yJ9_max_7cf53 : MethodName := ⟨RJ9, "max", "(II)I"⟩
abbrev cJ9_min_7cf53 : ByteArray := prog_11_method_69_code
def yJ9_min_7cf53 : MethodName := ⟨RJ9, "min", "(II)I"⟩
def RJ10 : String := "java/lang/System"
def TJ10 : u_T := fun k => match k with
  | _ => ("", "", "", false)
def tyJ10 : Nat → FieldType := fun k => match k with
  | _ => .int
theorem nmJ10 : ∀ a, a < 0 → ∀ b, b < 0 → a ≠ b → (TJ10 a).2.1 ≠ (TJ10 b).2.1 := by decide +kernel
theorem tyJ10_ok : ∀ k, k < 0 → parseFieldDescriptor (TJ10 k).2.2.1 = some (tyJ10 k) := by decide +kernel
def RL : String := "HiddenBidsLaw"
abbrev cL_law : ByteArray := code
def yL_law : MethodName := ⟨RL, "law", "([I)Z"⟩
abbrev vwCl : List vw_C := [(RX0, TX0, 2), (RX1, TX1, 2), (RX2, TX2, 6), (RX3, TX3, 5), (RX4, TX4, 3), (RX5, TX5, 17), (RX6, TX6, 10), (RX7, TX7, 8), (RX8, TX8, 22)]
end
section
/-! AN INTERPRETER of the bytecode that the system uses: a pure function over rows of numbers and of pointers.
Values: a number, or a pointer (none: null; some k: the k-th cell). Cells: (0, n) a row of n numbers, (1, n) a row of n pointers, (c + 2, n) an object of the c-th kind with n slots.
Numbers of all cells stand in one function F, pointers in another, P. -/
abbrev AV : Type := Int ⊕ Option Nat
abbrev FM : Type := Nat → Int → Int
abbrev PM : Type := Nat → Int → Option Nat
abbrev KL : Type := List (Nat × Nat)
abbrev LV : Type := List (Option AV)
abbrev AS : Type := Nat × LV × List AV × KL × FM × PM
abbrev RI : Type := Nat × Nat × Nat × Int
abbrev CI : Type := Nat × Instr × Nat × RI
abbrev ME : Type := MethodName × ByteArray × Nat × Option FieldType × Nat × Nat × Nat × List CI
def me_y (e : ME) : MethodName := e.1
def me_cc (e : ME) : ByteArray := e.2.1
def me_ml (e : ME) : Nat := e.2.2.1
def me_rt (e : ME) : Option FieldType := e.2.2.2.1
def me_kd (e : ME) : Nat := e.2.2.2.2.1
def me_na (e : ME) : Nat := e.2.2.2.2.2.1
def me_ix (e : ME) : Nat := e.2.2.2.2.2.2.1
def me_ci (e : ME) : List CI := e.2.2.2.2.2.2.2
def wr (i : Int) : Int := (i + 2147483648) % 4294967296 - 2147483648
def i32 (i : Int) : Int32 := Int32.ofInt i
def inb (i : Int) : Prop := -2147483648 ≤ i ∧ i < 2147483648
def inbB (i : Int) : Bool := decide (-2147483648 ≤ i) && decide (i < 2147483648)
/-- a row or slot written -/
def stt (F : FM) (k : Nat) (j v : Int) : FM := fun a b => if a = k ∧ b = j then v else F a b
def stp_ (P : PM) (k : Nat) (j : Int) (v : Option Nat) : PM := fun a b => if a = k ∧ b = j then v else P a b
def clF (F : FM) (k : Nat) : FM := fun a b => if a = k then 0 else F a b
def clP (P : PM) (k : Nat) : PM := fun a b => if a = k then none else P a b
def cpF (F : FM) (src : Nat) (sp : Int) (dst : Nat) (dp n : Int) : FM := fun a b => if a = dst ∧ dp ≤ b ∧ b < dp + n then F src (sp + (b - dp)) else F a b
def isN (t : FieldType) : Bool := match t with
  | .int => true
  | .boolean => true
  | _ => false
/-- the type of a slot -/
def tyOf (c k : Nat) : FieldType := match c with
  | 0 => tyX0 k
  | 1 => tyX1 k
  | 2 => tyX2 k
  | 3 => tyX3 k
  | 4 => tyX4 k
  | 5 => tyX5 k
  | 6 => tyX6 k
  | 7 => tyX7 k
  | _ => tyX8 k
def brn (pc : Nat) (off : Int) : Option Nat := if 0 ≤ (pc : Int) + off then some ((pc : Int) + off).toNat else none
def cmpc (c : Jvm.ClassFile.Cond) (x y : Int) : Bool := match c with
  | .eq => decide (x = y)
  | .ne => decide (x ≠ y)
  | .lt => decide (x < y)
  | .ge => decide (y ≤ x)
  | .gt => decide (y < x)
  | .le => decide (x ≤ y)
def ldI (L : LV) (i : Nat) : Option AV := match L[i]? with
  | some (some (.inl v)) => some (.inl v)
  | _ => none
def ldA (L : LV) (i : Nat) : Option AV := match L[i]? with
  | some (some (.inr (some k))) => some (.inr (some k))
  | _ => none
def s_load (pc len : Nat) (o : Option AV) (L : LV) (S : List AV) (kd : KL) (F : FM) (P : PM) : Option AS := match o with
  | some v => some (pc + len, L, v :: S, kd, F, P)
  | none => none
def s_storeI (pc len i : Nat) (L : LV) (S : List AV) (kd : KL) (F : FM) (P : PM) : Option AS := match S with
  | .inl v :: S' => if i < L.length then some (pc + len, L.set i (some (.inl v)), S', kd, F, P) else none
  | _ => none
def s_storeA (pc len i : Nat) (L : LV) (S : List AV) (kd : KL) (F : FM) (P : PM) : Option AS := match S with
  | .inr (some v) :: S' => if i < L.length then some (pc + len, L.set i (some (.inr (some v))), S', kd, F, P) else none
  | _ => none
def s_iinc (pc len i : Nat) (n : Int) (L : LV) (S : List AV) (kd : KL) (F : FM) (P : PM) : Option AS := match L[i]? with
  | some (some (.inl v)) => some (pc + len, L.set i (some (.inl (wr (v + n)))), S, kd, F, P)
  | _ => none
def s_bin (pc len : Nat) (f : Int → Int → Int) (L : LV) (S : List AV) (kd : KL) (F : FM) (P : PM) : Option AS := match S with
  | .inl y :: .inl x :: S' => some (pc + len, L, .inl (f x y) :: S', kd, F, P)
  | _ => none
def s_binD (pc len : Nat) (f : Int → Int → Int) (L : LV) (S : List AV) (kd : KL) (F : FM) (P : PM) : Option AS := match S with
  | .inl y :: .inl x :: S' => if y = 0 then none else some (pc + len, L, .inl (f x y) :: S', kd, F, P)
  | _ => none
def s_neg (pc len : Nat) (L : LV) (S : List AV) (kd : KL) (F : FM) (P : PM) : Option AS := match S with
  | .inl x :: S' => some (pc + len, L, .inl (wr (-x)) :: S', kd, F, P)
  | _ => none
def s_dup (pc len : Nat) (L : LV) (S : List AV) (kd : KL) (F : FM) (P : PM) : Option AS := match S with
  | v :: S' => some (pc + len, L, v :: v :: S', kd, F, P)
  | _ => none
def s_dup2 (pc len : Nat) (L : LV) (S : List AV) (kd : KL) (F : FM) (P : PM) : Option AS := match S with
  | v :: w :: S' => some (pc + len, L, v :: w :: v :: w :: S', kd, F, P)
  | _ => none
def s_pop (pc len : Nat) (L : LV) (S : List AV) (kd : KL) (F : FM) (P : PM) : Option AS := match S with
  | _ :: S' => some (pc + len, L, S', kd, F, P)
  | _ => none
def s_goto (o : Option Nat) (L : LV) (S : List AV) (kd : KL) (F : FM) (P : PM) : Option AS := match o with
  | some t => some (t, L, S, kd, F, P)
  | none => none
def s_icmp (pc : Nat) (c : Jvm.ClassFile.Cond) (o : Option Nat) (L : LV) (S : List AV) (kd : KL) (F : FM) (P : PM) : Option AS := match o, S with
  | some t, .inl y :: .inl x :: S' => some (if cmpc c x y = true then t else pc + 3, L, S', kd, F, P)
  | _, _ => none
def s_ifc (pc : Nat) (c : Jvm.ClassFile.Cond) (o : Option Nat) (L : LV) (S : List AV) (kd : KL) (F : FM) (P : PM) : Option AS := match o, S with
  | some t, .inl x :: S' => some (if cmpc c x 0 = true then t else pc + 3, L, S', kd, F, P)
  | _, _ => none
def s_iald (pc : Nat) (L : LV) (S : List AV) (kd : KL) (F : FM) (P : PM) : Option AS := match S with
  | .inl i :: .inr (some k) :: S' => match kd[k]? with
    | some (0, n) => if 0 ≤ i ∧ i < n then some (pc + 1, L, .inl (F k i) :: S', kd, F, P) else none
    | _ => none
  | _ => none
def s_aald (pc : Nat) (L : LV) (S : List AV) (kd : KL) (F : FM) (P : PM) : Option AS := match S with
  | .inl i :: .inr (some k) :: S' => match kd[k]? with
    | some (1, n) => if 3 ≤ k ∧ 0 ≤ i ∧ i < n then some (pc + 1, L, .inr (P k i) :: S', kd, F, P) else none
    | _ => none
  | _ => none
def s_iast (pc : Nat) (L : LV) (S : List AV) (kd : KL) (F : FM) (P : PM) : Option AS := match S with
  | .inl v :: .inl i :: .inr (some k) :: S' => match kd[k]? with
    | some (0, n) => if 3 ≤ k ∧ 0 ≤ i ∧ i < n then some (pc + 1, L, S', kd, stt F k i v, P) else none
    | _ => none
  | _ => none
def s_aast (pc : Nat) (L : LV) (S : List AV) (kd : KL) (F : FM) (P : PM) : Option AS := match S with
  | .inr (some v) :: .inl i :: .inr (some k) :: S' => match kd[k]? with
    | some (1, n) => if 3 ≤ k ∧ 0 ≤ i ∧ i < n ∧ 3 ≤ v ∧ kd[v]? = some (7, 17) then some (pc + 1, L, S', kd, F, stp_ P k i (some v)) else none
    | _ => none
  | _ => none
def s_alen (pc : Nat) (L : LV) (S : List AV) (kd : KL) (F : FM) (P : PM) : Option AS := match S with
  | .inr (some k) :: S' => match kd[k]? with
    | some (0, n) => if n < 2147483648 then some (pc + 1, L, .inl (n : Int) :: S', kd, F, P) else none
    | _ => none
  | _ => none
def s_getf (pc ci j : Nat) (L : LV) (S : List AV) (kd : KL) (F : FM) (P : PM) : Option AS := match S with
  | .inr (some k) :: S' => match kd[k]? with
    | some (c, n) => if c = ci + 2 ∧ j < n ∧ 3 ≤ k then some (pc + 3, L, (if isN (tyOf ci j) = true then .inl (F k j) else .inr (P k j)) :: S', kd, F, P) else none
    | _ => none
  | _ => none
def s_putf (pc ci j : Nat) (L : LV) (S : List AV) (kd : KL) (F : FM) (P : PM) : Option AS := match S with
  | .inl v :: .inr (some k) :: S' => match kd[k]? with
    | some (c, n) => if c = ci + 2 ∧ j < n ∧ 3 ≤ k ∧ (tyOf ci j = .int ∨ tyOf ci j = .boolean ∧ (v = 0 ∨ v = 1)) then some (pc + 3, L, S', kd, stt F k j v, P) else none
    | _ => none
  | .inr v :: .inr (some k) :: S' => match kd[k]? with
    | some (c, n) => if c = ci + 2 ∧ j < n ∧ 3 ≤ k ∧ isN (tyOf ci j) = false then some (pc + 3, L, S', kd, F, stp_ P k j v) else none
    | _ => none
  | _ => none
def s_new (pc ci n : Nat) (L : LV) (S : List AV) (kd : KL) (F : FM) (P : PM) : Option AS :=
  some (pc + 3, L, .inr (some kd.length) :: S, kd ++ [(ci + 2, n)], clF F kd.length, clP P kd.length)
def s_newa (pc : Nat) (L : LV) (S : List AV) (kd : KL) (F : FM) (P : PM) : Option AS := match S with
  | .inl n :: S' => if 0 ≤ n ∧ n ≤ 100000 then some (pc + 2, L, .inr (some kd.length) :: S', kd ++ [(0, n.toNat)], clF F kd.length, P) else none
  | _ => none
def s_anew (pc : Nat) (L : LV) (S : List AV) (kd : KL) (F : FM) (P : PM) : Option AS := match S with
  | .inl n :: S' => if 0 ≤ n ∧ n ≤ 100000 then some (pc + 3, L, .inr (some kd.length) :: S', kd ++ [(1, n.toNat)], F, clP P kd.length) else none
  | _ => none
def s_gets (pc i : Nat) (L : LV) (S : List AV) (kd : KL) (F : FM) (P : PM) : Option AS :=
  some (pc + 3, L, .inr (some i) :: S, kd, F, P)
def s_tab (pc : Nat) (dflt lo hi : Int) (offs : Array Int) (L : LV) (S : List AV) (kd : KL) (F : FM) (P : PM) : Option AS := match S with
  | .inl x :: S' => if lo ≤ x ∧ x ≤ hi then (match offs[(x - lo).toNat]? with
    | some off => s_goto (brn pc off) L S' kd F P
    | none => none) else s_goto (brn pc dflt) L S' kd F P
  | _ => none
def s_look (pc : Nat) (dflt : Int) (ps : Array (Int × Int)) (L : LV) (S : List AV) (kd : KL) (F : FM) (P : PM) : Option AS := match S with
  | .inl x :: S' => if (ps.toList.zip (ps.toList.drop 1)).all (fun (a, next) => a.1 < next.1) = true then s_goto (brn pc (Op.lookupswitch.offset ps.toList dflt x)) L S' kd F P else none
  | _ => none
def s_copy (d pc : Nat) (L : LV) (S : List AV) (kd : KL) (F : FM) (P : PM) : Option AS := match S with
  | .inl n :: .inl dp :: .inr (some k1) :: .inl sp :: .inr (some k0) :: S' => match kd[k0]?, kd[k1]? with
    | some (0, n0), some (0, n1) => if 2 ≤ d ∧ S' = [] ∧ 3 ≤ k1 ∧ 0 ≤ n ∧ 0 ≤ sp ∧ 0 ≤ dp ∧ sp + n ≤ n0 ∧ dp + n ≤ n1 then some (pc + 3, L, S', kd, cpF F k0 sp k1 dp n, P) else none
    | _, _ => none
  | _ => none
def s_mm (d pc : Nat) (f : Int → Int → Int) (L : LV) (S : List AV) (kd : KL) (F : FM) (P : PM) : Option AS := match S with
  | .inl y :: .inl x :: S' => if 2 ≤ d ∧ S'.length ≤ 4 then some (pc + 3, L, .inl (f x y) :: S', kd, F, P) else none
  | _ => none
def s_oini (d pc : Nat) (L : LV) (S : List AV) (kd : KL) (F : FM) (P : PM) : Option AS := match S with
  | .inr (some _) :: S' => if 1 ≤ d ∧ S' = [] then some (pc + 3, L, S', kd, F, P) else none
  | _ => none
/-- one instruction that is no call of the system's own and no return -/
def stp (d pc len : Nat) (ri : RI) (ins : Instr) (L : LV) (S : List AV) (kd : KL) (F : FM) (P : PM) : Option AS := match ins with
  | .iconst n => s_load pc len (some (.inl n)) L S kd F P
  | .bipush n => s_load pc len (some (.inl n)) L S kd F P
  | .sipush n => s_load pc len (some (.inl n)) L S kd F P
  | .ldc _ => s_load pc len (some (.inl ri.2.2.2)) L S kd F P
  | .iload i => s_load pc len (ldI L i) L S kd F P
  | .iload_n i => s_load pc len (ldI L i.val) L S kd F P
  | .aload i => s_load pc len (ldA L i) L S kd F P
  | .aload_n i => s_load pc len (ldA L i.val) L S kd F P
  | .istore i => s_storeI pc len i L S kd F P
  | .istore_n i => s_storeI pc len i.val L S kd F P
  | .astore i => s_storeA pc len i L S kd F P
  | .astore_n i => s_storeA pc len i.val L S kd F P
  | .iinc i n => s_iinc pc len i n L S kd F P
  | .iadd => s_bin pc len (fun x y => wr (x + y)) L S kd F P
  | .isub => s_bin pc len (fun x y => wr (x - y)) L S kd F P
  | .imul => s_bin pc len (fun x y => wr (x * y)) L S kd F P
  | .iand => s_bin pc len (fun x y => (i32 x &&& i32 y).toInt) L S kd F P
  | .idiv => s_binD pc len (fun x y => wr (Int.tdiv x y)) L S kd F P
  | .irem => s_binD pc len (fun x y => wr (x - Int.tdiv x y * y)) L S kd F P
  | .ineg => s_neg pc len L S kd F P
  | .dup => s_dup pc len L S kd F P
  | .dup2 => s_dup2 pc len L S kd F P
  | .pop => s_pop pc len L S kd F P
  | .goto off => s_goto (brn pc off) L S kd F P
  | .if_icmp c off => s_icmp pc c (brn pc off) L S kd F P
  | .ifCond c off => s_ifc pc c (brn pc off) L S kd F P
  | .iaload => s_iald pc L S kd F P
  | .aaload => s_aald pc L S kd F P
  | .iastore => s_iast pc L S kd F P
  | .aastore => s_aast pc L S kd F P
  | .arraylength => s_alen pc L S kd F P
  | .getfield _ => s_getf pc ri.1 ri.2.1 L S kd F P
  | .putfield _ => s_putf pc ri.1 ri.2.1 L S kd F P
  | .new _ => s_new pc ri.1 ri.2.1 L S kd F P
  | .newarray t => if t = .int then s_newa pc L S kd F P else none
  | .anewarray _ => s_anew pc L S kd F P
  | .getstatic _ => s_gets pc ri.1 L S kd F P
  | .tableswitch dflt lo hi offs => s_tab pc dflt lo hi offs L S kd F P
  | .lookupswitch dflt ps => s_look pc dflt ps L S kd F P
  | .invokestatic _ => if ri.2.1 = 2 then s_copy d pc L S kd F P else if ri.2.1 = 3 then s_mm d pc (fun x y => if x < y then y else x) L S kd F P else if ri.2.1 = 4 then s_mm d pc (fun x y => if y < x then y else x) L S kd F P else none
  | .invokespecial _ => if ri.2.1 = 5 then s_oini d pc L S kd F P else none
  | _ => none
/-- a return: its answer -/
def fin (rt : Option FieldType) (ins : Instr) (S : List AV) : Option (Option AV) := match ins with
  | .ireturn => match S with
    | [.inl v] => if rt = some .int ∨ rt = some .boolean ∧ (v = 0 ∨ v = 1) then some (some (.inl v)) else none
    | _ => none
  | .areturn => match S with
    | [.inr v] => match rt with
      | some (.object _) => some (some (.inr v))
      | _ => none
    | _ => none
  | .return_ => match S with
    | [] => if rt = none then some none else none
    | _ => none
  | _ => none
def isFin (ins : Instr) : Bool := match ins with
  | .ireturn => true
  | .areturn => true
  | .return_ => true
  | _ => false
/-- a call of the system's own: which, linked how (0: as ever, 1: a nest mate's) -/
def cal (ri : RI) (ins : Instr) : Option Nat := match ins with
  | .invokevirtual _ => some ri.1
  | .invokestatic _ => if ri.2.1 < 2 then some ri.1 else none
  | .invokespecial _ => if ri.2.1 < 2 then some ri.1 else none
  | _ => none
/-- the arguments of a call (the receiver, if there is one, among them) and what lies below them -/
def spl (n : Nat) (S : List AV) : Option (List AV × List AV) := if n ≤ S.length then some ((S.take n).reverse, S.drop n) else none
def ftc (pc : Nat) : List CI → Option CI
  | [] => none
  | e :: l => if e.1 = pc then some e else ftc pc l
abbrev RS : Type := Option AV × KL × FM × PM
abbrev CF : Type := Nat → List AV → KL → FM → PM → Option RS
def psh (r : Option AV) (S : List AV) : List AV := match r with
  | some v => v :: S
  | none => S
/-- the receiver is as the call wants it -/
def rcv (ce : ME) (kd : KL) (as : List AV) : Bool := match me_kd ce with
  | 0 => (match as with
    | .inr (some k) :: _ => decide (3 ≤ k) && (match kd[k]? with
      | some (c, _) => decide (c = me_ix ce + 2)
      | none => false)
    | _ => false)
  | 1 => true
  | _ => (match as with
    | .inr (some _) :: _ => true
    | _ => false)
def nar (ce : ME) : Nat := me_na ce + (if me_kd ce = 1 then 0 else 1)
def go (pg : Nat → Option ME) (d : Nat) (cf : CF) (me : ME) : Nat → Nat → LV → List AV → KL → FM → PM → Option RS
  | 0, _, _, _, _, _, _ => none
  | f + 1, pc, L, S, kd, F, P => match ftc pc (me_ci me) with
    | none => none
    | some e => if isFin e.2.1 = true then (match fin (me_rt me) e.2.1 S with
        | some r => some (r, kd, F, P)
        | none => none)
      else (match cal e.2.2.2 e.2.1 with
        | some i => (match pg i with
          | none => none
          | some ce => (match spl (nar ce) S with
            | none => none
            | some (as, S') => if S'.length ≤ 8 ∧ rcv ce kd as = true then (match cf i as kd F P with
              | none => none
              | some (r, kd1, F1, P1) => go pg d cf me f (e.1 + 3) L (psh r S') kd1 F1 P1) else none))
        | none => (match stp d e.1 e.2.2.1 e.2.2.2 e.2.1 L S kd F P with
          | none => none
          | some (pc', L', S', kd', F', P') => go pg d cf me f pc' L' S' kd' F' P'))
def lvl (pg : Nat → Option ME) : Nat → Nat → CF
  | 0, _ => fun _ _ _ _ _ => none
  | d + 1, f => fun i as kd F P => match pg i with
    | none => none
    | some me => if as.length = nar me ∧ as.length ≤ me_ml me then go pg d (lvl pg d f) me f 0 (as.map some ++ List.replicate (me_ml me - as.length) none) [] kd F P else none
end
section
/-! THE INTERPRETER IS SOUND, an instruction a row. K: where the cells stand (base, the three rows that were there before, kinds' numbers, the heap at the start). -/
abbrev GX : Type := Program × Launch × Env × Room × State × MethodId × Array Value × List Frame × Method × Code
abbrev KX : Type := Nat × (Nat → Nat) × (Nat → ClassId) × (Nat → Nat → Nat) × ClassId × ClassId × Heap × (Nat → Nat) × FM
def kz (K : KX) : Nat := K.1
def kx (K : KX) : Nat → Nat := K.2.1
def kC (K : KX) : Nat → ClassId := K.2.2.1
def kI (K : KX) : Nat → Nat → Nat := K.2.2.2.1
def kcI (K : KX) : ClassId := K.2.2.2.2.1
def kcR (K : KX) : ClassId := K.2.2.2.2.2.1
def kH (K : KX) : Heap := K.2.2.2.2.2.2.1
def kn (K : KX) : Nat → Nat := K.2.2.2.2.2.2.2.1
def kf (K : KX) : FM := K.2.2.2.2.2.2.2.2
abbrev kD (K : KX) : va_G := (kC K, kI K)
def ad (K : KX) (k : Nat) : Nat := if k < 3 then kx K k else kz K + (k - 3)
def gv (K : KX) (v : AV) : Value := match v with
  | .inl i => .int (i32 i)
  | .inr r => va_rf (r.map (ad K))
def okv (v : AV) : Prop := match v with
  | .inl i => inb i
  | .inr _ => True
def sval (K : KX) (c j : Nat) (i : Int) (r : Option Nat) : Value := if isN (tyOf c j) = true then .int (i32 i) else va_rf (r.map (ad K))
def ob (K : KX) (c n : Nat) (f : Int → Int) (q : Int → Option Nat) : List Value := (List.range n).map (fun j => sval K c j (f (j : Int)) (q (j : Int)))
def cel (K : KX) (e : Nat × Nat) (f : Int → Int) (q : Int → Option Nat) : va_E := match e with
  | (0, n) => .inl (kcI K, (n, .inl (fun j => i32 (f (j : Int)))))
  | (1, n) => .inl (kcR K, (n, .inr (.inr (.inr (.inr (fun j => (q (j : Int)).map (ad K)))))))
  | (c + 2, n) => .inr (c, ob K c n f q)
def WI (K : KX) (kd : KL) (F : FM) (P : PM) (H : Heap) : Prop :=
  3 ≤ kd.length ∧ H.size + 3 = kz K + kd.length ∧ (∀ q, q < kz K → H[q]? = (kH K)[q]?) ∧ (∀ k e, 3 ≤ k → kd[k]? = some e → va_at (kD K) vwCl (ad K k, cel K e (F k) (P k)) H) ∧ (∀ k, k < 3 → kd[k]? = some (0, kn K k) ∧ F k = kf K k)
def zA (K : KX) : Nat → Prop := fun q => kz K ≤ q
abbrev RNG : String := "HiddenBids"
def NWs : List Jvm.Cond := [.methodLinkNest RX5 38 yX4_init RNG, .methodLinkNest RX5 45 yX3_init RNG, .methodLinkNest RX7 25 yX6_init RNG, .methodLinkNest RX7 32 yX2_init RNG, .methodLinkNest RX6 41 yX7_isError RNG, .fieldLinkNest RX5 50 RNG "FIRST_SETTINGS" "[I" RNG, .fieldLinkNest RX5 114 RNG "GREATEST_SETTINGS" "[I" RNG]
def TF (K : KX) (U : State) : Prop :=
  (kH K).size = kz K ∧ va_K (kD K) vwCl [(kcI K, .int), (kcR K, .object RX5)] U ∧ (∀ w ∈ NWs, va_Nw w U) ∧ va_AO RX5 U ∧ (∀ k, k < 3 → va_T .int (kx K k) (kn K k) (fun j => .int (i32 (kf K k (j : Int)))) (zA K) U (kH K)) ∧ va_Z RNG "FIRST_SETTINGS" "[I" (.ref (kx K 1)) (zA K) U (kH K) ∧ va_Z RNG "GREATEST_SETTINGS" "[I" (.ref (kx K 2)) (zA K) U (kH K)
def WL : List Jvm.Cond := lw_tbl.filter goodWord
def LI (K : KX) (L : LV) (ls : Array Slot) : Prop := ls.size = L.length ∧ lv_wf ls ∧ ∀ (i : Nat) (v : AV), L[i]? = some (some v) → ls[i]? = some (Slot.val (gv K v))
def XI (K : KX) (locs : List Loc) : Prop := ∀ q ∈ locs, kz K ≤ q.base
def ksz (kd : KL) : Nat := (kd.map Prod.snd).sum
def gW (g : GX) (H : Heap) (locs : List Loc) (cells slots : Nat) (Q : State → Prop) (fr : JFrame) : Prop :=
  W g.1 g.2.1 g.2.2.1 g.2.2.2.1 g.2.2.2.2.1 g.2.2.2.2.2.1 g.2.2.2.2.2.2.1 g.2.2.2.2.2.2.2.1 g.2.2.2.2.2.2.2.2.1 g.2.2.2.2.2.2.2.2.2 H locs cells slots Q fr
def NX (g : GX) (K : KX) (Q : State → Prop) (c0 s0 pc : Nat) (L : LV) (S : List AV) (kd : KL) (F : FM) (P : PM) : Prop :=
  ∀ ls H locs, LI K L ls → WI K kd F P H → XI K locs → gW g H locs (kd.length - c0) (ksz kd - s0) Q (F0 g.2.2.2.2.2.1 pc ls (S.map (gv K)))
def Fx (g : GX) (K : KX) (d : Nat) (me : ME) : Prop :=
  g.1.tables.exec = Jvm.exec ∧ g.2.2.2.2.2.2.2.2.2.code = me_cc me ∧ g.2.2.2.2.2.2.2.2.2.maxLocals = me_ml me ∧ g.2.2.2.2.1.vm.findClass (me_y me).cls = some g.2.2.2.2.2.1.cls ∧ (∀ w ∈ WL, w.before g.2.2.2.2.2.2.1 g.2.2.2.2.1 = true) ∧ TF K g.2.2.2.2.1 ∧ ((me_y me).name = "<init>" → g.2.2.2.2.2.2.2.2.1.name = "<init>") ∧ d ≤ g.2.2.2.1.frames ∧ 39 * d ≤ g.2.2.2.1.locals
theorem i32_toInt {i : Int} (h : inb i) : (i32 i).toInt = i := Int32.toInt_ofInt_of_le (by have := h.1; omega) (by have := h.2; omega)
theorem i32_wr (i : Int) : i32 (wr i) = i32 i := by
  unfold i32
  rw [Int32.ofInt_eq_iff_bmod_eq_toInt, Int32.toInt_ofInt]
  unfold wr
  show Int.bmod _ _ = Int.bmod _ 4294967296
  simp only [Int.bmod]
  omega
theorem inb_wr (i : Int) : inb (wr i) := by unfold inb wr; omega
theorem inb_toInt (x : Int32) : inb x.toInt := ⟨by have := x.le_toInt; omega, by have := x.toInt_lt; omega⟩
theorem i32_of (x : Int32) : i32 x.toInt = x := Int32.ofInt_toInt x
theorem wr_id {i : Int} (h : inb i) : wr i = i := by unfold wr; unfold inb at h; omega
theorem i32_add (a b : Int) : i32 (wr (a + b)) = i32 a + i32 b := by rw [i32_wr]; exact Int32.ofInt_add a b
theorem i32_sub (a b : Int) : i32 (wr (a - b)) = i32 a - i32 b := by rw [i32_wr]; exact Int32.ofInt_sub a b
theorem i32_mul (a b : Int) : i32 (wr (a * b)) = i32 a * i32 b := by rw [i32_wr]; exact Int32.ofInt_mul a b
theorem i32_neg (a : Int) : i32 (wr (-a)) = -i32 a := by rw [i32_wr]; exact Int32.ofInt_neg a
theorem i32_div {a b : Int} (ha : inb a) (hb : inb b) : i32 (wr (Int.tdiv a b)) = i32 a / i32 b := by
  rw [i32_wr, ← Int32.toInt_inj, Int32.toInt_div, i32_toInt ha, i32_toInt hb]
  exact Int32.toInt_ofInt
theorem i32_rem {a b : Int} (ha : inb a) (hb : inb b) : i32 (wr (a - Int.tdiv a b * b)) = i32 a - i32 a / i32 b * i32 b := by
  rw [i32_sub, ← i32_div ha hb, i32_wr (Int.tdiv a b), ← i32_mul, i32_wr]
theorem i32_le {a b : Int} (ha : inb a) (hb : inb b) : i32 a ≤ i32 b ↔ a ≤ b := by rw [Int32.le_iff_toInt_le, i32_toInt ha, i32_toInt hb]
theorem i32_lt {a b : Int} (ha : inb a) (hb : inb b) : i32 a < i32 b ↔ a < b := by rw [Int32.lt_iff_toInt_lt, i32_toInt ha, i32_toInt hb]
theorem i32_eq {a b : Int} (ha : inb a) (hb : inb b) : i32 a = i32 b ↔ a = b := by rw [← Int32.toInt_inj, i32_toInt ha, i32_toInt hb]
theorem i32_0 : (0 : Int32) = i32 0 := by decide
theorem inb_0 : inb 0 := by unfold inb; omega
theorem i32_n {a : Int} (h : inb a) : (i32 a).toNatClampNeg = a.toNat := by show (i32 a).toInt.toNat = _; rw [i32_toInt h]
theorem i32_in {a : Int} {n : Nat} (h : inb a) (h0 : 0 ≤ a) (h1 : a < n) : vp_in (i32 a) n := vp_in_iff.mpr (by rw [i32_toInt h]; exact ⟨h0, h1⟩)
theorem i32_8 {n : Int} (h0 : -128 ≤ n) (h1 : n < 128) : (Int8.ofInt n).toInt32 = i32 n := by
  rw [← Int32.toInt_inj, Int8.toInt_toInt32, i32_toInt (by unfold inb; omega)]
  exact Int8.toInt_ofInt_of_le (by omega) (by omega)
theorem i32_16 {n : Int} (h0 : -32768 ≤ n) (h1 : n < 32768) : (Int16.ofInt n).toInt32 = i32 n := by
  rw [← Int32.toInt_inj, Int16.toInt_toInt32, i32_toInt (by unfold inb; omega)]
  exact Int16.toInt_ofInt_of_le (by omega) (by omega)
theorem inbB_spec {i : Int} (h : inbB i = true) : inb i := by
  simp only [inbB, Bool.and_eq_true, decide_eq_true_eq] at h
  exact h
theorem gv_cat (K : KX) (v : AV) : (gv K v).category = 1 := by
  rcases v with i | r
  · rfl
  · cases r <;> rfl
theorem gv_cats (K : KX) (S : List AV) : ((S.map (gv K)).map fun v => v.category).sum = S.length := by
  induction S with
  | nil => rfl
  | cons v S ih => simp only [List.map_cons, List.sum_cons, List.length_cons, ih, gv_cat]; omega
theorem WL_lw {w : Jvm.Cond} (h : w ∈ WL) : w ∈ lw_tbl := (List.mem_filter.mp h).1
theorem WL_good {w : Jvm.Cond} (h : w ∈ WL) : goodWord w = true := (List.mem_filter.mp h).2
theorem WL_of {p : Nat} {w : Jvm.Cond} (h : lw_tbl[p]? = some w) (hg : goodWord w = true) : w ∈ WL := List.mem_filter.mpr ⟨List.mem_of_getElem? h, hg⟩
theorem WL_GoodIn {ws : List Jvm.Cond} (h : ∀ w ∈ ws, w ∈ WL) : GoodIn WL ws := fun w hw => ⟨h w hw, good_of_word (WL_good (h w hw))⟩
/-! ## locals -/
def lvk (K : KX) (L : LV) : List (Nat × Value) := (List.range L.length).filterMap (fun i => match L[i]? with
  | some (some v) => some (i, gv K v)
  | _ => none)
theorem lvk_mem {K : KX} {L : LV} {q : Nat × Value} (h : q ∈ lvk K L) : ∃ v, L[q.1]? = some (some v) ∧ q.2 = gv K v := by
  unfold lvk at h
  obtain ⟨i, -, hi⟩ := List.mem_filterMap.mp h
  split at hi
  · next v hv => cases hi; exact ⟨v, hv, rfl⟩
  · cases hi
theorem lvk_in {K : KX} {L : LV} {i : Nat} {v : AV} (h : L[i]? = some (some v)) : (i, gv K v) ∈ lvk K L := by
  unfold lvk
  refine List.mem_filterMap.mpr ⟨i, List.mem_range.mpr (List.getElem?_eq_some_iff.mp h).1, ?_⟩
  rw [h]
theorem LI_has {K : KX} {L : LV} {ls : Array Slot} (h : LI K L ls) : lv_has ls L.length (lvk K L) := ⟨h.1, h.2.1, fun q hq => by
  obtain ⟨v, h1, h2⟩ := lvk_mem hq
  rw [h2]
  exact h.2.2 _ _ h1⟩
theorem LI_set {K : KX} {L : LV} {ls : Array Slot} {i : Nat} {v : AV} {lv : List (Nat × Value)} (hsub : ∀ q ∈ lvk K L, q ∈ lv) (h : lv_has ls L.length ((i, gv K v) :: lv.filter (fun q => !(q.1 == i) && !(q.1 + 1 == i && q.2.category == 2)))) : LI K (L.set i (some v)) ls := by
  refine ⟨by rw [List.length_set]; exact h.1, h.2.1, fun j w hj => ?_⟩
  rw [List.getElem?_set] at hj
  by_cases hij : i = j
  · subst hij
    rw [if_pos rfl] at hj
    split at hj
    · cases hj
      exact h.2.2 (i, gv K v) List.mem_cons_self
    · cases hj
  · rw [if_neg hij] at hj
    refine h.2.2 (j, gv K w) (List.mem_cons_of_mem _ (List.mem_filter.mpr ⟨hsub _ (lvk_in hj), ?_⟩))
    have : (j == i) = false := by simp; omega
    simp [this, gv_cat]
/-! ## the world -/
theorem WI_at {K : KX} {kd : KL} {F : FM} {P : PM} {H : Heap} (h : WI K kd F P H) {k : Nat} {e : Nat × Nat} (h3 : 3 ≤ k) (hk : kd[k]? = some e) : va_P (kD K) vwCl [(ad K k, cel K e (F k) (P k))] H := by
  intro i q hi
  have h1 : i < 1 := (List.getElem?_eq_some_iff.mp hi).1
  rw [show i = 0 by omega] at hi
  cases hi
  exact h.2.2.2.1 k e h3 hk
theorem ad_lt {K : KX} {kd : KL} {F : FM} {P : PM} {H : Heap} (h : WI K kd F P H) {k : Nat} {e : Nat × Nat} (h3 : 3 ≤ k) (hk : kd[k]? = some e) : kz K ≤ ad K k ∧ ad K k < H.size := by
  have hl := (List.getElem?_eq_some_iff.mp hk).1
  have h2 := h.2.1
  unfold ad
  rw [if_neg (by omega)]
  omega
theorem ad_inj {K : KX} {k j : Nat} (h3 : 3 ≤ k) (j3 : 3 ≤ j) (h : ad K k = ad K j) : k = j := by
  unfold ad at h
  rw [if_neg (by omega), if_neg (by omega)] at h
  omega
/-- one cell is written anew -/
theorem WI_put {K : KX} {kd : KL} {F F' : FM} {P P' : PM} {H H' : Heap} (h : WI K kd F P H) {k : Nat} {e : Nat × Nat} (h3 : 3 ≤ k) (hk : kd[k]? = some e) (hat : va_at (kD K) vwCl (ad K k, cel K e (F' k) (P' k)) H') (hz : H'.size = H.size) (ho : ∀ q, q ≠ ad K k → H'[q]? = H[q]?) (hF : ∀ j, j ≠ k → F' j = F j) (hP : ∀ j, j ≠ k → P' j = P j) : WI K kd F' P' H' := by
  obtain ⟨a0, a1, a2, a3, a4⟩ := id h
  have hlt := ad_lt h h3 hk
  refine ⟨a0, by rw [hz]; exact a1, fun q hq => (ho q (by omega)).trans (a2 q hq), fun j e' j3 hj => ?_, fun j j3 => ⟨(a4 j j3).1, by rw [hF j (by omega)]; exact (a4 j j3).2⟩⟩
  by_cases hjk : j = k
  · subst hjk
    cases hk.symm.trans hj
    exact hat
  · rw [hF j hjk, hP j hjk]
    exact (a3 j e' j3 hj).kept (ho _ (fun z => hjk (ad_inj j3 h3 z)))
/-- a new cell comes -/
theorem WI_new {K : KX} {kd : KL} {F F' : FM} {P P' : PM} {H H' : Heap} (h : WI K kd F P H) {e : Nat × Nat} (hat : va_at (kD K) vwCl (ad K kd.length, cel K e (F' kd.length) (P' kd.length)) H') (hz : H'.size = H.size + 1) (ho : ∀ q, q < H.size → H'[q]? = H[q]?) (hF : ∀ j, j ≠ kd.length → F' j = F j) (hP : ∀ j, j ≠ kd.length → P' j = P j) : WI K (kd ++ [e]) F' P' H' := by
  obtain ⟨a0, a1, a2, a3, a4⟩ := id h
  refine ⟨by simp; omega, by rw [hz, List.length_append]; simp; omega, fun q hq => (ho q (by omega)).trans (a2 q hq), fun j e' j3 hj => ?_, fun j j3 => ⟨by rw [List.getElem?_append_left (by omega)]; exact (a4 j j3).1, by rw [hF j (by omega)]; exact (a4 j j3).2⟩⟩
  by_cases hl : j < kd.length
  · rw [List.getElem?_append_left hl] at hj
    rw [hF j (by omega), hP j (by omega)]
    exact (a3 j e' j3 hj).kept (ho _ (ad_lt h j3 hj).2)
  · rw [List.getElem?_append_right (by omega)] at hj
    have hz : j - kd.length < 1 := (List.getElem?_eq_some_iff.mp hj).1
    have hjl : j = kd.length := by omega
    subst hjl
    rw [Nat.sub_self] at hj
    cases hj
    exact hat
theorem ad_new {K : KX} {kd : KL} {F : FM} {P : PM} {H : Heap} (h : WI K kd F P H) : ad K kd.length = H.size := by
  have h0 := h.1
  have h2 := h.2.1
  unfold ad
  rw [if_neg (by omega)]
  omega
end
section
section STEPS
variable {g : GX} {K : KX} {d : Nat} {me : ME} {Q : State → Prop} {c0 s0 pc : Nat} {L : LV} {S : List AV} {kd : KL} {F : FM} {P : PM}
abbrev fx_x (h : Fx g K d me) := h.1
theorem nx_const (fx : Fx g K d me) {ins : Instr} {len : Nat} {v : Int} (h : ∀ (H : Heap) (locs : List Loc) (cells slots : Nat) (ls : Array Slot) (rest : List Value), gW g H locs cells slots Q (F0 g.2.2.2.2.2.1 (pc + len) ls (.int (i32 v) :: rest)) → gW g H locs cells slots Q (F0 g.2.2.2.2.2.1 pc ls rest)) (nx : NX g K Q c0 s0 (pc + len) L (.inl v :: S) kd F P) : NX g K Q c0 s0 pc L S kd F P :=
  fun ls H locs hL hW hX => h H locs _ _ ls _ (nx ls H locs hL hW hX)
theorem nx_iconst (fx : Fx g K d me) {v : Int} (hd : decode (me_cc me) pc = .ok (.iconst v, 1)) (nx : NX g K Q c0 s0 (pc + 1) L (.inl v :: S) kd F P) : NX g K Q c0 s0 pc L S kd F P :=
  fun ls H locs hL hW hX => lv_iconst fx.1 fx.2.1 hd rfl (nx ls H locs hL hW hX)
theorem nx_bipush (fx : Fx g K d me) {v : Int} (hd : decode (me_cc me) pc = .ok (.bipush v, 2)) (h0 : -128 ≤ v) (h1 : v < 128) (nx : NX g K Q c0 s0 (pc + 2) L (.inl v :: S) kd F P) : NX g K Q c0 s0 pc L S kd F P :=
  fun ls H locs hL hW hX => lv_bipush fx.1 fx.2.1 hd (i32_8 h0 h1) (nx ls H locs hL hW hX)
theorem nx_sipush (fx : Fx g K d me) {v : Int} (hd : decode (me_cc me) pc = .ok (.sipush v, 3)) (h0 : -32768 ≤ v) (h1 : v < 32768) (nx : NX g K Q c0 s0 (pc + 3) L (.inl v :: S) kd F P) : NX g K Q c0 s0 pc L S kd F P :=
  fun ls H locs hL hW hX => lv_sipush fx.1 fx.2.1 hd (i32_16 h0 h1) (nx ls H locs hL hW hX)
theorem nx_ldc (fx : Fx g K d me) {v : Int} {idx : Nat} (hd : decode (me_cc me) pc = .ok (.ldc idx, 2)) (hw : Jvm.Cond.constant (me_y me).cls idx (i32 v) ∈ WL) (nx : NX g K Q c0 s0 (pc + 2) L (.inl v :: S) kd F P) : NX g K Q c0 s0 pc L S kd F P :=
  fun ls H locs hL hW hX => lv_ldc fx.1 fx.2.1 fx.2.2.2.1 (fx.2.2.2.2.1 _ hw) hd (nx ls H locs hL hW hX)
theorem ldI_spec {i : Nat} {v : AV} (h : ldI L i = some v) : ∃ x, v = .inl x ∧ L[i]? = some (some (.inl x)) := by
  unfold ldI at h
  split at h
  · next x hx => cases h; exact ⟨x, rfl, hx⟩
  · cases h
theorem ldA_spec {i : Nat} {v : AV} (h : ldA L i = some v) : ∃ x, v = .inr (some x) ∧ L[i]? = some (some (.inr (some x))) := by
  unfold ldA at h
  split at h
  · next x hx => cases h; exact ⟨x, rfl, hx⟩
  · cases h
theorem nx_iload (fx : Fx g K d me) {i : Nat} {v : AV} (hd : decode (me_cc me) pc = .ok (.iload i, 2)) (hl : ldI L i = some v) (nx : NX g K Q c0 s0 (pc + 2) L (v :: S) kd F P) : NX g K Q c0 s0 pc L S kd F P := by
  obtain ⟨x, rfl, hx⟩ := ldI_spec hl
  exact fun ls H locs hL hW hX => lv_iload fx.1 fx.2.1 hd (hL.2.2 _ _ hx) (nx ls H locs hL hW hX)
theorem nx_iload_n (fx : Fx g K d me) {i : Fin 4} {v : AV} (hd : decode (me_cc me) pc = .ok (.iload_n i, 1)) (hl : ldI L i.val = some v) (nx : NX g K Q c0 s0 (pc + 1) L (v :: S) kd F P) : NX g K Q c0 s0 pc L S kd F P := by
  obtain ⟨x, rfl, hx⟩ := ldI_spec hl
  exact fun ls H locs hL hW hX => lv_iload_n fx.1 fx.2.1 hd rfl (hL.2.2 _ _ hx) (nx ls H locs hL hW hX)
theorem nx_aload (fx : Fx g K d me) {i : Nat} {v : AV} (hd : decode (me_cc me) pc = .ok (.aload i, 2)) (hl : ldA L i = some v) (nx : NX g K Q c0 s0 (pc + 2) L (v :: S) kd F P) : NX g K Q c0 s0 pc L S kd F P := by
  obtain ⟨x, rfl, hx⟩ := ldA_spec hl
  exact fun ls H locs hL hW hX => lv_aload fx.1 fx.2.1 hd (hL.2.2 _ _ hx) (nx ls H locs hL hW hX)
theorem nx_aload_n (fx : Fx g K d me) {i : Fin 4} {v : AV} (hd : decode (me_cc me) pc = .ok (.aload_n i, 1)) (hl : ldA L i.val = some v) (nx : NX g K Q c0 s0 (pc + 1) L (v :: S) kd F P) : NX g K Q c0 s0 pc L S kd F P := by
  obtain ⟨x, rfl, hx⟩ := ldA_spec hl
  exact fun ls H locs hL hW hX => lv_aload_n fx.1 fx.2.1 hd rfl (hL.2.2 _ _ hx) (nx ls H locs hL hW hX)
theorem nx_istore (fx : Fx g K d me) {i : Nat} {x : Int} (hd : decode (me_cc me) pc = .ok (.istore i, 2)) (hi : i < L.length) (nx : NX g K Q c0 s0 (pc + 2) (L.set i (some (.inl x))) S kd F P) : NX g K Q c0 s0 pc L (.inl x :: S) kd F P :=
  fun ls H locs hL hW hX => lv_istore fx.1 fx.2.1 hd (LI_has hL) hi rfl (fun ls' hl' => nx ls' H locs (LI_set (v := .inl x) (fun _ h => h) hl') hW hX)
theorem nx_istore_n (fx : Fx g K d me) {i : Fin 4} {x : Int} (hd : decode (me_cc me) pc = .ok (.istore_n i, 1)) (hi : i.val < L.length) (nx : NX g K Q c0 s0 (pc + 1) (L.set i.val (some (.inl x))) S kd F P) : NX g K Q c0 s0 pc L (.inl x :: S) kd F P :=
  fun ls H locs hL hW hX => lv_istore_n fx.1 fx.2.1 hd rfl (LI_has hL) hi rfl (fun ls' hl' => nx ls' H locs (LI_set (v := .inl x) (fun _ h => h) hl') hW hX)
theorem nx_astore (fx : Fx g K d me) {i : Nat} {x : Nat} (hd : decode (me_cc me) pc = .ok (.astore i, 2)) (hi : i < L.length) (nx : NX g K Q c0 s0 (pc + 2) (L.set i (some (.inr (some x)))) S kd F P) : NX g K Q c0 s0 pc L (.inr (some x) :: S) kd F P :=
  fun ls H locs hL hW hX => lv_astore fx.1 fx.2.1 hd (LI_has hL) hi rfl (fun ls' hl' => nx ls' H locs (LI_set (v := .inr (some x)) (fun _ h => h) hl') hW hX)
theorem nx_astore_n (fx : Fx g K d me) {i : Fin 4} {x : Nat} (hd : decode (me_cc me) pc = .ok (.astore_n i, 1)) (hi : i.val < L.length) (nx : NX g K Q c0 s0 (pc + 1) (L.set i.val (some (.inr (some x)))) S kd F P) : NX g K Q c0 s0 pc L (.inr (some x) :: S) kd F P :=
  fun ls H locs hL hW hX => lv_astore_n fx.1 fx.2.1 hd rfl (LI_has hL) hi rfl (fun ls' hl' => nx ls' H locs (LI_set (v := .inr (some x)) (fun _ h => h) hl') hW hX)
theorem nx_iinc (fx : Fx g K d me) {i : Nat} {n x : Int} (hd : decode (me_cc me) pc = .ok (.iinc i n, 3)) (hi : L[i]? = some (some (.inl x))) (nx : NX g K Q c0 s0 (pc + 3) (L.set i (some (.inl (wr (x + n))))) S kd F P) : NX g K Q c0 s0 pc L S kd F P :=
  fun ls H locs hL hW hX => lv_iinc (lv := (i, gv K (.inl x)) :: lvk K L) (k := 0) fx.1 fx.2.1 hd ⟨hL.1, hL.2.1, fun q hq => by
    rcases List.mem_cons.mp hq with h | h
    · rw [h]; exact hL.2.2 _ _ hi
    · exact (LI_has hL).2.2 q h⟩ rfl (i32_add x n).symm (List.getElem?_eq_some_iff.mp hi).1 rfl (fun ls' hl' => nx ls' H locs (LI_set (v := .inl (wr (x + n))) (fun q h => List.mem_cons_of_mem _ h) hl') hW hX)
theorem nx_iadd (fx : Fx g K d me) {x y : Int} (hd : decode (me_cc me) pc = .ok (.iadd, 1)) (nx : NX g K Q c0 s0 (pc + 1) L (.inl (wr (x + y)) :: S) kd F P) : NX g K Q c0 s0 pc L (.inl y :: .inl x :: S) kd F P :=
  fun ls H locs hL hW hX => lv_iadd fx.1 fx.2.1 hd (by have := nx ls H locs hL hW hX; simp only [List.map_cons, gv, i32_add] at this; exact this)
theorem nx_isub (fx : Fx g K d me) {x y : Int} (hd : decode (me_cc me) pc = .ok (.isub, 1)) (nx : NX g K Q c0 s0 (pc + 1) L (.inl (wr (x - y)) :: S) kd F P) : NX g K Q c0 s0 pc L (.inl y :: .inl x :: S) kd F P :=
  fun ls H locs hL hW hX => lv_isub fx.1 fx.2.1 hd (by have := nx ls H locs hL hW hX; simp only [List.map_cons, gv, i32_sub] at this; exact this)
theorem nx_imul (fx : Fx g K d me) {x y : Int} (hd : decode (me_cc me) pc = .ok (.imul, 1)) (nx : NX g K Q c0 s0 (pc + 1) L (.inl (wr (x * y)) :: S) kd F P) : NX g K Q c0 s0 pc L (.inl y :: .inl x :: S) kd F P :=
  fun ls H locs hL hW hX => lv_imul fx.1 fx.2.1 hd (by have := nx ls H locs hL hW hX; simp only [List.map_cons, gv, i32_mul] at this; exact this)
theorem nx_iand (fx : Fx g K d me) {x y : Int} (hd : decode (me_cc me) pc = .ok (.iand, 1)) (nx : NX g K Q c0 s0 (pc + 1) L (.inl (i32 x &&& i32 y).toInt :: S) kd F P) : NX g K Q c0 s0 pc L (.inl y :: .inl x :: S) kd F P :=
  fun ls H locs hL hW hX => lv_iand fx.1 fx.2.1 hd (by have := nx ls H locs hL hW hX; simp only [List.map_cons, gv, i32_of] at this; exact this)
theorem nx_ineg (fx : Fx g K d me) {x : Int} (hd : decode (me_cc me) pc = .ok (.ineg, 1)) (nx : NX g K Q c0 s0 (pc + 1) L (.inl (wr (-x)) :: S) kd F P) : NX g K Q c0 s0 pc L (.inl x :: S) kd F P :=
  fun ls H locs hL hW hX => lv_ineg fx.1 fx.2.1 hd (by have := nx ls H locs hL hW hX; simp only [List.map_cons, gv, i32_neg] at this; exact this)
theorem nx_idiv (fx : Fx g K d me) {x y : Int} (hd : decode (me_cc me) pc = .ok (.idiv, 1)) (hx : inb x) (hy : inb y) (h0 : y ≠ 0) (nx : NX g K Q c0 s0 (pc + 1) L (.inl (wr (Int.tdiv x y)) :: S) kd F P) : NX g K Q c0 s0 pc L (.inl y :: .inl x :: S) kd F P :=
  fun ls H locs hL hW hX => lv_idiv fx.1 fx.2.1 hd (fun h => h0 ((i32_eq hy inb_0).mp (h.trans i32_0))) (by have := nx ls H locs hL hW hX; simp only [List.map_cons, gv, i32_div hx hy] at this; exact this)
theorem nx_irem (fx : Fx g K d me) {x y : Int} (hd : decode (me_cc me) pc = .ok (.irem, 1)) (hx : inb x) (hy : inb y) (h0 : y ≠ 0) (nx : NX g K Q c0 s0 (pc + 1) L (.inl (wr (x - Int.tdiv x y * y)) :: S) kd F P) : NX g K Q c0 s0 pc L (.inl y :: .inl x :: S) kd F P :=
  fun ls H locs hL hW hX => lv_irem fx.1 fx.2.1 hd (fun h => h0 ((i32_eq hy inb_0).mp (h.trans i32_0))) (by have := nx ls H locs hL hW hX; simp only [List.map_cons, gv, i32_rem hx hy] at this; exact this)
theorem nx_dup (fx : Fx g K d me) {v : AV} (hd : decode (me_cc me) pc = .ok (.dup, 1)) (nx : NX g K Q c0 s0 (pc + 1) L (v :: v :: S) kd F P) : NX g K Q c0 s0 pc L (v :: S) kd F P :=
  fun ls H locs hL hW hX => lv_dup fx.1 fx.2.1 hd (gv_cat K v) (nx ls H locs hL hW hX)
theorem nx_dup2 (fx : Fx g K d me) {v w : AV} (hd : decode (me_cc me) pc = .ok (.dup2, 1)) (nx : NX g K Q c0 s0 (pc + 1) L (v :: w :: v :: w :: S) kd F P) : NX g K Q c0 s0 pc L (v :: w :: S) kd F P :=
  fun ls H locs hL hW hX => lv_dup2_11 fx.1 fx.2.1 hd (gv_cat K v) (gv_cat K w) (nx ls H locs hL hW hX)
theorem nx_pop (fx : Fx g K d me) {v : AV} (hd : decode (me_cc me) pc = .ok (.pop, 1)) (nx : NX g K Q c0 s0 (pc + 1) L S kd F P) : NX g K Q c0 s0 pc L (v :: S) kd F P :=
  fun ls H locs hL hW hX => lv_pop fx.1 fx.2.1 hd (gv_cat K v) (nx ls H locs hL hW hX)
theorem brn_spec {off : Int} {t : Nat} (h : brn pc off = some t) : (pc : Int) + off = (t : Int) := by
  unfold brn at h
  split at h
  · cases h; omega
  · cases h
theorem nx_goto (fx : Fx g K d me) {off : Int} {t : Nat} (hd : decode (me_cc me) pc = .ok (.goto off, 3)) (ht : brn pc off = some t) (nx : NX g K Q c0 s0 t L S kd F P) : NX g K Q c0 s0 pc L S kd F P :=
  fun ls H locs hL hW hX => lv_goto fx.1 fx.2.1 hd (brn_spec ht) (nx ls H locs hL hW hX)
theorem nx_icmp (fx : Fx g K d me) {c : Jvm.ClassFile.Cond} {off : Int} {t : Nat} {x y : Int} (hd : decode (me_cc me) pc = .ok (.if_icmp c off, 3)) (ht : brn pc off = some t) (hx : inb x) (hy : inb y) (nx : NX g K Q c0 s0 (if cmpc c x y = true then t else pc + 3) L S kd F P) : NX g K Q c0 s0 pc L (.inl y :: .inl x :: S) kd F P := by
  intro ls H locs hL hW hX
  have h := nx ls H locs hL hW hX
  cases c <;> simp only [cmpc, decide_eq_true_eq] at h
  · exact lv_icmp_eq fx.1 fx.2.1 hd (brn_spec ht) (fun q => by rw [if_pos ((i32_eq hx hy).mp q)] at h; exact h) (fun q => by rw [if_neg (fun z => q ((i32_eq hx hy).mpr z))] at h; exact h)
  · exact lv_icmp_ne fx.1 fx.2.1 hd (brn_spec ht) (fun q => by rw [if_pos (fun z => q ((i32_eq hx hy).mpr z))] at h; exact h) (fun q => by rw [if_neg (fun z => z ((i32_eq hx hy).mp q))] at h; exact h)
  · exact lv_icmp_lt fx.1 fx.2.1 hd (brn_spec ht) (fun q => by rw [if_pos ((i32_lt hx hy).mp q)] at h; exact h) (fun q => by rw [if_neg (fun z => q ((i32_lt hx hy).mpr z))] at h; exact h)
  · exact lv_icmp_ge fx.1 fx.2.1 hd (brn_spec ht) (fun q => by rw [if_pos ((i32_le hy hx).mp q)] at h; exact h) (fun q => by rw [if_neg (fun z => q ((i32_le hy hx).mpr z))] at h; exact h)
  · exact lv_icmp_gt fx.1 fx.2.1 hd (brn_spec ht) (fun q => by rw [if_pos ((i32_lt hy hx).mp q)] at h; exact h) (fun q => by rw [if_neg (fun z => q ((i32_lt hy hx).mpr z))] at h; exact h)
  · exact lv_icmp_le fx.1 fx.2.1 hd (brn_spec ht) (fun q => by rw [if_pos ((i32_le hx hy).mp q)] at h; exact h) (fun q => by rw [if_neg (fun z => q ((i32_le hx hy).mpr z))] at h; exact h)
theorem nx_ifc (fx : Fx g K d me) {c : Jvm.ClassFile.Cond} {off : Int} {t : Nat} {x : Int} (hd : decode (me_cc me) pc = .ok (.ifCond c off, 3)) (ht : brn pc off = some t) (hx : inb x) (nx : NX g K Q c0 s0 (if cmpc c x 0 = true then t else pc + 3) L S kd F P) : NX g K Q c0 s0 pc L (.inl x :: S) kd F P := by
  intro ls H locs hL hW hX
  have h := nx ls H locs hL hW hX
  have hy := inb_0
  cases c <;> simp only [cmpc, decide_eq_true_eq] at h
  · exact lv_if_eq fx.1 fx.2.1 hd (brn_spec ht) (fun q => by rw [if_pos ((i32_eq hx hy).mp (q.trans i32_0))] at h; exact h) (fun q => by rw [if_neg (fun z => q (((i32_eq hx hy).mpr z).trans i32_0.symm))] at h; exact h)
  · exact lv_if_ne fx.1 fx.2.1 hd (brn_spec ht) (fun q => by rw [if_pos (fun z => q (((i32_eq hx hy).mpr z).trans i32_0.symm))] at h; exact h) (fun q => by rw [if_neg (fun z => z ((i32_eq hx hy).mp (q.trans i32_0)))] at h; exact h)
  · exact lv_if_lt fx.1 fx.2.1 hd (brn_spec ht) (fun q => by rw [if_pos ((i32_lt hx hy).mp (by rw [← i32_0]; exact q))] at h; exact h) (fun q => by rw [if_neg (fun z => q (by rw [i32_0]; exact (i32_lt hx hy).mpr z))] at h; exact h)
  · exact lv_if_ge fx.1 fx.2.1 hd (brn_spec ht) (fun q => by rw [if_pos ((i32_le hy hx).mp (by rw [← i32_0]; exact q))] at h; exact h) (fun q => by rw [if_neg (fun z => q (by rw [i32_0]; exact (i32_le hy hx).mpr z))] at h; exact h)
  · exact lv_if_gt fx.1 fx.2.1 hd (brn_spec ht) (fun q => by rw [if_pos ((i32_lt hy hx).mp (by rw [← i32_0]; exact q))] at h; exact h) (fun q => by rw [if_neg (fun z => q (by rw [i32_0]; exact (i32_lt hy hx).mpr z))] at h; exact h)
  · exact lv_if_le fx.1 fx.2.1 hd (brn_spec ht) (fun q => by rw [if_pos ((i32_le hx hy).mp (by rw [← i32_0]; exact q))] at h; exact h) (fun q => by rw [if_neg (fun z => q (by rw [i32_0]; exact (i32_le hx hy).mpr z))] at h; exact h)
theorem nx_tab (fx : Fx g K d me) {dflt lo hi : Int} {offs : Array Int} {len : Nat} {x : Int} {st : AS} (hd : decode (me_cc me) pc = .ok (.tableswitch dflt lo hi offs, len)) (hx : inb x) (hs : s_tab pc dflt lo hi offs L (.inl x :: S) kd F P = some st) (nx : NX g K Q c0 s0 st.1 st.2.1 st.2.2.1 st.2.2.2.1 st.2.2.2.2.1 st.2.2.2.2.2) : NX g K Q c0 s0 pc L (.inl x :: S) kd F P := by
  simp only [s_tab] at hs
  split at hs
  · next h =>
    split at hs
    · next off ho =>
      unfold s_goto at hs
      split at hs
      · next t ht =>
        cases hs
        exact fun ls H locs hL hW hX => lv_tableIn fx.1 fx.2.1 hd (by rw [i32_toInt hx]; omega) (by rw [i32_toInt hx]; omega) (by rw [i32_toInt hx]; exact ho) (brn_spec ht) (nx ls H locs hL hW hX)
      · cases hs
    · cases hs
  · next h =>
    unfold s_goto at hs
    split at hs
    · next t ht =>
      cases hs
      exact fun ls H locs hL hW hX => lv_tableOut fx.1 fx.2.1 hd (by rw [i32_toInt hx]; omega) (brn_spec ht) (nx ls H locs hL hW hX)
    · cases hs
theorem nx_look (fx : Fx g K d me) {dflt : Int} {ps : Array (Int × Int)} {len : Nat} {x : Int} {st : AS} (hd : decode (me_cc me) pc = .ok (.lookupswitch dflt ps, len)) (hx : inb x) (hs : s_look pc dflt ps L (.inl x :: S) kd F P = some st) (nx : NX g K Q c0 s0 st.1 st.2.1 st.2.2.1 st.2.2.2.1 st.2.2.2.2.1 st.2.2.2.2.2) : NX g K Q c0 s0 pc L (.inl x :: S) kd F P := by
  simp only [s_look] at hs
  split at hs
  · next h =>
    unfold s_goto at hs
    split at hs
    · next t ht =>
      cases hs
      exact fun ls H locs hL hW hX => lv_lookup fx.1 fx.2.1 hd h (by rw [i32_toInt hx]) (brn_spec ht) (nx ls H locs hL hW hX)
    · cases hs
  · cases hs
theorem nx_mmax (fx : Fx g K d me) {idx : Nat} {x y : Int} (hml : L.length = me_ml me) (hd : decode (me_cc me) pc = .ok (.invokestatic idx, 3)) (hl : Jvm.Cond.methodLink (me_y me).cls idx Lib.Math.max.name ∈ WL) (hst : Jvm.Cond.static Lib.Math.max.name ∈ WL) (hin : Jvm.Cond.initialized "java/lang/Math" ∈ WL) (hco : Jvm.Cond.code Lib.Math.max.name Lib.Math.max.code 2 (some .int) ∈ WL) (h2 : 2 ≤ d) (h4 : S.length ≤ 4) (hx : inb x) (hy : inb y) (hc : kd.length - c0 ≤ g.2.2.2.1.cells ∧ ksz kd - s0 ≤ g.2.2.2.1.slots) (nx : NX g K Q c0 s0 (pc + 3) L (.inl (if x < y then y else x) :: S) kd F P) : NX g K Q c0 s0 pc L (.inl y :: .inl x :: S) kd F P :=
  fun ls H locs hL hW hX => va_mmax fx.1 fx.2.1 (by rw [fx.2.2.1, hL.1, hml]) fx.2.2.2.1 (fx.2.2.2.2.1 _ hl) (fx.2.2.2.2.1 _ hst) (fx.2.2.2.2.1 _ hin) (fx.2.2.2.2.1 _ hco) (by have := fx.2.2.2.2.2.2.2.1; omega) (by have := fx.2.2.2.2.2.2.2.2; rw [gv_cats]; omega) hc.1 hc.2 hd (by
    have e := nx ls H locs hL hW hX
    simp only [List.map_cons, gv] at e
    have e2 : i32 (if x < y then y else x) = if i32 x < i32 y then i32 y else i32 x := by
      by_cases q : x < y
      · rw [if_pos q, if_pos ((i32_lt hx hy).mpr q)]
      · rw [if_neg q, if_neg (fun z => q ((i32_lt hx hy).mp z))]
    rw [e2] at e
    exact e)
theorem nx_mmin (fx : Fx g K d me) {idx : Nat} {x y : Int} (hml : L.length = me_ml me) (hd : decode (me_cc me) pc = .ok (.invokestatic idx, 3)) (hl : Jvm.Cond.methodLink (me_y me).cls idx Lib.Math.min.name ∈ WL) (hst : Jvm.Cond.static Lib.Math.min.name ∈ WL) (hin : Jvm.Cond.initialized "java/lang/Math" ∈ WL) (hco : Jvm.Cond.code Lib.Math.min.name Lib.Math.min.code 2 (some .int) ∈ WL) (h2 : 2 ≤ d) (h4 : S.length ≤ 4) (hx : inb x) (hy : inb y) (hc : kd.length - c0 ≤ g.2.2.2.1.cells ∧ ksz kd - s0 ≤ g.2.2.2.1.slots) (nx : NX g K Q c0 s0 (pc + 3) L (.inl (if y < x then y else x) :: S) kd F P) : NX g K Q c0 s0 pc L (.inl y :: .inl x :: S) kd F P :=
  fun ls H locs hL hW hX => va_mmin fx.1 fx.2.1 (by rw [fx.2.2.1, hL.1, hml]) fx.2.2.2.1 (fx.2.2.2.2.1 _ hl) (fx.2.2.2.2.1 _ hst) (fx.2.2.2.2.1 _ hin) (fx.2.2.2.2.1 _ hco) (by have := fx.2.2.2.2.2.2.2.1; omega) (by have := fx.2.2.2.2.2.2.2.2; rw [gv_cats]; omega) hc.1 hc.2 hd (by
    have e := nx ls H locs hL hW hX
    simp only [List.map_cons, gv] at e
    have e2 : i32 (if y < x then y else x) = if i32 y < i32 x then i32 y else i32 x := by
      by_cases q : y < x
      · rw [if_pos q, if_pos ((i32_lt hy hx).mpr q)]
      · rw [if_neg q, if_neg (fun z => q ((i32_lt hy hx).mp z))]
    rw [e2] at e
    exact e)
theorem nx_oini (fx : Fx g K d me) {idx k : Nat} (hml : L.length = me_ml me) (hd : decode (me_cc me) pc = .ok (.invokespecial idx, 3)) (hl : Jvm.Cond.methodLink (me_y me).cls idx objectInit ∈ WL) (hst : Jvm.Cond.instanceMethod objectInit ∈ WL) (hco : Jvm.Cond.code objectInit ⟨#[0xb1]⟩ 1 none ∈ WL) (h1 : 1 ≤ d) (nx : NX g K Q c0 s0 (pc + 3) L [] kd F P) : NX g K Q c0 s0 pc L [.inr (some k)] kd F P :=
  fun ls H locs hL hW hX => W.objInit fx.1 fx.2.1 fx.2.2.2.1 (fx.2.2.2.2.1 _ hl) (fx.2.2.2.2.1 _ hst) (fx.2.2.2.2.1 _ hco) rfl (by show ls.size = _; rw [fx.2.2.1, hL.1, hml]) rfl hd (by have := fx.2.2.2.2.2.2.2.1; omega) (by have := fx.2.2.2.2.2.2.2.2; show 2 * 0 + 0 + 12 ≤ _; omega) (nx ls H locs hL hW hX)
end STEPS
end
section
section CELLS
variable {g : GX} {K : KX} {d : Nat} {me : ME} {Q : State → Prop} {c0 s0 pc : Nat} {L : LV} {S : List AV} {kd : KL} {F : FM} {P : PM}
theorem clOk : ∀ (c : Nat) (r : vw_C), vwCl[c]? = some r → (∀ k, k < r.2.2 → parseFieldDescriptor (r.2.1 k).2.2.1 = some (tyOf c k)) ∧ (∀ a, a < r.2.2 → ∀ b, b < r.2.2 → a ≠ b → (r.2.1 a).2.1 ≠ (r.2.1 b).2.1) := by
  intro c r h
  match c, h with
  | 0, h => cases h; exact ⟨tyX0_ok, nmX0⟩
  | 1, h => cases h; exact ⟨tyX1_ok, nmX1⟩
  | 2, h => cases h; exact ⟨tyX2_ok, nmX2⟩
  | 3, h => cases h; exact ⟨tyX3_ok, nmX3⟩
  | 4, h => cases h; exact ⟨tyX4_ok, nmX4⟩
  | 5, h => cases h; exact ⟨tyX5_ok, nmX5⟩
  | 6, h => cases h; exact ⟨tyX6_ok, nmX6⟩
  | 7, h => cases h; exact ⟨tyX7_ok, nmX7⟩
  | 8, h => cases h; exact ⟨tyX8_ok, nmX8⟩
  | c + 9, h => simp [vwCl] at h
theorem clDef : ∀ (c : Nat) (r : vw_C), vwCl[c]? = some r → ∀ k, k < r.2.2 → defaultValue (tyOf c k) = if isN (tyOf c k) = true then .int 0 else .null := by
  intro c r h
  match c, h with
  | 0, h => cases h; decide +kernel
  | 1, h => cases h; decide +kernel
  | 2, h => cases h; decide +kernel
  | 3, h => cases h; decide +kernel
  | 4, h => cases h; decide +kernel
  | 5, h => cases h; decide +kernel
  | 6, h => cases h; decide +kernel
  | 7, h => cases h; decide +kernel
  | 8, h => cases h; decide +kernel
  | c + 9, h => simp [vwCl] at h
/-- a row of numbers, one of the three that were there before or one of the system's own -/
theorem rowAt {H : Heap} (fx : Fx g K d me) (hW : WI K kd F P H) {k n : Nat} (hk : kd[k]? = some (0, n)) : ∃ cell : Cell, H[ad K k]? = some cell ∧ g.2.2.2.2.1.isArrayOf cell .int ∧ cell.vm ≠ .unknown ∧ n ≤ cell.slots.size ∧ cell.slots.size.toInt32 = Int32.ofNat n ∧ ∀ j : Nat, j < n → cell.slots[j]? = some (.int (i32 (F k (j : Int)))) := by
  by_cases h3 : 3 ≤ k
  · have h := hW.2.2.2.1 k _ h3 hk
    have h : H[ad K k]? = some (vp_cell (kcI K) (n, .inl (fun j => i32 (F k (j : Int))))) := h
    have hr := (fx.2.2.2.2.2.1.2.1.2 0 _ rfl).1 n (fun j => .int (i32 (F k (j : Int))))
    refine ⟨_, h, hr, (fun q => by cases q), ?_, ?_, fun j hj => ?_⟩
    · show n ≤ (arrV _ _ _).slots.size; rw [arrV_size]; exact Nat.le_refl n
    · show (arrV _ _ _).slots.size.toInt32 = _; rw [arrV_size]
    · show (arrV _ _ _).slots[j]? = _; rw [arrV_read _ _ hj]
  · have h3 : k < 3 := by omega
    obtain ⟨e1, e2⟩ := hW.2.2.2.2 k h3
    cases hk.symm.trans e1
    obtain ⟨cell, h1, h2, h4, h5, h6, h7, h8⟩ := fx.2.2.2.2.2.1.2.2.2.2.1 k h3
    have hz := fx.2.2.2.2.2.1.1
    have hlt := (Array.getElem?_eq_some_iff.mp h1).1
    refine ⟨cell, ?_, h2, h4, h5, h6, fun j hj => ?_⟩
    · unfold ad
      rw [if_pos h3, hW.2.2.1 _ (by omega)]
      exact h1
    · rw [e2]; exact h7 j hj
theorem nx_iald (fx : Fx g K d me) {k n : Nat} {i : Int} (hd : decode (me_cc me) pc = .ok (.iaload, 1)) (hk : kd[k]? = some (0, n)) (hi : inb i) (h0 : 0 ≤ i) (h1 : i < n) (nx : NX g K Q c0 s0 (pc + 1) L (.inl (F k i) :: S) kd F P) : NX g K Q c0 s0 pc L (.inl i :: .inr (some k) :: S) kd F P := by
  intro ls H locs hL hW hX
  obtain ⟨cell, e1, e2, e3, e4, e5, e6⟩ := rowAt fx hW hk
  refine W.iald fx.1 fx.2.1 e1 e2 e3 (j := i32 i) (v := .int (i32 (F k i))) ?_ (by rw [i32_n hi]; have e7 := e6 i.toNat (by omega); rw [Int.toNat_of_nonneg h0] at e7; exact e7) rfl rfl hd (nx ls H locs hL hW hX)
  have h9 := i32_in hi h0 h1
  unfold vp_in at h9
  intro z
  rcases z with z | z
  · exact h9 (Or.inl z)
  · exact h9 (Or.inr (Nat.le_trans e4 z))
theorem nx_alen (fx : Fx g K d me) {k n : Nat} (hd : decode (me_cc me) pc = .ok (.arraylength, 1)) (hk : kd[k]? = some (0, n)) (nx : NX g K Q c0 s0 (pc + 1) L (.inl (n : Int) :: S) kd F P) : NX g K Q c0 s0 pc L (.inr (some k) :: S) kd F P := by
  intro ls H locs hL hW hX
  obtain ⟨cell, e1, e2, e3, e4, e5, e6⟩ := rowAt fx hW hk
  exact W.alen fx.1 fx.2.1 e1 e2 (e5.trans Int32.ofInt_eq_ofNat.symm) rfl rfl hd (nx ls H locs hL hW hX)
theorem nx_aald (fx : Fx g K d me) {k n : Nat} {i : Int} (hd : decode (me_cc me) pc = .ok (.aaload, 1)) (h3 : 3 ≤ k) (hk : kd[k]? = some (1, n)) (hi : inb i) (h0 : 0 ≤ i) (h1 : i < n) (nx : NX g K Q c0 s0 (pc + 1) L (.inr (P k i) :: S) kd F P) : NX g K Q c0 s0 pc L (.inl i :: .inr (some k) :: S) kd F P := by
  intro ls H locs hL hW hX
  have e := nx ls H locs hL hW hX
  refine va_aldq (D := kD K) (cl := vwCl) fx.1 fx.2.1 fx.2.2.2.2.2.1.2.1 (WI_at hW h3 hk) 0 1 (C := RX5) (n := n) (f := fun j => (P k (j : Int)).map (ad K)) rfl rfl (i32_in hi h0 h1) hd ?_
  rw [i32_n hi, Int.toNat_of_nonneg h0]
  exact e
theorem XI_add {locs : List Loc} {a : Addr} {i : Nat} (hX : XI K locs) (h : kz K ≤ a) : XI K (locs ++ [⟨a, i⟩]) := by
  intro q hq
  rcases List.mem_append.mp hq with h1 | h1
  · exact hX q h1
  · rw [List.mem_singleton.mp h1]; exact h
theorem nx_iast (fx : Fx g K d me) {k n : Nat} {i v : Int} (hd : decode (me_cc me) pc = .ok (.iastore, 1)) (h3 : 3 ≤ k) (hk : kd[k]? = some (0, n)) (hi : inb i) (h0 : 0 ≤ i) (h1 : i < n) (nx : NX g K Q c0 s0 (pc + 1) L S kd (stt F k i v) P) : NX g K Q c0 s0 pc L (.inl v :: .inl i :: .inr (some k) :: S) kd F P := by
  intro ls H locs hL hW hX
  have h : H[ad K k]? = some (vp_cell (kcI K) (n, .inl (fun j => i32 (F k (j : Int))))) := hW.2.2.2.1 k _ h3 hk
  have hr := (fx.2.2.2.2.2.1.2.1.2 0 _ rfl).1 n (fun j => .int (i32 (F k (j : Int))))
  refine W.iast fx.1 fx.2.1 h hr (fun q => by cases q) (j := i32 i) (x := i32 v) ?_ rfl rfl hd (fun H' f1 f2 f3 => nx ls H' _ hL (WI_put hW h3 hk ?_ f2 f3 ?_ (fun _ _ => rfl)) (XI_add hX (ad_lt hW h3 hk).1))
  · have := i32_in hi h0 h1
    unfold vp_in at this
    show ¬ (_ ∨ (arrV _ _ _).slots.size ≤ _)
    rw [arrV_size]
    exact this
  · show H'[ad K k]? = some (vp_cell (kcI K) (n, .inl (fun j => i32 (stt F k i v k (j : Int)))))
    rw [f1]
    rw [vp_cell_i, vp_cell_i, arrV_store]
    congr 2
    funext q
    rw [i32_n hi]
    unfold updV stt
    by_cases hq : q = i.toNat
    · rw [if_pos hq, if_pos ⟨rfl, by omega⟩]
    · rw [if_neg hq, if_neg (fun z => hq (by have := z.2; omega))]
  · intro j hj
    funext q
    unfold stt
    rw [if_neg (fun z => hj z.1)]
theorem nx_aast (fx : Fx g K d me) {k n v : Nat} {i : Int} (hd : decode (me_cc me) pc = .ok (.aastore, 1)) (h3 : 3 ≤ k) (hk : kd[k]? = some (1, n)) (hi : inb i) (h0 : 0 ≤ i) (h1 : i < n) (v3 : 3 ≤ v) (hv : kd[v]? = some (7, 17)) (nx : NX g K Q c0 s0 (pc + 1) L S kd F (stp_ P k i (some v))) : NX g K Q c0 s0 pc L (.inr (some v) :: .inl i :: .inr (some k) :: S) kd F P := by
  intro ls H locs hL hW hX
  have h : H[ad K k]? = some (vp_cell (kcR K) (n, .inr (.inr (.inr (.inr (fun j => (P k (j : Int)).map (ad K))))))) := hW.2.2.2.1 k _ h3 hk
  have hvv := hW.2.2.2.1 v _ v3 hv
  obtain ⟨r', hr', cellV, g1, g2, g3, -⟩ := hvv
  have hr : r' = (RX5, TX5, 17) := (Option.some.inj hr').symm
  subst hr
  have hcls := (fx.2.2.2.2.2.1.2.1.1 5 _ rfl).2
  obtain ⟨kA, comp, k1, k2, k3, -⟩ := (fx.2.2.2.2.2.1.2.1.2 1 _ rfl).2
  have hcomp : comp = (kD K).1 5 := Option.some.inj (k3.symm.trans hcls.1)
  subst hcomp
  obtain ⟨kC', hkC, -⟩ := hcls.2
  have hin := i32_in hi h0 h1
  unfold vp_in at hin
  refine W.aast fx.1 fx.2.1 h (fun q z => by cases z) (fun z => by cases z) k1 k2 rfl hkC (j := i32 i) ⟨fun z => hin (Or.inl z), ?_⟩ g1 (fun q z => by rw [g3] at z; cases z) (by rw [g2]; exact hkC) (by rw [g2]; exact va_assign hcls) rfl rfl hd (fun H' f1 f2 f3 => nx ls H' _ hL (WI_put hW h3 hk ?_ f2 f3 (fun _ _ => rfl) ?_) (XI_add hX (ad_lt hW h3 hk).1))
  · show _ < (arrV _ _ _).slots.size
    rw [arrV_size]
    omega
  · show H'[ad K k]? = some (vp_cell (kcR K) (n, .inr (.inr (.inr (.inr (fun j => (stp_ P k i (some v) k (j : Int)).map (ad K)))))))
    rw [f1]
    rw [vp_cell_q, vp_cell_q, arrV_store]
    congr 2
    funext q
    rw [i32_n hi]
    unfold updV stp_
    by_cases hq : q = i.toNat
    · rw [if_pos hq, if_pos ⟨rfl, by omega⟩]; rfl
    · rw [if_neg hq, if_neg (fun z => hq (by have := z.2; omega))]
  · intro j hj
    funext q
    unfold stp_
    rw [if_neg (fun z => hj z.1)]
theorem ob_get {c n j : Nat} {f : Int → Int} {q : Int → Option Nat} (hj : j < n) : (ob K c n f q)[j]? = some (sval K c j (f (j : Int)) (q (j : Int))) := by
  unfold ob
  rw [List.getElem?_map, List.getElem?_range hj]
  rfl
theorem nx_getf (fx : Fx g K d me) {k n ci j idx : Nat} {r : vw_C} (hd : decode (me_cc me) pc = .ok (.getfield idx, 3)) (h3 : 3 ≤ k) (hk : kd[k]? = some (ci + 2, n)) (hj : j < n) (hr : vwCl[ci]? = some r) (hjr : j < r.2.2) (hu : ∀ w ∈ u_ws r.1 r.2.1 r.2.2, w ∈ WL) (hl : Jvm.Cond.fieldLink (me_y me).cls idx (r.2.1 j).1 (r.2.1 j).2.1 (r.2.1 j).2.2.1 ∈ WL) (nx : NX g K Q c0 s0 (pc + 3) L ((if isN (tyOf ci j) = true then .inl (F k (j : Int)) else .inr (P k (j : Int))) :: S) kd F P) : NX g K Q c0 s0 pc L (.inr (some k) :: S) kd F P := by
  intro ls H locs hL hW hX
  have e := nx ls H locs hL hW hX
  have e2 : gv K (if isN (tyOf ci j) = true then .inl (F k (j : Int)) else .inr (P k (j : Int))) = sval K ci j (F k (j : Int)) (P k (j : Int)) := by
    unfold sval
    split <;> rfl
  rw [List.map_cons, e2] at e
  exact va_get (D := kD K) (cl := vwCl) (T := r.2.1) (C := r.1) (N := r.2.2) (ci := ci) fx.1 fx.2.1 fx.2.2.2.2.1 hu fx.2.2.2.1 fx.2.2.2.2.2.1.2.1 (WI_at hW h3 hk) 0 rfl hr j hjr (fx.2.2.2.2.1 _ hl) (fun _ z => z) (ob_get hj) hd e
theorem ob_set {c n j : Nat} {f : Int → Int} {q : Int → Option Nat} {f' : Int → Int} {q' : Int → Option Nat} (hf : ∀ i : Nat, i ≠ j → f' (i : Int) = f (i : Int)) (hq : ∀ i : Nat, i ≠ j → q' (i : Int) = q (i : Int)) : (ob K c n f q).set j (sval K c j (f' (j : Int)) (q' (j : Int))) = ob K c n f' q' := by
  apply List.ext_getElem?
  intro i
  rw [List.getElem?_set]
  unfold ob
  by_cases hij : j = i
  · subst hij
    rw [if_pos rfl]
    by_cases hn : j < n
    · rw [if_pos (by simp; exact hn), List.getElem?_map, List.getElem?_range hn]; rfl
    · rw [if_neg (by simp; omega), List.getElem?_map, List.getElem?_eq_none (by simp; omega)]; rfl
  · rw [if_neg hij, List.getElem?_map, List.getElem?_map]
    by_cases hn : i < n
    · rw [List.getElem?_range hn]
      show some (sval K c i (f (i : Int)) (q (i : Int))) = some (sval K c i (f' (i : Int)) (q' (i : Int)))
      rw [hf i (fun z => hij z.symm), hq i (fun z => hij z.symm)]
    · rw [List.getElem?_eq_none (by simp; omega)]
      rfl
theorem nx_putV (fx : Fx g K d me) {k n ci j idx : Nat} {r : vw_C} {f' : FM} {p' : PM} {v : AV} (hd : decode (me_cc me) pc = .ok (.putfield idx, 3)) (h3 : 3 ≤ k) (hk : kd[k]? = some (ci + 2, n)) (hj : j < n) (hr : vwCl[ci]? = some r) (hjr : j < r.2.2) (hu : ∀ w ∈ u_ws r.1 r.2.1 r.2.2, w ∈ WL) (hl : Jvm.Cond.fieldLink (me_y me).cls idx (r.2.1 j).1 (r.2.1 j).2.1 (r.2.1 j).2.2.1 ∈ WL) (hfin : (r.2.1 j).2.2.2 = false ∨ ((me_y me).name = "<init>" ∧ (r.2.1 j).1 = (me_y me).cls))
    (hn : narrow (tyOf ci j) (gv K v) = gv K v) (hfit : fits (tyOf ci j) (gv K v) = true) (hv : gv K v = sval K ci j (f' k (j : Int)) (p' k (j : Int))) (hF : ∀ (a : Nat) (b : Int), ¬ (a = k ∧ b = (j : Int)) → f' a b = F a b) (hP : ∀ (a : Nat) (b : Int), ¬ (a = k ∧ b = (j : Int)) → p' a b = P a b) (nx : NX g K Q c0 s0 (pc + 3) L S kd f' p') : NX g K Q c0 s0 pc L (v :: .inr (some k) :: S) kd F P := by
  intro ls H locs hL hW hX
  obtain ⟨C, T, N⟩ := r
  dsimp only at hjr hu hl hfin hr
  have hts := fx.2.2.2.2.1
  have hKc := fx.2.2.2.2.2.1.2.1
  obtain ⟨hty, hnm⟩ := clOk ci _ hr
  have hap := va_apart (own := (me_y me).cls) (D := kD K) hts hu (tyOf ci) hty hnm hKc hr
  obtain ⟨r', h1, cell, q1, q2, q3, q4⟩ := hW.2.2.2.1 k _ h3 hk
  have hre : r' = (C, T, N) := Option.some.inj (h1.symm.trans hr)
  subst hre
  obtain ⟨hS, hfc, kC', hkC, hkind⟩ := hKc.1 ci _ hr
  obtain ⟨cf, kf', fi, f, hi, hsl⟩ := hS j hjr
  have hlays := u_lays hts hu hjr
  have hst := (u_facts hfc hkC hlays hi).1
  have hat : ∀ H' : Heap, H'[ad K k]? = some (cell.setSlot ((kD K).2 ci j) (gv K v)) → va_at (kD K) vwCl (ad K k, cel K (ci + 2, n) (f' k) (p' k)) H' := by
    intro H' e1
    refine ⟨_, hr, t_OB.to (V := updV (vp_V (ob K ci n (F k) (P k))) j (gv K v)) ⟨_, e1, q2, q3, t_set q4 hap hjr (gv K v)⟩ (fun i _ => ?_)⟩
    have hlen : j < (ob K ci n (F k) (P k)).length := by unfold ob; simp; exact hj
    rw [vp_updV_set hlen, hv, ob_set (fun i hi => hF k i (fun z => hi (by have := z.2; omega))) (fun i hi => hP k i (fun z => hi (by have := z.2; omega)))]
  have hgo : ∀ (H' : Heap) (i : Nat), H'[ad K k]? = some (cell.setSlot ((kD K).2 ci j) (gv K v)) → H'.size = H.size → (∀ q, q ≠ ad K k → H'[q]? = H[q]?) → gW g H' (locs ++ [⟨ad K k, i⟩]) (kd.length - c0) (ksz kd - s0) Q (F0 g.2.2.2.2.2.1 (pc + 3) ls (S.map (gv K))) :=
    fun H' i e1 e2 e3 => nx ls H' _ hL (WI_put hW h3 hk (hat H' e1) e2 e3 (fun a ha => funext fun b => hF a b (fun z => ha z.1)) (fun a ha => funext fun b => hP a b (fun z => ha z.1))) (XI_add hX (ad_lt hW h3 hk).1)
  by_cases hff : (T j).2.2.2 = false
  · have hlay := hts _ (hu _ (u_in_lay hjr))
    unfold u_lay at hlay
    rw [if_neg (by rw [hff]; decide)] at hlay
    have h6 := u_store hfc hkC hkind hlay hi (hty j hjr) hn hfit
    refine W.putK fx.1 fx.2.1 (f := f) ⟨fx.2.2.2.1, hts _ hl, ⟨_, _, _, hi⟩, hst⟩ (by rw [q2]; exact h6) q1 q3 (by rw [hsl]; exact k2_hasslot (q4 j hjr)) rfl rfl hd fun H' e1 e2 e3 => ?_
    rw [hsl] at e1 ⊢
    exact hgo H' _ e1 e2 e3
  · rcases hfin with h | ⟨hini, hdecl⟩
    · exact absurd h hff
    · have hft : (T j).2.2.2 = true := by cases hb : (T j).2.2.2 <;> simp_all
      have hlay := hts _ (hu _ (u_in_lay hjr))
      unfold u_lay at hlay
      rw [if_pos hft] at hlay
      have hcf : g.2.2.2.2.2.1.cls = cf := by
        obtain ⟨_, _, c', _, _, _, -, -, hf', -, -, -, hown2, -⟩ := Cond.laysFinal_spec hlay
        have e1 : c' = cf := by have := hi.symm.trans hf'; simp at this; exact this.1.symm
        rw [hdecl] at hown2
        rw [← e1]; exact Option.some.inj (fx.2.2.2.1.symm.trans hown2)
      have h6 := u_fits hfc hkC hkind (Or.inr hlay) hi (hty j hjr) hn hfit
      refine W.putFinK fx.1 fx.2.1 fx.2.2.2.1 (hts _ hl) hi hst hcf (fx.2.2.2.2.2.2.1 hini) (by rw [q2]; exact h6) q1 q3 (by rw [hsl]; exact k2_hasslot (q4 j hjr)) rfl rfl hd fun H' e1 e2 e3 => ?_
      rw [hsl] at e1 ⊢
      exact hgo H' _ e1 e2 e3
theorem nx_new (fx : Fx g K d me) {ci n idx : Nat} {r : vw_C} (hd : decode (me_cc me) pc = .ok (.new idx, 3)) (hr : vwCl[ci]? = some r) (hn : n = r.2.2) (hu : ∀ w ∈ u_ws r.1 r.2.1 r.2.2, w ∈ WL) (hcl : Jvm.Cond.classLink (me_y me).cls idx r.1 ∈ WL) (hins : Jvm.Cond.instantiable r.1 r.2.2 ∈ WL) (hini : Jvm.Cond.initialized r.1 ∈ WL) (hc0 : c0 ≤ kd.length) (hs0 : s0 ≤ ksz kd) (hrc : kd.length + 1 - c0 ≤ g.2.2.2.1.cells) (hrs : ksz kd + n - s0 ≤ g.2.2.2.1.slots)
    (nx : NX g K Q c0 s0 (pc + 3) L (.inr (some kd.length) :: S) (kd ++ [(ci + 2, n)]) (clF F kd.length) (clP P kd.length)) : NX g K Q c0 s0 pc L S kd F P := by
  intro ls H locs hL hW hX
  obtain ⟨C, T, N⟩ := r
  dsimp only at hn hu hcl hins hini hr
  subst hn
  have hts := fx.2.2.2.2.1
  have hKn := fx.2.2.2.2.2.1.2.1.1 ci _ hr
  obtain ⟨hty, -⟩ := clOk ci _ hr
  have ha := ad_new hW
  refine W.newcK fx.1 fx.2.1 fx.2.2.2.1 (hts _ hcl) (hts _ hins) (hts _ hini) rfl hd (by omega) (by omega) hKn.2.1 rfl fun H1 kC' hkC e1 z1 o1 => ?_
  have hW1 : WI K (kd ++ [(ci + 2, n)]) (clF F kd.length) (clP P kd.length) H1 := by
    refine WI_new hW ?_ z1 o1 (fun j hj => funext fun b => by unfold clF; rw [if_neg hj]) (fun j hj => funext fun b => by unfold clP; rw [if_neg hj])
    refine ⟨_, hr, t_OB.to (V := fun k => defaultValue (tyOf ci k)) (by rw [ha]; exact u_born (tyOf ci) hts hu hKn hkC e1 hty) (fun j hj => ?_)⟩
    have hj : j < n := hj
    unfold vp_V
    rw [List.getD_eq_getElem?_getD, ob_get hj]
    show defaultValue _ = sval K ci j _ _
    unfold sval clF clP
    rw [if_pos rfl, if_pos rfl, clDef ci _ hr j hj]
    split <;> rfl
  have e := nx ls H1 locs hL hW1 hX
  rw [List.map_cons, show gv K (.inr (some kd.length)) = .ref H.size by show Value.ref (ad K kd.length) = _; rw [ha]] at e
  rw [show (kd ++ [(ci + 2, n)]).length - c0 = kd.length - c0 + 1 by simp; omega, show ksz (kd ++ [(ci + 2, n)]) - s0 = ksz kd - s0 + n by unfold ksz at *; simp at *; omega] at e
  exact e
theorem nx_newa (fx : Fx g K d me) {n : Int} (hd : decode (me_cc me) pc = .ok (.newarray .int, 2)) (harr : Jvm.Cond.arrayClass .int ∈ WL) (h0 : 0 ≤ n) (h1 : n ≤ 100000) (hc0 : c0 ≤ kd.length) (hs0 : s0 ≤ ksz kd) (hrc : kd.length + 1 - c0 ≤ g.2.2.2.1.cells) (hrs : ksz kd + n.toNat - s0 ≤ g.2.2.2.1.slots)
    (nx : NX g K Q c0 s0 (pc + 2) L (.inr (some kd.length) :: S) (kd ++ [(0, n.toNat)]) (clF F kd.length) P) : NX g K Q c0 s0 pc L (.inl n :: S) kd F P := by
  intro ls H locs hL hW hX
  have hts := fx.2.2.2.2.1
  have ha := ad_new hW
  have hb : inb n := by unfold inb; omega
  refine va_newaK (atype := .int) fx.1 fx.2.1 (hts _ harr) rfl hd rfl (n := i32 n) (N := n.toNat) (fun z => by rw [i32_0] at z; have := (i32_lt hb inb_0).mp z; omega) (i32_n hb) (by show n.toNat * 4 ≤ _; omega) (by omega) (by omega) rfl fun H1 cA e1 z1 o1 hAr hNm => ?_
  have hcA : cA = kcI K := by
    have h2 := (fx.2.2.2.2.2.1.2.1.2 0 _ rfl).2
    exact Option.some.inj (hNm.symm.trans h2)
  subst hcA
  have hW1 : WI K (kd ++ [(0, n.toNat)]) (clF F kd.length) P H1 := by
    refine WI_new hW ?_ z1 o1 (fun j hj => funext fun b => by unfold clF; rw [if_neg hj]) (fun j hj => rfl)
    show H1[ad K kd.length]? = some (vp_cell (kcI K) (n.toNat, .inl (fun j => i32 (clF F kd.length kd.length (j : Int)))))
    rw [ha, e1, vp_cell_i]
    congr 2
    funext j
    unfold clF
    rw [if_pos rfl]
    rfl
  have e := nx ls H1 locs hL hW1 hX
  rw [List.map_cons, show gv K (.inr (some kd.length)) = .ref H.size by show Value.ref (ad K kd.length) = _; rw [ha]] at e
  have e8 : List.length (kd ++ [((0 : Nat), n.toNat)]) - c0 = kd.length - c0 + 1 := by simp; omega
  have e9 : ksz (kd ++ [((0 : Nat), n.toNat)]) - s0 = ksz kd - s0 + n.toNat := by unfold ksz at *; simp at *; omega
  rw [e8, e9] at e
  exact e
theorem nx_anew (fx : Fx g K d me) {n : Int} {idx : Nat} (hd : decode (me_cc me) pc = .ok (.anewarray idx, 3)) (hcl : Jvm.Cond.classLink (me_y me).cls idx RX5 ∈ WL) (h0 : 0 ≤ n) (h1 : n ≤ 100000) (hc0 : c0 ≤ kd.length) (hs0 : s0 ≤ ksz kd) (hrc : kd.length + 1 - c0 ≤ g.2.2.2.1.cells) (hrs : ksz kd + n.toNat - s0 ≤ g.2.2.2.1.slots)
    (nx : NX g K Q c0 s0 (pc + 3) L (.inr (some kd.length) :: S) (kd ++ [(1, n.toNat)]) F (clP P kd.length)) : NX g K Q c0 s0 pc L (.inl n :: S) kd F P := by
  intro ls H locs hL hW hX
  have hts := fx.2.2.2.2.1
  have ha := ad_new hW
  have hb : inb n := by unfold inb; omega
  have hbn : (i32 n).toNatClampNeg = n.toNat := i32_n hb
  refine W.anew fx.1 fx.2.1 fx.2.2.2.1 (hts _ hcl) (va_AO.use fx.2.2.2.2.2.1.2.2.2.1) rfl hd (n := i32 n) rfl (fun z => by rw [i32_0] at z; have := (i32_lt hb inb_0).mp z; omega) (by rw [hbn]; omega) (by omega) (by rw [hbn]; omega) fun cA kA comp f1 f2 f3 f4 => ?_
  rw [hbn]
  generalize hH1 : H.push ({ cls := cA, slots := Array.replicate n.toNat .null, vm := .none } : Cell) = H1
  have z1 : H1.size = H.size + 1 := by rw [← hH1, Array.size_push]
  have e1 : H1[H.size]? = some (arrV cA n.toNat (fun _ => .null)) := by rw [← hH1, Array.getElem?_push_size, ← arrV_new]
  have o1 : ∀ q : Nat, q < H.size → H1[q]? = H[q]? := fun q hq => by rw [← hH1, Array.getElem?_push, if_neg (Nat.ne_of_lt hq)]
  have hcA : cA = kcR K := by
    obtain ⟨kA', comp', -, -, -, h4⟩ := (fx.2.2.2.2.2.1.2.1.2 1 _ rfl).2
    exact Option.some.inj (f1.symm.trans h4)
  subst hcA
  have hW1 : WI K (kd ++ [(1, n.toNat)]) F (clP P kd.length) H1 := by
    refine WI_new hW ?_ z1 o1 (fun j hj => rfl) (fun j hj => funext fun b => by unfold clP; rw [if_neg hj])
    show H1[ad K kd.length]? = some (vp_cell (kcR K) (n.toNat, .inr (.inr (.inr (.inr (fun j => (clP P kd.length kd.length (j : Int)).map (ad K)))))))
    rw [ha, e1, vp_cell_q]
    congr 2
    funext j
    unfold clP
    rw [if_pos rfl]
    rfl
  have e := nx ls H1 locs hL hW1 hX
  rw [List.map_cons, show gv K (.inr (some kd.length)) = .ref H.size by show Value.ref (ad K kd.length) = _; rw [ha]] at e
  have e8 : List.length (kd ++ [((1 : Nat), n.toNat)]) - c0 = kd.length - c0 + 1 := by simp; omega
  have e9 : ksz (kd ++ [((1 : Nat), n.toNat)]) - s0 = ksz kd - s0 + n.toNat := by unfold ksz at *; simp at *; omega
  rw [e8, e9] at e
  exact e
theorem nx_gets (fx : Fx g K d me) {idx i : Nat} {nm : String} (hd : decode (me_cc me) pc = .ok (.getstatic idx, 3)) (hw : Jvm.Cond.fieldLinkNest (me_y me).cls idx RNG nm "[I" RNG ∈ NWs) (hZ : va_Z RNG nm "[I" (.ref (kx K i)) (zA K) g.2.2.2.2.1 (kH K)) (hi : i < 3) (nx : NX g K Q c0 s0 (pc + 3) L (.inr (some i) :: S) kd F P) : NX g K Q c0 s0 pc L S kd F P := by
  intro ls H locs hL hW hX
  have hN := fx.2.2.2.2.2.1.2.2.1 _ hw
  have hHz := fx.2.2.2.2.2.1.1
  have e := nx ls H locs hL hW hX
  rw [List.map_cons, show gv K (.inr (some i)) = .ref (kx K i) by show Value.ref (ad K i) = _; unfold ad; rw [if_pos hi]] at e
  obtain ⟨cf, kf', fi, f, a, cell, h1, h2, h3, h4, h5, h6, h7, h8⟩ := hZ
  exact va_WgetsN fx.1 fx.2.1 fx.2.2.2.1 (va_Nw.use rfl hN) h1 h2 h3 h4 (by rw [hW.2.2.1 a (by have := (Array.getElem?_eq_some_iff.mp h5).1; omega)]; exact h5) (fun z => by rw [z] at h6; cases h6) h7 rfl hd e
theorem nx_copy (fx : Fx g K d me) {idx k0 k1 n0 n1 : Nat} {n sp dp : Int} (hml : L.length = me_ml me) (hd : decode (me_cc me) pc = .ok (.invokestatic idx, 3)) (hl : Jvm.Cond.methodLink (me_y me).cls idx arraycopyName ∈ WL) (hna : Jvm.Cond.native arraycopyName ∈ WL) (hst : Jvm.Cond.static arraycopyName ∈ WL) (hini : Jvm.Cond.initialized "java/lang/System" ∈ WL) (h2 : 2 ≤ d) (h3 : 3 ≤ k1) (hk0 : kd[k0]? = some (0, n0)) (hk1 : kd[k1]? = some (0, n1)) (bn : inb n) (bs : inb sp) (bd : inb dp) (p1 : 0 ≤ n) (p2 : 0 ≤ sp) (p3 : 0 ≤ dp) (p4 : sp + n ≤ n0) (p5 : dp + n ≤ n1)
    (nx : NX g K Q c0 s0 (pc + 3) L [] kd (cpF F k0 sp k1 dp n) P) : NX g K Q c0 s0 pc L [.inl n, .inl dp, .inr (some k1), .inl sp, .inr (some k0)] kd F P := by
  intro ls H locs hL hW hX
  have hts := fx.2.2.2.2.1
  obtain ⟨cs, e1, e2, e3, e4, e5, e6⟩ := rowAt fx hW hk0
  have hc1 : H[ad K k1]? = some (vp_cell (kcI K) (n1, .inl (fun j => i32 (F k1 (j : Int))))) := hW.2.2.2.1 k1 _ h3 hk1
  have hr1 := (fx.2.2.2.2.2.1.2.1.2 0 _ rfl).1 n1 (fun j => .int (i32 (F k1 (j : Int))))
  obtain ⟨hob0, c0', hk0', cm0, hkk0⟩ := e2
  obtain ⟨hob1, c1', hk1', cm1, hkk1⟩ := hr1
  have nn : ∀ z : Int, inb z → 0 ≤ z → ¬ i32 z < 0 := fun z hb hz q => by rw [i32_0] at q; have := (i32_lt hb inb_0).mp q; omega
  intro T hT X
  obtain ⟨vm', X', step⟩ := X.arraycopy fx.1 fx.2.2.2.1 (hts _ hl) (hts _ hna) (hts _ hst) (hts _ hini) (src := ad K k0) (dst := ad K k1) (cs := cs) (cd := vp_cell (kcI K) (n1, .inl (fun j => i32 (F k1 (j : Int))))) (srcPos := i32 sp) (destPos := i32 dp) (n := i32 n) (by rw [hT]; exact e1) (by rw [hT]; exact hc1)
    hob0 (fun _ h => by cases h) e3 (fun h => by cases h) hk0' hk1' hkk0 hkk1 (by simp [refKind]) (nn _ bs p2) (nn _ bd p3) (nn _ bn p1)
    (by rw [i32_toInt bs, i32_toInt bn]; omega)
    (by rw [i32_toInt bd, i32_toInt bn]; show ¬ _ > ((arrV _ _ _).slots.size : Int); rw [arrV_size]; omega)
    (fun vm₁ _ i hi => by
      have hi : i < (i32 n).toNatClampNeg := hi
      have e : cs.slots.getD ((i32 sp).toNatClampNeg + i) .null = .int (i32 (F k0 ((sp.toNat + i : Nat) : Int))) := by
        rw [i32_n bs, Array.getD_eq_getD_getElem?, e6 _ (by rw [i32_n bn] at hi; omega)]
        rfl
      refine ⟨?_, ?_⟩
      · rw [e]; rfl
      · rw [e]; exact trivial)
    (g := F0 g.2.2.2.2.2.1 pc ls (.int (i32 n) :: .int (i32 dp) :: .ref (ad K k1) :: .int (i32 sp) :: .ref (ad K k0) :: [])) rfl (by rw [fx.2.2.1]; exact hL.1.trans hml) (rest := []) rfl (by rw [fx.2.1]; exact hd) (by have := fx.2.2.2.2.2.2.2.1; omega) (by
      have h9 := fx.2.2.2.2.2.2.2.2
      have h8 : nativeFrameWords "java/lang/System" "arraycopy" 5 ≤ 60 := by decide +kernel
      show 2 * 0 + 0 + _ ≤ _
      omega)
  have e1' : copied cs (vp_cell (kcI K) (n1, .inl (fun j => i32 (F k1 (j : Int))))) (i32 sp) (i32 dp) (i32 n) = vp_cell (kcI K) (n1, .inl (va_cpy (fun j => i32 (F k0 (j : Int))) (fun j => i32 (F k1 (j : Int))) (i32 sp).toNatClampNeg (i32 dp).toNatClampNeg (i32 n).toNatClampNeg)) := va_copiedX (n1 := n1) (sp := (i32 sp).toNatClampNeg) (dp := (i32 dp).toNatClampNeg) (n := (i32 n).toNatClampNeg) (fun z => .int z) cs (kcI K) (fun j => i32 (F k0 (j : Int))) (fun j => i32 (F k1 (j : Int))) e6 (by rw [i32_n bs, i32_n bn]; omega)
  rw [e1', i32_n bs, i32_n bd, i32_n bn] at X' step
  have hlt : ad K k1 < H.size := (ad_lt hW h3 hk1).2
  generalize hcc : vp_cell (kcI K) (n1, .inl (va_cpy (fun j => i32 (F k0 (j : Int))) (fun j => i32 (F k1 (j : Int))) sp.toNat dp.toNat n.toNat)) = cc' at X' step
  have hheap : ((T.setVm vm').setCell (ad K k1) cc').heap = H.setIfInBounds (ad K k1) cc' := by rw [← hT]; rfl
  have hW1 : WI K kd (cpF F k0 sp k1 dp n) P (H.setIfInBounds (ad K k1) cc') := by
    refine WI_put hW h3 hk1 ?_ (by simp) (fun q hq => by simp [Array.getElem?_setIfInBounds, Ne.symm hq]) (fun j hj => funext fun b => by unfold cpF; rw [if_neg (fun z => hj z.1)]) (fun _ _ => rfl)
    show (H.setIfInBounds (ad K k1) cc')[ad K k1]? = some (vp_cell (kcI K) (n1, .inl (fun j => i32 (cpF F k0 sp k1 dp n k1 (j : Int)))))
    rw [Array.getElem?_setIfInBounds, if_pos rfl, if_pos hlt, ← hcc]
    congr 4
    funext j
    unfold va_cpy cpF
    by_cases hq : dp.toNat ≤ j ∧ j < dp.toNat + n.toNat
    · rw [if_pos hq, if_pos ⟨rfl, by omega, by omega⟩]
      show i32 (F k0 ((sp.toNat + (j - dp.toNat) : Nat) : Int)) = _
      rw [show ((sp.toNat + (j - dp.toNat) : Nat) : Int) = sp + ((j : Int) - dp) by omega]
    · rw [if_neg hq, if_neg (fun z => hq (by have := z.2; omega))]
  obtain ⟨t, a1, b1⟩ := nx ls _ _ hL hW1 (fun q hq => by
    rcases List.mem_append.mp hq with h | h
    · exact hX q h
    · obtain ⟨z, -, hz⟩ := List.mem_map.mp h
      rw [← hz]
      exact (ad_lt hW h3 hk1).1) _ hheap X'
  exact ⟨t, step t a1, b1⟩
end CELLS
end
section
def wAt (p : Nat) (w : Jvm.Cond) : Bool := decide (lw_tbl[p]? = some w) && goodWord w
def nAt (p : Nat) (w : Jvm.Cond) : Bool := decide (NWs[p]? = some w)
theorem wAt_in {p : Nat} {w : Jvm.Cond} (h : wAt p w = true) : w ∈ WL := by
  simp only [wAt, Bool.and_eq_true, decide_eq_true_eq] at h
  exact WL_of h.1 h.2
theorem nAt_in {p : Nat} {w : Jvm.Cond} (h : nAt p w = true) : w ∈ NWs := by
  simp only [nAt, decide_eq_true_eq] at h
  exact List.mem_of_getElem? h
def okG (me : ME) (idx : Nat) (ri : RI) (put : Bool) : Bool := match vwCl[ri.1]? with
  | some r => decide (ri.2.1 < r.2.2) && wAt ri.2.2.1 (.fieldLink (me_y me).cls idx (r.2.1 ri.2.1).1 (r.2.1 ri.2.1).2.1 (r.2.1 ri.2.1).2.2.1) && (!put || !(r.2.1 ri.2.1).2.2.2 || (decide ((me_y me).name = "<init>") && decide ((r.2.1 ri.2.1).1 = (me_y me).cls)))
  | none => false
def okC (pg : Nat → Option ME) (me : ME) (kd idx : Nat) (ri : RI) : Bool := match pg ri.1 with
  | some ce => decide (me_kd ce = kd) && (if ri.2.1 = 0 then wAt ri.2.2.1 (.methodLink (me_y me).cls idx (me_y ce)) else decide (ri.2.1 = 1) && decide (kd ≠ 0) && nAt ri.2.2.1 (.methodLinkNest (me_y me).cls idx (me_y ce) RNG))
  | none => false
def okJ (pg : Nat → Option ME) (me : ME) (ins : Instr) (len : Nat) (ri : RI) : Bool := match ins with
  | .iconst n => decide (len = 1) && inbB n
  | .bipush n => decide (len = 2) && (decide (-128 ≤ n) && decide (n < 128))
  | .sipush n => decide (len = 3) && (decide (-32768 ≤ n) && decide (n < 32768))
  | .ldc idx => decide (len = 2) && (inbB ri.2.2.2 && wAt ri.1 (.constant (me_y me).cls idx (i32 ri.2.2.2)))
  | .iload _ => decide (len = 2)
  | .aload _ => decide (len = 2)
  | .istore _ => decide (len = 2)
  | .astore _ => decide (len = 2)
  | .iload_n _ => decide (len = 1)
  | .aload_n _ => decide (len = 1)
  | .istore_n _ => decide (len = 1)
  | .astore_n _ => decide (len = 1)
  | .iinc _ _ => decide (len = 3)
  | .iadd => decide (len = 1)
  | .isub => decide (len = 1)
  | .imul => decide (len = 1)
  | .iand => decide (len = 1)
  | .idiv => decide (len = 1)
  | .irem => decide (len = 1)
  | .ineg => decide (len = 1)
  | .dup => decide (len = 1)
  | .dup2 => decide (len = 1)
  | .pop => decide (len = 1)
  | .iaload => decide (len = 1)
  | .aaload => decide (len = 1)
  | .iastore => decide (len = 1)
  | .aastore => decide (len = 1)
  | .arraylength => decide (len = 1)
  | .ireturn => decide (len = 1)
  | .areturn => decide (len = 1)
  | .return_ => decide (len = 1)
  | .goto _ => decide (len = 3)
  | .if_icmp _ _ => decide (len = 3)
  | .ifCond _ _ => decide (len = 3)
  | .getfield idx => decide (len = 3) && okG me idx ri false
  | .putfield idx => decide (len = 3) && okG me idx ri true
  | .new idx => decide (len = 3) && (match vwCl[ri.1]? with
    | some r => decide (ri.2.1 = r.2.2) && wAt ri.2.2.1 (.classLink (me_y me).cls idx r.1)
    | none => false)
  | .newarray _ => decide (len = 2)
  | .anewarray idx => decide (len = 3) && wAt ri.1 (.classLink (me_y me).cls idx RX5)
  | .getstatic idx => decide (len = 3) && (decide (ri.1 = 1) && nAt ri.2.1 (.fieldLinkNest (me_y me).cls idx RNG "FIRST_SETTINGS" "[I" RNG) || decide (ri.1 = 2) && nAt ri.2.1 (.fieldLinkNest (me_y me).cls idx RNG "GREATEST_SETTINGS" "[I" RNG))
  | .tableswitch _ _ _ _ => true
  | .lookupswitch _ _ => true
  | .invokevirtual idx => decide (len = 3) && (decide (ri.2.1 = 0) && okC pg me 0 idx ri)
  | .invokestatic idx => decide (len = 3) && (if ri.2.1 = 2 then wAt ri.1 (.methodLink (me_y me).cls idx arraycopyName) else if ri.2.1 = 3 then wAt ri.1 (.methodLink (me_y me).cls idx Lib.Math.max.name) else if ri.2.1 = 4 then wAt ri.1 (.methodLink (me_y me).cls idx Lib.Math.min.name) else okC pg me 1 idx ri)
  | .invokespecial idx => decide (len = 3) && (if ri.2.1 = 5 then wAt ri.1 (.methodLink (me_y me).cls idx objectInit) else okC pg me 2 idx ri)
  | _ => false
def okI (pg : Nat → Option ME) (me : ME) (e : CI) : Bool := decide (decode (me_cc me) e.1 = .ok (e.2.1, e.2.2.1)) && okJ pg me e.2.1 e.2.2.1 e.2.2.2
def GWs : Prop := (∀ (c : Nat) (r : vw_C), vwCl[c]? = some r → (∀ w ∈ u_ws r.1 r.2.1 r.2.2, w ∈ WL) ∧ Jvm.Cond.instantiable r.1 r.2.2 ∈ WL ∧ Jvm.Cond.initialized r.1 ∈ WL) ∧
  (Jvm.Cond.initialized "java/lang/Math" ∈ WL ∧ Jvm.Cond.static Lib.Math.max.name ∈ WL ∧ Jvm.Cond.code Lib.Math.max.name Lib.Math.max.code 2 (some .int) ∈ WL ∧ Jvm.Cond.static Lib.Math.min.name ∈ WL ∧ Jvm.Cond.code Lib.Math.min.name Lib.Math.min.code 2 (some .int) ∈ WL) ∧
  (Jvm.Cond.native arraycopyName ∈ WL ∧ Jvm.Cond.static arraycopyName ∈ WL ∧ Jvm.Cond.initialized "java/lang/System" ∈ WL) ∧
  (Jvm.Cond.instanceMethod objectInit ∈ WL ∧ Jvm.Cond.code objectInit ⟨#[0xb1]⟩ 1 none ∈ WL) ∧ Jvm.Cond.arrayClass .int ∈ WL
def AK (me : ME) (L : LV) (S : List AV) (F : FM) : Prop := L.length = me_ml me ∧ (∀ v ∈ S, okv v) ∧ (∀ (i : Nat) (v : AV), L[i]? = some (some v) → okv v) ∧ ∀ k j, inb (F k j)
theorem AK_push {me : ME} {L : LV} {S : List AV} {F : FM} {v : AV} (h : AK me L S F) (hv : okv v) : AK me L (v :: S) F := ⟨h.1, List.forall_mem_cons.mpr ⟨hv, h.2.1⟩, h.2.2⟩
theorem AK_pop {me : ME} {L : LV} {S : List AV} {F : FM} {v : AV} (h : AK me L (v :: S) F) : AK me L S F ∧ okv v := ⟨⟨h.1, (List.forall_mem_cons.mp h.2.1).2, h.2.2⟩, (List.forall_mem_cons.mp h.2.1).1⟩
theorem AK_set {me : ME} {L : LV} {S : List AV} {F : FM} {v : AV} {i : Nat} (h : AK me L S F) (hv : okv v) : AK me (L.set i (some v)) S F := by
  refine ⟨by rw [List.length_set]; exact h.1, h.2.1, fun j w hj => ?_, h.2.2.2⟩
  rw [List.getElem?_set] at hj
  split at hj
  · split at hj
    · cases hj; exact hv
    · cases hj
  · exact h.2.2.1 j w hj
theorem AK_F {me : ME} {L : LV} {S : List AV} {F F' : FM} (h : AK me L S F) (hF : ∀ k j, inb (F' k j)) : AK me L S F' := ⟨h.1, h.2.1, h.2.2.1, hF⟩
theorem inb_stt {F : FM} {k : Nat} {j v : Int} (h : ∀ k j, inb (F k j)) (hv : inb v) : ∀ a b, inb (stt F k j v a b) := by
  intro a b
  unfold stt
  split
  · exact hv
  · exact h a b
theorem inb_clF {F : FM} {k : Nat} (h : ∀ k j, inb (F k j)) : ∀ a b, inb (clF F k a b) := by
  intro a b
  unfold clF
  split
  · exact inb_0
  · exact h a b
theorem inb_cpF {F : FM} {s t : Nat} {sp dp n : Int} (h : ∀ k j, inb (F k j)) : ∀ a b, inb (cpF F s sp t dp n a b) := by
  intro a b
  unfold cpF
  split
  · exact h _ _
  · exact h a b
theorem ptr_fit {t : FieldType} (h : defaultValue t = .null) (r : Option Nat) : narrow t (va_rf r) = va_rf r ∧ fits t (va_rf r) = true := by
  cases t <;> first | (simp [defaultValue] at h; done) | (cases r <;> exact ⟨rfl, rfl⟩)
section STP
variable {pg : Nat → Option ME} {d : Nat} {me : ME} {pc len : Nat} {ri : RI} {ins : Instr} {L L' : LV} {S S' : List AV} {kd kd' : KL} {F F' : FM} {P P' : PM} {pc' c0 s0 : Nat}
set_option maxHeartbeats 4000000 in
theorem stp_sound (gw : GWs) (hd : decode (me_cc me) pc = .ok (ins, len)) (ok : okJ pg me ins len ri = true) (hs : stp d pc len ri ins L S kd F P = some (pc', L', S', kd', F', P')) (ak : AK me L S F) :
    (AK me L' S' F' ∧ kd.length ≤ kd'.length ∧ ksz kd ≤ ksz kd') ∧ ∀ (g : GX) (K : KX) (Q : State → Prop), Fx g K d me → c0 ≤ kd.length → s0 ≤ ksz kd → kd'.length - c0 ≤ g.2.2.2.1.cells ∧ ksz kd' - s0 ≤ g.2.2.2.1.slots → NX g K Q c0 s0 pc' L' S' kd' F' P' → NX g K Q c0 s0 pc L S kd F P := by
  unfold stp at hs
  split at hs
  · next n =>
    simp only [okJ, Bool.and_eq_true, decide_eq_true_eq] at ok
    obtain ⟨rfl, ok⟩ := ok
    simp only [s_load, Option.some.injEq, Prod.mk.injEq] at hs
    obtain ⟨rfl, rfl, rfl, rfl, rfl, rfl⟩ := hs
    exact ⟨⟨AK_push ak (inbB_spec ok), Nat.le_refl _, Nat.le_refl _⟩, fun g K Q fx _ _ _ nx => nx_iconst fx hd nx⟩
  · next n =>
    simp only [okJ, Bool.and_eq_true, decide_eq_true_eq] at ok
    obtain ⟨rfl, ok⟩ := ok
    simp only [s_load, Option.some.injEq, Prod.mk.injEq] at hs
    obtain ⟨rfl, rfl, rfl, rfl, rfl, rfl⟩ := hs
    exact ⟨⟨AK_push ak (by show inb n; unfold inb; omega), Nat.le_refl _, Nat.le_refl _⟩, fun g K Q fx _ _ _ nx => nx_bipush fx hd ok.1 ok.2 nx⟩
  · next n =>
    simp only [okJ, Bool.and_eq_true, decide_eq_true_eq] at ok
    obtain ⟨rfl, ok⟩ := ok
    simp only [s_load, Option.some.injEq, Prod.mk.injEq] at hs
    obtain ⟨rfl, rfl, rfl, rfl, rfl, rfl⟩ := hs
    exact ⟨⟨AK_push ak (by show inb n; unfold inb; omega), Nat.le_refl _, Nat.le_refl _⟩, fun g K Q fx _ _ _ nx => nx_sipush fx hd ok.1 ok.2 nx⟩
  · next n =>
    simp only [okJ, Bool.and_eq_true, decide_eq_true_eq] at ok
    obtain ⟨rfl, ok⟩ := ok
    simp only [s_load, Option.some.injEq, Prod.mk.injEq] at hs
    obtain ⟨rfl, rfl, rfl, rfl, rfl, rfl⟩ := hs
    exact ⟨⟨AK_push ak (inbB_spec ok.1), Nat.le_refl _, Nat.le_refl _⟩, fun g K Q fx _ _ _ nx => nx_ldc fx hd (wAt_in ok.2) nx⟩
  · next i =>
    simp only [okJ, decide_eq_true_eq] at ok
    subst ok
    unfold s_load at hs
    split at hs
    · next v hv =>
      cases hs
      obtain ⟨x, rfl, hx⟩ := ldI_spec hv
      exact ⟨⟨AK_push ak (ak.2.2.1 _ _ hx), Nat.le_refl _, Nat.le_refl _⟩, fun g K Q fx _ _ _ nx => nx_iload fx hd hv nx⟩
    · cases hs
  · next i =>
    simp only [okJ, decide_eq_true_eq] at ok
    subst ok
    unfold s_load at hs
    split at hs
    · next v hv =>
      cases hs
      obtain ⟨x, rfl, hx⟩ := ldI_spec hv
      exact ⟨⟨AK_push ak (ak.2.2.1 _ _ hx), Nat.le_refl _, Nat.le_refl _⟩, fun g K Q fx _ _ _ nx => nx_iload_n fx hd hv nx⟩
    · cases hs
  · next i =>
    simp only [okJ, decide_eq_true_eq] at ok
    subst ok
    unfold s_load at hs
    split at hs
    · next v hv =>
      cases hs
      obtain ⟨x, rfl, hx⟩ := ldA_spec hv
      exact ⟨⟨AK_push ak (ak.2.2.1 _ _ hx), Nat.le_refl _, Nat.le_refl _⟩, fun g K Q fx _ _ _ nx => nx_aload fx hd hv nx⟩
    · cases hs
  · next i =>
    simp only [okJ, decide_eq_true_eq] at ok
    subst ok
    unfold s_load at hs
    split at hs
    · next v hv =>
      cases hs
      obtain ⟨x, rfl, hx⟩ := ldA_spec hv
      exact ⟨⟨AK_push ak (ak.2.2.1 _ _ hx), Nat.le_refl _, Nat.le_refl _⟩, fun g K Q fx _ _ _ nx => nx_aload_n fx hd hv nx⟩
    · cases hs
  · next i =>
    simp only [okJ, decide_eq_true_eq] at ok
    subst ok
    unfold s_storeI at hs
    split at hs
    · split at hs
      · next hi =>
        cases hs
        obtain ⟨a1, a2⟩ := AK_pop ak
        exact ⟨⟨AK_set a1 a2, Nat.le_refl _, Nat.le_refl _⟩, fun g K Q fx _ _ _ nx => nx_istore fx hd hi nx⟩
      · cases hs
    · cases hs
  · next i =>
    simp only [okJ, decide_eq_true_eq] at ok
    subst ok
    unfold s_storeI at hs
    split at hs
    · split at hs
      · next hi =>
        cases hs
        obtain ⟨a1, a2⟩ := AK_pop ak
        exact ⟨⟨AK_set a1 a2, Nat.le_refl _, Nat.le_refl _⟩, fun g K Q fx _ _ _ nx => nx_istore_n fx hd hi nx⟩
      · cases hs
    · cases hs
  · next i =>
    simp only [okJ, decide_eq_true_eq] at ok
    subst ok
    unfold s_storeA at hs
    split at hs
    · split at hs
      · next hi =>
        cases hs
        obtain ⟨a1, a2⟩ := AK_pop ak
        exact ⟨⟨AK_set a1 a2, Nat.le_refl _, Nat.le_refl _⟩, fun g K Q fx _ _ _ nx => nx_astore fx hd hi nx⟩
      · cases hs
    · cases hs
  · next i =>
    simp only [okJ, decide_eq_true_eq] at ok
    subst ok
    unfold s_storeA at hs
    split at hs
    · split at hs
      · next hi =>
        cases hs
        obtain ⟨a1, a2⟩ := AK_pop ak
        exact ⟨⟨AK_set a1 a2, Nat.le_refl _, Nat.le_refl _⟩, fun g K Q fx _ _ _ nx => nx_astore_n fx hd hi nx⟩
      · cases hs
    · cases hs
  · next i n =>
    simp only [okJ, decide_eq_true_eq] at ok
    subst ok
    unfold s_iinc at hs
    split at hs
    · next v hv =>
      cases hs
      exact ⟨⟨AK_set ak (inb_wr _), Nat.le_refl _, Nat.le_refl _⟩, fun g K Q fx _ _ _ nx => nx_iinc fx hd hv nx⟩
    · cases hs
  · simp only [okJ, decide_eq_true_eq] at ok
    subst ok
    unfold s_bin at hs
    split at hs
    · cases hs
      obtain ⟨a1, a2⟩ := AK_pop ak
      obtain ⟨a3, a4⟩ := AK_pop a1
      exact ⟨⟨AK_push a3 (inb_wr _), Nat.le_refl _, Nat.le_refl _⟩, fun g K Q fx _ _ _ nx => nx_iadd fx hd nx⟩
    · cases hs
  · simp only [okJ, decide_eq_true_eq] at ok
    subst ok
    unfold s_bin at hs
    split at hs
    · cases hs
      obtain ⟨a1, a2⟩ := AK_pop ak
      obtain ⟨a3, a4⟩ := AK_pop a1
      exact ⟨⟨AK_push a3 (inb_wr _), Nat.le_refl _, Nat.le_refl _⟩, fun g K Q fx _ _ _ nx => nx_isub fx hd nx⟩
    · cases hs
  · simp only [okJ, decide_eq_true_eq] at ok
    subst ok
    unfold s_bin at hs
    split at hs
    · cases hs
      obtain ⟨a1, a2⟩ := AK_pop ak
      obtain ⟨a3, a4⟩ := AK_pop a1
      exact ⟨⟨AK_push a3 (inb_wr _), Nat.le_refl _, Nat.le_refl _⟩, fun g K Q fx _ _ _ nx => nx_imul fx hd nx⟩
    · cases hs
  · simp only [okJ, decide_eq_true_eq] at ok
    subst ok
    unfold s_bin at hs
    split at hs
    · cases hs
      obtain ⟨a1, a2⟩ := AK_pop ak
      obtain ⟨a3, a4⟩ := AK_pop a1
      exact ⟨⟨AK_push a3 (inb_toInt _), Nat.le_refl _, Nat.le_refl _⟩, fun g K Q fx _ _ _ nx => nx_iand fx hd nx⟩
    · cases hs
  · simp only [okJ, decide_eq_true_eq] at ok
    subst ok
    unfold s_binD at hs
    split at hs
    · split at hs
      · cases hs
      · next h0 =>
        cases hs
        obtain ⟨a1, a2⟩ := AK_pop ak
        obtain ⟨a3, a4⟩ := AK_pop a1
        exact ⟨⟨AK_push a3 (inb_wr _), Nat.le_refl _, Nat.le_refl _⟩, fun g K Q fx _ _ _ nx => nx_idiv fx hd a4 a2 h0 nx⟩
    · cases hs
  · simp only [okJ, decide_eq_true_eq] at ok
    subst ok
    unfold s_binD at hs
    split at hs
    · split at hs
      · cases hs
      · next h0 =>
        cases hs
        obtain ⟨a1, a2⟩ := AK_pop ak
        obtain ⟨a3, a4⟩ := AK_pop a1
        exact ⟨⟨AK_push a3 (inb_wr _), Nat.le_refl _, Nat.le_refl _⟩, fun g K Q fx _ _ _ nx => nx_irem fx hd a4 a2 h0 nx⟩
    · cases hs
  · simp only [okJ, decide_eq_true_eq] at ok
    subst ok
    unfold s_neg at hs
    split at hs
    · cases hs
      obtain ⟨a1, a2⟩ := AK_pop ak
      exact ⟨⟨AK_push a1 (inb_wr _), Nat.le_refl _, Nat.le_refl _⟩, fun g K Q fx _ _ _ nx => nx_ineg fx hd nx⟩
    · cases hs
  · simp only [okJ, decide_eq_true_eq] at ok
    subst ok
    unfold s_dup at hs
    split at hs
    · cases hs
      exact ⟨⟨AK_push ak (AK_pop ak).2, Nat.le_refl _, Nat.le_refl _⟩, fun g K Q fx _ _ _ nx => nx_dup fx hd nx⟩
    · cases hs
  · simp only [okJ, decide_eq_true_eq] at ok
    subst ok
    unfold s_dup2 at hs
    split at hs
    · cases hs
      obtain ⟨a1, a2⟩ := AK_pop ak
      obtain ⟨a3, a4⟩ := AK_pop a1
      exact ⟨⟨AK_push (AK_push ak a4) a2, Nat.le_refl _, Nat.le_refl _⟩, fun g K Q fx _ _ _ nx => nx_dup2 fx hd nx⟩
    · cases hs
  · simp only [okJ, decide_eq_true_eq] at ok
    subst ok
    unfold s_pop at hs
    split at hs
    · cases hs
      exact ⟨⟨(AK_pop ak).1, Nat.le_refl _, Nat.le_refl _⟩, fun g K Q fx _ _ _ nx => nx_pop fx hd nx⟩
    · cases hs
  · next off =>
    simp only [okJ, decide_eq_true_eq] at ok
    subst ok
    unfold s_goto at hs
    split at hs
    · next t ht =>
      cases hs
      exact ⟨⟨ak, Nat.le_refl _, Nat.le_refl _⟩, fun g K Q fx _ _ _ nx => nx_goto fx hd ht nx⟩
    · cases hs
  · next c off =>
    simp only [okJ, decide_eq_true_eq] at ok
    subst ok
    unfold s_icmp at hs
    split at hs
    · next t y x S1 ht =>
      cases hs
      obtain ⟨a1, a2⟩ := AK_pop ak
      obtain ⟨a3, a4⟩ := AK_pop a1
      exact ⟨⟨a3, Nat.le_refl _, Nat.le_refl _⟩, fun g K Q fx _ _ _ nx => nx_icmp fx hd ht a4 a2 nx⟩
    · cases hs
  · next c off =>
    simp only [okJ, decide_eq_true_eq] at ok
    subst ok
    unfold s_ifc at hs
    split at hs
    · next t x S1 ht =>
      cases hs
      obtain ⟨a1, a2⟩ := AK_pop ak
      exact ⟨⟨a1, Nat.le_refl _, Nat.le_refl _⟩, fun g K Q fx _ _ _ nx => nx_ifc fx hd ht a2 nx⟩
    · cases hs
  · simp only [okJ, decide_eq_true_eq] at ok
    subst ok
    unfold s_iald at hs
    split at hs
    · split at hs
      · next n hk =>
        split at hs
        · next hb =>
          cases hs
          obtain ⟨a1, a2⟩ := AK_pop ak
          exact ⟨⟨AK_push (AK_pop a1).1 (ak.2.2.2 _ _), Nat.le_refl _, Nat.le_refl _⟩, fun g K Q fx _ _ _ nx => nx_iald fx hd hk a2 hb.1 hb.2 nx⟩
        · cases hs
      · cases hs
    · cases hs
  · simp only [okJ, decide_eq_true_eq] at ok
    subst ok
    unfold s_aald at hs
    split at hs
    · split at hs
      · next n hk =>
        split at hs
        · next hb =>
          cases hs
          obtain ⟨a1, a2⟩ := AK_pop ak
          exact ⟨⟨AK_push (AK_pop a1).1 trivial, Nat.le_refl _, Nat.le_refl _⟩, fun g K Q fx _ _ _ nx => nx_aald fx hd hb.1 hk a2 hb.2.1 hb.2.2 nx⟩
        · cases hs
      · cases hs
    · cases hs
  · simp only [okJ, decide_eq_true_eq] at ok
    subst ok
    unfold s_iast at hs
    split at hs
    · split at hs
      · next n hk =>
        split at hs
        · next hb =>
          cases hs
          obtain ⟨a1, a2⟩ := AK_pop ak
          obtain ⟨a3, a4⟩ := AK_pop a1
          exact ⟨⟨AK_F (AK_pop a3).1 (inb_stt ak.2.2.2 a2), Nat.le_refl _, Nat.le_refl _⟩, fun g K Q fx _ _ _ nx => nx_iast fx hd hb.1 hk a4 hb.2.1 hb.2.2 nx⟩
        · cases hs
      · cases hs
    · cases hs
  · simp only [okJ, decide_eq_true_eq] at ok
    subst ok
    unfold s_aast at hs
    split at hs
    · split at hs
      · next n hk =>
        split at hs
        · next hb =>
          cases hs
          obtain ⟨a1, a2⟩ := AK_pop ak
          obtain ⟨a3, a4⟩ := AK_pop a1
          exact ⟨⟨(AK_pop a3).1, Nat.le_refl _, Nat.le_refl _⟩, fun g K Q fx _ _ _ nx => nx_aast fx hd hb.1 hk a4 hb.2.1 hb.2.2.1 hb.2.2.2.1 hb.2.2.2.2 nx⟩
        · cases hs
      · cases hs
    · cases hs
  · simp only [okJ, decide_eq_true_eq] at ok
    subst ok
    unfold s_alen at hs
    split at hs
    · split at hs
      · next n hk =>
        split at hs
        · next hb =>
          cases hs
          exact ⟨⟨AK_push (AK_pop ak).1 (by show inb _; unfold inb; omega), Nat.le_refl _, Nat.le_refl _⟩, fun g K Q fx _ _ _ nx => nx_alen fx hd hk nx⟩
        · cases hs
      · cases hs
    · cases hs
  · next idx =>
    simp only [okJ, okG, Bool.and_eq_true, decide_eq_true_eq] at ok
    obtain ⟨rfl, ok⟩ := ok
    split at ok
    · next r hr =>
      simp only [Bool.and_eq_true, decide_eq_true_eq] at ok
      unfold s_getf at hs
      split at hs
      · split at hs
        · next c n hk =>
          split at hs
          · next hb =>
            obtain ⟨rfl, hj, h3⟩ := hb
            cases hs
            exact ⟨⟨AK_push (AK_pop ak).1 (by split; exact ak.2.2.2 _ _; trivial), Nat.le_refl _, Nat.le_refl _⟩, fun g K Q fx _ _ _ nx => nx_getf fx hd h3 hk hj hr ok.1.1 (gw.1 _ _ hr).1 (wAt_in ok.1.2) nx⟩
          · cases hs
        · cases hs
      · cases hs
    · cases ok
  · next idx =>
    simp only [okJ, okG, Bool.and_eq_true, decide_eq_true_eq] at ok
    obtain ⟨rfl, ok⟩ := ok
    split at ok
    · next r hr =>
      simp only [Bool.and_eq_true, decide_eq_true_eq] at ok
      have hfin : (r.2.1 ri.2.1).2.2.2 = false ∨ ((me_y me).name = "<init>" ∧ (r.2.1 ri.2.1).1 = (me_y me).cls) := by
        have h := ok.2
        simp at h
        exact h
      unfold s_putf at hs
      split at hs
      · split at hs
        · next c n hk =>
          split at hs
          · next hb =>
            obtain ⟨rfl, hj, h3, hty⟩ := hb
            cases hs
            obtain ⟨a1, a2⟩ := AK_pop ak
            refine ⟨⟨AK_F (AK_pop a1).1 (inb_stt ak.2.2.2 a2), Nat.le_refl _, Nat.le_refl _⟩, fun g K Q fx _ _ _ nx => nx_putV fx hd h3 hk hj hr ok.1.1 (gw.1 _ _ hr).1 (wAt_in ok.1.2) hfin ?_ ?_ ?_ (fun a b hab => by unfold stt; rw [if_neg hab]) (fun a b hab => rfl) nx⟩
            · rcases hty with h | ⟨h, q | q⟩ <;> rw [h]
              · rfl
              · rw [q]; rfl
              · rw [q]; rfl
            · rcases hty with h | ⟨h, q | q⟩ <;> rw [h]
              · rfl
              · rw [q]; rfl
              · rw [q]; rfl
            · have e : isN (tyOf ri.1 ri.2.1) = true := by rcases hty with h | ⟨h, q⟩ <;> rw [h] <;> rfl
              unfold sval stt
              rw [if_pos e, if_pos ⟨rfl, rfl⟩]
              rfl
          · cases hs
        · cases hs
      · split at hs
        · next c n hk =>
          split at hs
          · next hb =>
            obtain ⟨rfl, hj, h3, hty⟩ := hb
            cases hs
            obtain ⟨a1, a2⟩ := AK_pop ak
            have hdf := clDef _ _ hr _ ok.1.1
            rw [if_neg (by rw [hty]; decide)] at hdf
            refine ⟨⟨(AK_pop a1).1, Nat.le_refl _, Nat.le_refl _⟩, fun g K Q fx _ _ _ nx => nx_putV fx hd h3 hk hj hr ok.1.1 (gw.1 _ _ hr).1 (wAt_in ok.1.2) hfin ?_ ?_ ?_ (fun a b hab => rfl) (fun a b hab => by unfold stp_; rw [if_neg hab]) nx⟩
            · exact (ptr_fit hdf _).1
            · exact (ptr_fit hdf _).2
            · unfold sval stp_
              rw [if_neg (by rw [hty]; decide), if_pos ⟨rfl, rfl⟩]
              rfl
          · cases hs
        · cases hs
      · cases hs
    · cases ok
  · next idx =>
    simp only [okJ, Bool.and_eq_true, decide_eq_true_eq] at ok
    obtain ⟨rfl, ok⟩ := ok
    split at ok
    · next r hr =>
      simp only [Bool.and_eq_true, decide_eq_true_eq] at ok
      unfold s_new at hs
      cases hs
      have e1 : (kd ++ [(ri.1 + 2, ri.2.1)]).length = kd.length + 1 := by simp
      have e2 : ksz (kd ++ [(ri.1 + 2, ri.2.1)]) = ksz kd + ri.2.1 := by unfold ksz; simp
      exact ⟨⟨AK_F (AK_push ak trivial) (inb_clF ak.2.2.2), by omega, by omega⟩, fun g K Q fx h1 h2 h3 nx => nx_new fx hd hr ok.1 (gw.1 _ _ hr).1 (wAt_in ok.2) (gw.1 _ _ hr).2.1 (gw.1 _ _ hr).2.2 h1 h2 (by rw [← e1]; exact h3.1) (by rw [← e2]; exact h3.2) nx⟩
    · cases ok
  · next t =>
    simp only [okJ, decide_eq_true_eq] at ok
    subst ok
    split at hs
    · next ht =>
      subst ht
      unfold s_newa at hs
      split at hs
      · next n S1 =>
        split at hs
        · next hb =>
          cases hs
          have e1 : List.length (kd ++ [((0 : Nat), n.toNat)]) = kd.length + 1 := by simp
          have e2 : ksz (kd ++ [((0 : Nat), n.toNat)]) = ksz kd + n.toNat := by unfold ksz; simp
          exact ⟨⟨AK_F (AK_push (AK_pop ak).1 trivial) (inb_clF ak.2.2.2), by omega, by omega⟩, fun g K Q fx h1 h2 h3 nx => nx_newa fx hd gw.2.2.2.2 hb.1 hb.2 h1 h2 (by rw [← e1]; exact h3.1) (by rw [← e2]; exact h3.2) nx⟩
        · cases hs
      · cases hs
    · cases hs
  · next idx =>
    simp only [okJ, Bool.and_eq_true, decide_eq_true_eq] at ok
    obtain ⟨rfl, ok⟩ := ok
    unfold s_anew at hs
    split at hs
    · next n S1 =>
      split at hs
      · next hb =>
        cases hs
        have e1 : List.length (kd ++ [((1 : Nat), n.toNat)]) = kd.length + 1 := by simp
        have e2 : ksz (kd ++ [((1 : Nat), n.toNat)]) = ksz kd + n.toNat := by unfold ksz; simp
        exact ⟨⟨AK_push (AK_pop ak).1 trivial, by omega, by omega⟩, fun g K Q fx h1 h2 h3 nx => nx_anew fx hd (wAt_in ok) hb.1 hb.2 h1 h2 (by rw [← e1]; exact h3.1) (by rw [← e2]; exact h3.2) nx⟩
      · cases hs
    · cases hs
  · next idx =>
    simp only [okJ, Bool.and_eq_true, Bool.or_eq_true, decide_eq_true_eq] at ok
    obtain ⟨rfl, ok⟩ := ok
    unfold s_gets at hs
    cases hs
    refine ⟨⟨AK_push ak trivial, Nat.le_refl _, Nat.le_refl _⟩, fun g K Q fx _ _ _ nx => ?_⟩
    rcases ok with ⟨h, hw⟩ | ⟨h, hw⟩
    · rw [h] at nx
      exact nx_gets fx hd (nAt_in hw) fx.2.2.2.2.2.1.2.2.2.2.2.1 (by omega) nx
    · rw [h] at nx
      exact nx_gets fx hd (nAt_in hw) fx.2.2.2.2.2.1.2.2.2.2.2.2 (by omega) nx
  · next dflt lo hi offs =>
    have hs' := hs
    unfold s_tab at hs
    split at hs
    · next x S1 =>
      obtain ⟨a1, a2⟩ := AK_pop ak
      have hAK : L' = L ∧ S' = S1 ∧ kd' = kd ∧ F' = F := by
        split at hs
        · split at hs
          · unfold s_goto at hs
            split at hs
            · cases hs; exact ⟨rfl, rfl, rfl, rfl⟩
            · cases hs
          · cases hs
        · unfold s_goto at hs
          split at hs
          · cases hs; exact ⟨rfl, rfl, rfl, rfl⟩
          · cases hs
      obtain ⟨rfl, rfl, rfl, rfl⟩ := hAK
      exact ⟨⟨a1, Nat.le_refl _, Nat.le_refl _⟩, fun g K Q fx _ _ _ nx => nx_tab fx hd a2 hs' nx⟩
    · cases hs
  · next dflt ps =>
    have hs' := hs
    unfold s_look at hs
    split at hs
    · next x S1 =>
      obtain ⟨a1, a2⟩ := AK_pop ak
      have hAK : L' = L ∧ S' = S1 ∧ kd' = kd ∧ F' = F := by
        split at hs
        · unfold s_goto at hs
          split at hs
          · cases hs; exact ⟨rfl, rfl, rfl, rfl⟩
          · cases hs
        · cases hs
      obtain ⟨rfl, rfl, rfl, rfl⟩ := hAK
      exact ⟨⟨a1, Nat.le_refl _, Nat.le_refl _⟩, fun g K Q fx _ _ _ nx => nx_look fx hd a2 hs' nx⟩
    · cases hs
  · next idx =>
    simp only [okJ, Bool.and_eq_true, decide_eq_true_eq] at ok
    obtain ⟨rfl, ok⟩ := ok
    split at hs
    · next h2 =>
      rw [if_pos h2] at ok
      unfold s_copy at hs
      split at hs
      · split at hs
        · next n0 n1 e0 e1 =>
          split at hs
          · next hb =>
            obtain ⟨q1, q2, q3, q4, q5, q6, q7, q8⟩ := hb
            subst q2
            cases hs
            obtain ⟨a1, a2⟩ := AK_pop ak
            obtain ⟨a3, a4⟩ := AK_pop a1
            obtain ⟨a5, a6⟩ := AK_pop a3
            obtain ⟨a7, a8⟩ := AK_pop a5
            exact ⟨⟨AK_F (AK_pop a7).1 (inb_cpF ak.2.2.2), Nat.le_refl _, Nat.le_refl _⟩, fun g K Q fx _ _ _ nx => nx_copy fx ak.1 hd (wAt_in ok) gw.2.2.1.1 gw.2.2.1.2.1 gw.2.2.1.2.2 q1 q3 e0 e1 a2 a8 a4 q4 q5 q6 q7 q8 nx⟩
          · cases hs
        · cases hs
      · cases hs
    · next h2 =>
      rw [if_neg h2] at ok
      split at hs
      · next h3 =>
        rw [if_pos h3] at ok
        unfold s_mm at hs
        split at hs
        · next y x S1 =>
          split at hs
          · next hb =>
            cases hs
            obtain ⟨a1, a2⟩ := AK_pop ak
            obtain ⟨a3, a4⟩ := AK_pop a1
            exact ⟨⟨AK_push a3 (by show inb (if x < y then y else x); split; exact a2; exact a4), Nat.le_refl _, Nat.le_refl _⟩, fun g K Q fx _ _ hr nx => nx_mmax fx ak.1 hd (wAt_in ok) gw.2.1.2.1 gw.2.1.1 gw.2.1.2.2.1 hb.1 hb.2 a4 a2 hr nx⟩
          · cases hs
        · cases hs
      · next h3 =>
        rw [if_neg h3] at ok
        split at hs
        · next h4 =>
          rw [if_pos h4] at ok
          unfold s_mm at hs
          split at hs
          · next y x S1 =>
            split at hs
            · next hb =>
              cases hs
              obtain ⟨a1, a2⟩ := AK_pop ak
              obtain ⟨a3, a4⟩ := AK_pop a1
              exact ⟨⟨AK_push a3 (by show inb (if y < x then y else x); split; exact a2; exact a4), Nat.le_refl _, Nat.le_refl _⟩, fun g K Q fx _ _ hr nx => nx_mmin fx ak.1 hd (wAt_in ok) gw.2.1.2.2.2.1 gw.2.1.1 gw.2.1.2.2.2.2 hb.1 hb.2 a4 a2 hr nx⟩
            · cases hs
          · cases hs
        · cases hs
  · next idx =>
    simp only [okJ, Bool.and_eq_true, decide_eq_true_eq] at ok
    obtain ⟨rfl, ok⟩ := ok
    split at hs
    · next h5 =>
      rw [if_pos h5] at ok
      unfold s_oini at hs
      split at hs
      · split at hs
        · next hb =>
          obtain ⟨q1, q2⟩ := hb
          subst q2
          cases hs
          exact ⟨⟨(AK_pop ak).1, Nat.le_refl _, Nat.le_refl _⟩, fun g K Q fx _ _ _ nx => nx_oini fx ak.1 hd (wAt_in ok) gw.2.2.2.1.1 gw.2.2.2.1.2 q1 nx⟩
        · cases hs
      · cases hs
    · cases hs
  · cases hs
end STP
end
section
def OKM (pg : Nat → Option ME) (ce : ME) : Prop :=
  plainName (me_y ce).cls = true ∧ ((me_y ce).cls ≠ "java/lang/invoke/MethodHandle" ∧ (me_y ce).cls ≠ "java/lang/invoke/VarHandle") ∧ (parseMethodDescriptor (me_y ce).desc).map (fun d => d.parameters.length) = some (me_na ce) ∧ Jvm.Cond.code (me_y ce) (me_cc ce) (me_ml ce) (me_rt ce) ∈ WL ∧ Jvm.Cond.initialized (me_y ce).cls ∈ WL ∧
  (me_kd ce = 0 → Jvm.Cond.instanceMethod (me_y ce) ∈ WL ∧ Jvm.Cond.selects (me_y ce).cls (me_y ce) (me_y ce) ∈ WL ∧ ∃ r : vw_C, vwCl[me_ix ce]? = some r ∧ r.1 = (me_y ce).cls) ∧ (me_kd ce = 1 → Jvm.Cond.static (me_y ce) ∈ WL) ∧ (me_kd ce = 2 → Jvm.Cond.instanceMethod (me_y ce) ∈ WL ∧ (me_y ce).name = "<init>" ∧ me_rt ce = none) ∧ me_ml ce ≤ 20 ∧ ∀ e ∈ me_ci ce, okI pg ce e = true
def wsm (ce : ME) : List Jvm.Cond := .code (me_y ce) (me_cc ce) (me_ml ce) (me_rt ce) :: WL
def Mth (K : KX) (l : Launch) (ce : ME) (as : List AV) (kd : KL) (F : FM) (P : PM) (d : Nat) (rs : RS) : Prop :=
  Met l (me_y ce) (wsm ce) ({ frames := d, cells := rs.2.1.length - kd.length, slots := ksz rs.2.1 - ksz kd, locals := 39 * d } : Room) (fun a U => a = (as.map (gv K)).toArray ∧ TF K U ∧ WI K kd F P U.heap) (fun _ _ oc t => oc = .returned (rs.1.map (gv K)) ∧ WI K rs.2.1 rs.2.2.1 rs.2.2.2 t.heap) (rs.2.1.length - kd.length) (ksz rs.2.1 - ksz kd) (zA K)
theorem NWs_tab : ∀ w ∈ NWs, w.onTables = true := by decide +kernel
theorem TF_same {K : KX} {u U : State} (h : u.vm = U.vm) (t : TF K u) : TF K U := by
  have hA : u.vm.Alike U.vm := by rw [h]; exact Vm.Alike.refl _
  obtain ⟨t1, t2, t3, t4, t5, t6, t7⟩ := t
  exact ⟨t1, t2.moved hA, fun w hw => (t3 w hw).same (NWs_tab w hw) h, t4.moved hA, fun k hk => (t5 k hk).moved hA, t6.moved hA, t7.moved hA⟩
theorem NW_warm {s U : State} (hW : s.WarmedH U.vm) (h : ∀ w ∈ NWs, va_Nw w s) : ∀ w ∈ NWs, va_Nw w U := by
  simp only [NWs, List.forall_mem_cons] at h ⊢
  obtain ⟨h1, h2, h3, h4, h5, h6, h7, h8⟩ := h
  exact ⟨h1.warmM hW, h2.warmM hW, h3.warmM hW, h4.warmM hW, h5.warmM hW, h6.warmF hW, h7.warmF hW, fun _ h => absurd h List.not_mem_nil⟩
theorem TF_warm {K : KX} {s U : State} (hW : s.WarmedH U.vm) (t : TF K s) : TF K U := by
  obtain ⟨t1, t2, t3, t4, t5, t6, t7⟩ := t
  exact ⟨t1, t2.moved hW.alike, NW_warm hW t3, t4.moved hW.alike, fun k hk => (t5 k hk).moved hW.alike, t6.moved hW.alike, t7.moved hW.alike⟩
theorem spl_spec {n : Nat} {S as S' : List AV} (h : spl n S = some (as, S')) : S = as.reverse ++ S' ∧ as.length = n := by
  unfold spl at h
  split at h
  · next hn =>
    cases h
    exact ⟨by rw [List.reverse_reverse, List.take_append_drop], by rw [List.length_reverse, List.length_take]; omega⟩
  · cases h
theorem ftc_spec {pc : Nat} : ∀ {l : List CI} {e : CI}, ftc pc l = some e → e ∈ l ∧ e.1 = pc
  | [], e, h => by cases h
  | a :: l, e, h => by
    unfold ftc at h
    split at h
    · next hp => cases h; exact ⟨List.mem_cons_self, hp⟩
    · obtain ⟨h1, h2⟩ := ftc_spec h
      exact ⟨List.mem_cons_of_mem _ h1, h2⟩
theorem rcv0 {ce : ME} {kd : KL} {as : List AV} (hk : me_kd ce = 0) (h : rcv ce kd as = true) : ∃ (k : Nat) (as' : List AV) (n : Nat), as = .inr (some k) :: as' ∧ 3 ≤ k ∧ kd[k]? = some (me_ix ce + 2, n) := by
  simp only [rcv, hk] at h
  split at h
  · next k as' =>
    simp only [Bool.and_eq_true, decide_eq_true_eq] at h
    obtain ⟨k3, h⟩ := h
    split at h
    · next c n hk =>
      simp only [decide_eq_true_eq] at h
      subst h
      exact ⟨k, as', n, rfl, k3, hk⟩
    · cases h
  · cases h
theorem rcv2 {ce : ME} {kd : KL} {as : List AV} (hk : me_kd ce = 2) (h : rcv ce kd as = true) : ∃ (k : Nat) (as' : List AV), as = .inr (some k) :: as' := by
  simp only [rcv, hk] at h
  split at h
  · next k as' => exact ⟨k, as', rfl⟩
  · cases h
section CALLS
variable {g : GX} {K : KX} {d : Nat} {me : ME} {Q : State → Prop} {c0 s0 pc : Nat} {L : LV} {S S' : List AV} {kd : KL} {F : FM} {P : PM} {rs : RS} {pg : Nat → Option ME}
theorem nx_run {ls : Array Slot} {H : Heap} {locs : List Loc} {st : List Value} (hL : LI K L ls) (hX : XI K locs) (hc0 : c0 ≤ kd.length) (hs0 : s0 ≤ ksz kd) (hmono : kd.length ≤ rs.2.1.length ∧ ksz kd ≤ ksz rs.2.1)
    (hrun : va_Run g.1 g.2.1 g.2.2.1 g.2.2.2.1 g.2.2.2.2.1 g.2.2.2.2.2.1 g.2.2.2.2.2.2.1 g.2.2.2.2.2.2.2.1 g.2.2.2.2.2.2.2.2.1 g.2.2.2.2.2.2.2.2.2 H locs (kd.length - c0) (ksz kd - s0) (rs.2.1.length - kd.length) (ksz rs.2.1 - ksz kd) (F0 g.2.2.2.2.2.1 pc ls st) (S'.map (gv K)) (fun _ oc t => oc = .returned (rs.1.map (gv K)) ∧ WI K rs.2.1 rs.2.2.1 rs.2.2.2 t.heap) (zA K))
    (nx : NX g K Q c0 s0 (pc + 3) L (psh rs.1 S') rs.2.1 rs.2.2.1 rs.2.2.2) : gW g H locs (kd.length - c0) (ksz kd - s0) Q (F0 g.2.2.2.2.2.1 pc ls st) := by
  intro T hT X
  obtain ⟨v, st₀, t, T', Lc, e1, X', hLc, e2, e3, ⟨e4, e5⟩, hgo⟩ := hrun T hT X
  have e4 : v = rs.1.map (gv K) := by cases e4; rfl
  subst e4
  rw [show kd.length - c0 + (rs.2.1.length - kd.length) = rs.2.1.length - c0 by omega, show ksz kd - s0 + (ksz rs.2.1 - ksz kd) = ksz rs.2.1 - s0 by omega] at X'
  obtain ⟨t', a1, b1⟩ := nx ls T'.heap (locs ++ Lc) hL (by rw [e2]; exact e5) (fun q hq => by
    rcases List.mem_append.mp hq with h | h
    · exact hX q h
    · exact hLc q h) T' rfl X'
  refine ⟨t', hgo t' ?_, b1⟩
  have e6 : (psh rs.1 S').map (gv K) = (rs.1.map (gv K)).toList ++ S'.map (gv K) := by
    cases rs.1 <;> rfl
  rw [e6] at a1
  exact a1
theorem nx_call {ce : ME} {ins : Instr} {ri : RI} {i : Nat} {as : List AV} {d' : Nat} (fx : Fx g K d me) (okc : OKM pg ce) (hd : decode (me_cc me) pc = .ok (ins, 3)) (ok : okJ pg me ins 3 ri = true) (hcal : cal ri ins = some i) (hpg : pg i = some ce) (hspl : spl (nar ce) S = some (as, S')) (h8 : S'.length ≤ 8) (hrcv : rcv ce kd as = true) (hM : Mth K g.2.1 ce as kd F P d' rs) (hdd : d' + 1 = d) (hml : L.length = me_ml me) (hc0 : c0 ≤ kd.length) (hs0 : s0 ≤ ksz kd) (hmono : kd.length ≤ rs.2.1.length ∧ ksz kd ≤ ksz rs.2.1) (hr : rs.2.1.length - c0 ≤ g.2.2.2.1.cells ∧ ksz rs.2.1 - s0 ≤ g.2.2.2.1.slots)
    (nx : NX g K Q c0 s0 (pc + 3) L (psh rs.1 S') rs.2.1 rs.2.2.1 rs.2.2.2) : NX g K Q c0 s0 pc L S kd F P := by
  intro ls H locs hL hW hX
  obtain ⟨q1, q2, q3, q4, q5, q6, q7, q8, q9, -⟩ := okc
  have hts := fx.2.2.2.2.1
  have hfr := fx.2.2.2.2.2.2.2.1
  have hlo := fx.2.2.2.2.2.2.2.2
  have hgood : GoodIn WL (wsm ce) := WL_GoodIn (fun w hw => by
    rcases List.mem_cons.mp hw with h | h
    · rw [h]; exact q4
    · exact h)
  obtain ⟨hS, hlen⟩ := spl_spec hspl
  have hblind : FrameBlind (fun (a : Array Value) (U : State) => a = (as.map (gv K)).toArray ∧ TF K U ∧ WI K kd F P U.heap) := fun a U g' mk h => ⟨h.1, TF_same (u := U) rfl h.2.1, h.2.2⟩
  have hfix : CallFix g.1 g.2.2.2.2.2.1 g.2.2.2.2.2.2.2.2.2 (me_cc me) (me_ml me) g.2.2.2.2.1 g.2.2.2.2.2.2.1 WL (me_y me).cls := ⟨fx.1, fx.2.1, fx.2.2.1, fx.2.2.2.1, hts⟩
  have hroom : kd.length - c0 + (rs.2.1.length - kd.length) ≤ g.2.2.2.1.cells ∧ ksz kd - s0 + (ksz rs.2.1 - ksz kd) ≤ g.2.2.2.1.slots := by omega
  have hW8 : 2 * (F0 g.2.2.2.2.2.1 pc ls (S.map (gv K))).monitorRoom + ((S'.map (gv K)).map fun v => v.category).sum ≤ 8 := lv_room (by rw [gv_cats]; exact h8)
  have hbase : (rs.2.1.length - kd.length = rs.2.1.length - kd.length ∧ ksz rs.2.1 - ksz kd = ksz rs.2.1 - ksz kd ∧ d' + 1 ≤ g.2.2.2.1.frames ∧ 8 + (me_ml ce + 11) + 39 * d' ≤ g.2.2.2.1.locals) := ⟨rfl, rfl, by omega, by omega⟩
  have hpay := pay_in hts hgood
  have hmem : Jvm.Cond.code (me_y ce) (me_cc ce) (me_ml ce) (me_rt ce) ∈ wsm ce := List.mem_cons_self
  have hsig : ∀ sig, parseMethodDescriptor (me_y ce).desc = some sig → me_na ce = sig.parameters.length := fun sig h => by
    rw [h] at q3
    exact (Option.some.inj q3).symm
  have hpost : ∀ U : State, U.heap = H → g.2.2.2.2.1.WarmedH U.vm → TF K U ∧ WI K kd F P U.heap := fun U hU hw => ⟨TF_warm hw fx.2.2.2.2.2.1, by rw [hU]; exact hW⟩
  unfold cal at hcal
  split at hcal
  · next idx =>
    cases hcal
    simp only [okJ, okC, hpg, Bool.and_eq_true, decide_eq_true_eq] at ok
    obtain ⟨-, ok0, okk, ok⟩ := ok
    rw [if_pos ok0] at ok
    obtain ⟨w1, w2, r, w3, w4⟩ := q6 okk
    obtain ⟨k, as', n, rfl, k3, hk⟩ := rcv0 okk hrcv
    obtain ⟨r', h1, cell, g1, g2, g3, -⟩ := hW.2.2.2.1 k _ k3 hk
    have hre : r' = r := Option.some.inj (h1.symm.trans w3)
    subst hre
    have hn : nar ce = me_na ce + 1 := by unfold nar; rw [okk]; rfl
    refine nx_run hL hX hc0 hs0 hmono (va_runV (C := (me_y ce).cls) (b := ad K k) (As := as'.map (gv K)) (n := me_na ce) hfix hM ⟨⟨hbase.1, hbase.2.1, hbase.2.2.1, hbase.2.2.2, hpay, hmem, hts _ q4, hts _ q5, q2, hsig, hts _ (wAt_in ok)⟩, hts _ w1, hts _ w2⟩ ⟨hblind, ⟨cell, g1, by rw [g3]; rfl, by rw [g2, ← w4]; exact (fx.2.2.2.2.2.1.2.1.1 _ _ w3).2.1⟩, fun U hU hw => ⟨rfl, hpost U hU hw⟩⟩ rfl (by rw [List.length_map]; simp at hlen; omega) (hL.1.trans hml) ?_ hW8 hd hroom) nx
    show S.map (gv K) = _
    rw [hS]
    simp [gv, va_rf]
  · next idx =>
    split at hcal
    · next h2 =>
      cases hcal
      simp only [okJ, Bool.and_eq_true, decide_eq_true_eq] at ok
      obtain ⟨-, ok⟩ := ok
      rw [if_neg (by omega), if_neg (by omega), if_neg (by omega)] at ok
      simp only [okC, hpg, Bool.and_eq_true, decide_eq_true_eq] at ok
      obtain ⟨okk, ok⟩ := ok
      have w1 := q7 okk
      have hn : nar ce = me_na ce := by unfold nar; rw [okk]; rfl
      have hst : S.map (gv K) = (as.map (gv K)).reverse ++ S'.map (gv K) := by rw [hS]; simp
      split at ok
      · exact nx_run hL hX hc0 hs0 hmono (va_runS (As := as.map (gv K)) (n := me_na ce) hfix hM ⟨⟨hbase.1, hbase.2.1, hbase.2.2.1, hbase.2.2.2, hpay, hmem, hts _ q4, hts _ q5, q2, hsig, hts _ (wAt_in ok)⟩, hts _ w1⟩ ⟨hblind, fun U hU hw => ⟨rfl, hpost U hU hw⟩⟩ rfl (by rw [List.length_map]; omega) (hL.1.trans hml) hst hW8 hd hroom) nx
      · simp only [Bool.and_eq_true, decide_eq_true_eq] at ok
        have hN := fx.2.2.2.2.2.1.2.2.1 _ (nAt_in ok.2)
        exact nx_run hL hX hc0 hs0 hmono (va_runSN (As := as.map (gv K)) (n := me_na ce) (host := RNG) hfix hM ⟨⟨⟨hbase.1, hbase.2.1, hbase.2.2.1, hbase.2.2.2, hpay, hmem⟩, hts _ q4, hts _ q5, q2, hsig, va_Nw.use rfl hN⟩, hts _ w1, trivial⟩ ⟨hblind, fun U hU hw => ⟨rfl, hpost U hU hw⟩⟩ rfl (by rw [List.length_map]; omega) (hL.1.trans hml) hst hW8 hd hroom) nx
    · cases hcal
  · next idx =>
    split at hcal
    · next h2 =>
      cases hcal
      simp only [okJ, Bool.and_eq_true, decide_eq_true_eq] at ok
      obtain ⟨-, ok⟩ := ok
      rw [if_neg (by omega)] at ok
      simp only [okC, hpg, Bool.and_eq_true, decide_eq_true_eq] at ok
      obtain ⟨okk, ok⟩ := ok
      obtain ⟨w1, w2, w3⟩ := q8 okk
      have hn : nar ce = me_na ce + 1 := by unfold nar; rw [okk]; rfl
      obtain ⟨k, as', rfl⟩ := rcv2 okk hrcv
      have hst : S.map (gv K) = (as'.map (gv K)).reverse ++ .ref (ad K k) :: S'.map (gv K) := by rw [hS]; simp [gv, va_rf]
      rw [w3] at hmem q4
      split at ok
      · exact nx_run hL hX hc0 hs0 hmono (va_runI (b := ad K k) (As := as'.map (gv K)) (n := me_na ce) hfix hM ⟨⟨hbase.1, hbase.2.1, hbase.2.2.1, hbase.2.2.2, hpay, hmem, hts _ q4, hts _ q5, q2, hsig, hts _ (wAt_in ok)⟩, w2, hts _ w1⟩ ⟨hblind, fun U hU hw => ⟨rfl, hpost U hU hw⟩⟩ rfl (by rw [List.length_map]; simp at hlen; omega) (hL.1.trans hml) hst hW8 hd hroom) nx
      · simp only [Bool.and_eq_true, decide_eq_true_eq] at ok
        have hN := fx.2.2.2.2.2.1.2.2.1 _ (nAt_in ok.2)
        exact nx_run hL hX hc0 hs0 hmono (va_runIN (b := ad K k) (As := as'.map (gv K)) (n := me_na ce) (host := RNG) hfix hM ⟨⟨⟨hbase.1, hbase.2.1, hbase.2.2.1, hbase.2.2.2, hpay, hmem⟩, hts _ q4, hts _ q5, q2, hsig, va_Nw.use rfl hN⟩, w2, hts _ w1⟩ ⟨hblind, fun U hU hw => ⟨rfl, hpost U hU hw⟩⟩ rfl (by rw [List.length_map]; simp at hlen; omega) (hL.1.trans hml) hst hW8 hd hroom) nx
    · cases hcal
  · cases hcal
end CALLS
def OKR (kd : KL) (rs : RS) : Prop := (∀ v, rs.1 = some v → okv v) ∧ (∀ k j, inb (rs.2.2.1 k j)) ∧ kd.length ≤ rs.2.1.length ∧ ksz kd ≤ ksz rs.2.1
def FIN (g : GX) (K : KX) (Q : State → Prop) (c0 s0 : Nat) (me : ME) (rs : RS) : Prop := ∀ (pc : Nat) (ins : Instr) (S : List AV) (ls : Array Slot) (H : Heap) (locs : List Loc), decode (me_cc me) pc = .ok (ins, 1) → isFin ins = true → fin (me_rt me) ins S = some rs.1 → WI K rs.2.1 rs.2.2.1 rs.2.2.2 H → XI K locs → gW g H locs (rs.2.1.length - c0) (ksz rs.2.1 - s0) Q (F0 g.2.2.2.2.2.1 pc ls (S.map (gv K)))
def CFok (pg : Nat → Option ME) (d : Nat) (cf : CF) : Prop := ∀ (i : Nat) (as : List AV) (kd : KL) (F : FM) (P : PM) (rs : RS), cf i as kd F P = some rs → (∀ v ∈ as, okv v) → (∀ k j, inb (F k j)) → OKR kd rs ∧ ∀ ce, pg i = some ce → ∀ (K : KX) (l : Launch), ∃ d', d' + 1 = d ∧ Mth K l ce as kd F P d' rs
theorem fin_ok {rt : Option FieldType} {ins : Instr} {S : List AV} {r : Option AV} (h : fin rt ins S = some r) (hS : ∀ v ∈ S, okv v) : ∀ v, r = some v → okv v := by
  intro v hv
  subst hv
  unfold fin at h
  split at h
  · split at h
    · split at h
      · cases h; exact hS _ List.mem_cons_self
      · cases h
    · cases h
  · split at h
    · split at h
      · cases h; exact trivial
      · cases h
    · cases h
  · split at h
    · split at h <;> cases h
    · cases h
  · cases h
theorem len3_of {pg : Nat → Option ME} {me : ME} {ins : Instr} {len i : Nat} {ri : RI} (ok : okJ pg me ins len ri = true) (hc : cal ri ins = some i) : len = 3 := by
  unfold cal at hc
  split at hc <;> first | (simp only [okJ, Bool.and_eq_true, decide_eq_true_eq] at ok; exact ok.1) | cases hc
theorem len1_of {pg : Nat → Option ME} {me : ME} {ins : Instr} {len : Nat} {ri : RI} (ok : okJ pg me ins len ri = true) (hc : isFin ins = true) : len = 1 := by
  unfold isFin at hc
  split at hc <;> first | (simp only [okJ, decide_eq_true_eq] at ok; exact ok) | cases hc
theorem okJ_cal {pg : Nat → Option ME} {me : ME} {ins : Instr} {len i : Nat} {ri : RI} (ok : okJ pg me ins len ri = true) (hc : cal ri ins = some i) : i = ri.1 := by
  unfold cal at hc
  split at hc
  · cases hc; rfl
  · split at hc <;> cases hc; rfl
  · split at hc <;> cases hc; rfl
  · cases hc
set_option maxHeartbeats 2000000 in
theorem go_sound {pg : Nat → Option ME} {d : Nat} {cf : CF} {me : ME} (gw : GWs) (okall : ∀ i ce, pg i = some ce → OKM pg ce) (okme : ∀ e ∈ me_ci me, okI pg me e = true) (hcf : CFok pg d cf) : ∀ (f pc : Nat) (L : LV) (S : List AV) (kd : KL) (F : FM) (P : PM) (rs : RS), go pg d cf me f pc L S kd F P = some rs → AK me L S F →
    OKR kd rs ∧ ∀ (g : GX) (K : KX) (Q : State → Prop) (c0 s0 : Nat), Fx g K d me → c0 ≤ kd.length → s0 ≤ ksz kd → (rs.2.1.length - c0 ≤ g.2.2.2.1.cells ∧ ksz rs.2.1 - s0 ≤ g.2.2.2.1.slots) → FIN g K Q c0 s0 me rs → NX g K Q c0 s0 pc L S kd F P := by
  intro f
  induction f with
  | zero => intro pc L S kd F P rs h; cases h
  | succ f ih =>
    intro pc L S kd F P rs h ak
    unfold go at h
    split at h
    · cases h
    · next e he =>
      obtain ⟨hmem, hpc⟩ := ftc_spec he
      have hok := okme e hmem
      simp only [okI, Bool.and_eq_true, decide_eq_true_eq] at hok
      obtain ⟨hd, ok⟩ := hok
      rw [hpc] at hd h
      split at h
      · next hf =>
        split at h
        · next r hr =>
          cases h
          refine ⟨⟨fin_ok hr ak.2.1, ak.2.2.2, Nat.le_refl _, Nat.le_refl _⟩, fun g K Q c0 s0 fx _ _ _ hfin => ?_⟩
          rw [len1_of ok hf] at hd
          exact fun ls H locs _ hW hX => hfin pc _ S ls H locs hd hf hr hW hX
        · cases h
      · split at h
        · next i hi =>
          have hl3 := len3_of ok hi
          rw [hl3] at hd ok
          split at h
          · cases h
          · next ce hce =>
            split at h
            · cases h
            · next as S' hspl =>
              split at h
              · next hb =>
                split at h
                · cases h
                · next r kd1 F1 P1 hcall =>
                  obtain ⟨hS, hlen⟩ := spl_spec hspl
                  have has : ∀ v ∈ as, okv v := fun v hv => ak.2.1 v (by rw [hS]; exact List.mem_append_left _ (List.mem_reverse.mpr hv))
                  have hS' : ∀ v ∈ S', okv v := fun v hv => ak.2.1 v (by rw [hS]; exact List.mem_append_right _ hv)
                  obtain ⟨⟨o1, o2, o3, o4⟩, hM⟩ := hcf i as kd F P _ hcall has ak.2.2.2
                  have ak1 : AK me L (psh r S') F1 := by
                    refine ⟨ak.1, ?_, ak.2.2.1, o2⟩
                    unfold psh
                    split
                    · next v => exact List.forall_mem_cons.mpr ⟨o1 v rfl, hS'⟩
                    · exact hS'
                  obtain ⟨⟨p1, p2, p3, p4⟩, hgo⟩ := ih _ _ _ _ _ _ _ h ak1
                  dsimp only at o3 o4
                  refine ⟨⟨p1, p2, by omega, by omega⟩, fun g K Q c0 s0 fx h1 h2 hr hfin => ?_⟩
                  obtain ⟨d', hdd, hM'⟩ := hM ce hce K g.2.1
                  exact nx_call fx (okall i ce hce) hd ok hi hce hspl hb.1 hb.2 hM' hdd ak.1 h1 h2 ⟨o3, o4⟩ (by dsimp only; omega) (hgo g K Q c0 s0 fx (by omega) (by omega) hr hfin)
              · cases h
        · split at h
          · cases h
          · next pc' L' S' kd' F' P' hst =>
            obtain ⟨p1, p2, p3, p4⟩ := (ih _ _ _ _ _ _ _ h (stp_sound (c0 := 0) (s0 := 0) gw hd ok hst ak).1.1).1
            obtain ⟨hak, hm1, hm2⟩ := (stp_sound (c0 := 0) (s0 := 0) gw hd ok hst ak).1
            refine ⟨⟨p1, p2, by omega, by omega⟩, fun g K Q c0 s0 fx h1 h2 hr hfin => ?_⟩
            exact (stp_sound gw hd ok hst ak).2 g K Q fx h1 h2 (by omega) ((ih _ _ _ _ _ _ _ h hak).2 g K Q c0 s0 fx (by omega) (by omega) hr hfin)
theorem lv_args_in {K : KX} : ∀ (as : List AV) (j i : Nat) (v : AV), as[i]? = some v → (j + i, gv K v) ∈ lv_args j (as.map (gv K))
  | [], j, i, v, h => by simp at h
  | a :: as, j, 0, v, h => by
    cases h
    exact List.mem_cons_self
  | a :: as, j, i + 1, v, h => by
    rw [List.getElem?_cons_succ] at h
    have e := lv_args_in (K := K) as (j + 1) i v h
    show _ ∈ (_ :: lv_args (if (gv K a).category = 2 then j + 2 else j + 1) (as.map (gv K)))
    rw [gv_cat, if_neg (by decide), show j + (i + 1) = j + 1 + i by omega]
    exact List.mem_cons_of_mem _ e
theorem lg_len {K : KX} : ∀ (as : List AV), (lg_sl (as.map (gv K))).length = as.length
  | [] => rfl
  | a :: as => by
    have e := lg_len (K := K) as
    unfold lg_sl at e ⊢
    rw [List.map_cons, List.flatMap_cons, gv_cat, if_neg (by decide), List.length_append, e]
    simp; omega
def L0 (as : List AV) (n : Nat) : LV := as.map some ++ List.replicate (n - as.length) none
theorem L0_get {as : List AV} {n i : Nat} {v : AV} (h : (L0 as n)[i]? = some (some v)) : as[i]? = some v := by
  unfold L0 at h
  by_cases hi : i < as.length
  · rw [List.getElem?_append_left (by simp; exact hi), List.getElem?_map] at h
    cases hq : as[i]? with
    | none => rw [hq] at h; cases h
    | some w => rw [hq] at h; cases h; rfl
  · rw [List.getElem?_append_right (by simp; omega), List.getElem?_replicate] at h
    split at h <;> cases h
theorem LI_entry {K : KX} {as : List AV} {n : Nat} (h : as.length ≤ n) : LI K (L0 as n) ((lg_sl (as.map (gv K)) ++ List.replicate (n - (lg_sl (as.map (gv K))).length) Slot.unset).toArray) := by
  have e := lv_entry (as.map (gv K)) (n := n) (by rw [lg_len]; exact h)
  refine ⟨by rw [e.1]; unfold L0; simp; omega, e.2.1, fun i v hi => ?_⟩
  have h1 := lv_args_in (K := K) as 0 i v (L0_get hi)
  rw [Nat.zero_add] at h1
  exact e.2.2 _ h1
theorem Mth_of {pg : Nat → Option ME} {d : Nat} {cf : CF} {me : ME} {K : KX} {l : Launch} {f : Nat} {as : List AV} {kd : KL} {F : FM} {P : PM} {rs : RS} (gw : GWs) (okall : ∀ i ce, pg i = some ce → OKM pg ce) (okm : OKM pg me) (hcf : CFok pg d cf) (hlen : as.length ≤ me_ml me) (has : ∀ v ∈ as, okv v) (hF : ∀ k j, inb (F k j)) (h : go pg d cf me f 0 (L0 as (me_ml me)) [] kd F P = some rs) : OKR kd rs ∧ Mth K l me as kd F P d rs := by
  have ak : AK me (L0 as (me_ml me)) [] F := ⟨by unfold L0; simp; omega, fun v hv => absurd hv List.not_mem_nil, fun i v hi => has v (List.mem_of_getElem? (L0_get hi)), hF⟩
  obtain ⟨h1, h2⟩ := go_sound gw okall okm.2.2.2.2.2.2.2.2.2 hcf f 0 _ _ _ _ _ _ h ak
  refine ⟨h1, ?_⟩
  refine Met.ofW (cc := me_cc me) (maxL := me_ml me) (ret := me_rt me) okm.1 rfl ?_
  intro p e s m args below meth c s₁ B hml hv
  obtain ⟨rfl, hT, hW⟩ := hv
  have hts := atoms_spec (ws := wsm me) B.pre
  have fx : Fx (p, l, e, ({ frames := d, cells := rs.2.1.length - kd.length, slots := ksz rs.2.1 - ksz kd, locals := 39 * d } : Room), s, m, (as.map (gv K)).toArray, below, meth, c) K d me :=
    ⟨B.exec, B.bytes, hml, findClass_of_methodNamed B.named, fun w hw => hts w (List.mem_cons_of_mem _ hw), hT, fun hn => (name_of_methodNamed B.named B.method).1.trans hn, Nat.le_refl _, Nat.le_refl _⟩
  have hr := B.returns
  have hlocks := B.notSynchronized
  have key := h2 _ K (MQ below (fun _ _ oc t => oc = .returned (rs.1.map (gv K)) ∧ WI K rs.2.1 rs.2.2.1 rs.2.2.2 t.heap) (as.map (gv K)).toArray s (rs.2.1.length - kd.length) (ksz rs.2.1 - ksz kd) (zA K)) kd.length (ksz kd) fx (Nat.le_refl _) (Nat.le_refl _) ⟨Nat.le_refl _, Nat.le_refl _⟩ ?_ _ _ [] (LI_entry hlen) hW (fun q hq => absurd hq List.not_mem_nil)
  · rw [Nat.sub_self, Nat.sub_self] at key
    rw [lg_entry_eq]
    exact key
  · intro pc ins S ls H locs hd hf hfin hW1 hX
    unfold fin at hfin
    split at hfin
    · split at hfin
      · next v =>
        split at hfin
        · next hb =>
          have hfin := Option.some.inj hfin
          rcases hb with hb | ⟨hb, hv⟩
          · rw [hb] at hr
            exact W.iret fx.1 fx.2.1 hr (fun t ht _ => ⟨by rw [← hfin]; rfl, by rw [ht]; exact hW1⟩) hX hd hlocks
          · rw [hb] at hr
            refine W.zret (ty := .boolean) fx.1 fx.2.1 hr ?_ (fun t ht _ => ⟨by rw [← hfin]; rfl, by rw [ht]; exact hW1⟩) hX hd hlocks
            rcases hv with hv | hv <;> rw [hv] <;> decide
        · cases hfin
      · cases hfin
    · split at hfin
      · next v =>
        split at hfin
        · next n hb =>
          have hfin := Option.some.inj hfin
          rw [hb] at hr
          refine W.aret fx.1 fx.2.1 hr (Or.inl ⟨_, rfl⟩) ?_ (fun t ht _ => ⟨by rw [← hfin]; rfl, by rw [ht]; exact hW1⟩) hX hd hlocks
          cases v
          · exact Or.inl rfl
          · exact Or.inr ⟨_, rfl⟩
        · cases hfin
      · cases hfin
    · split at hfin
      · split at hfin
        · next hb =>
          have hfin := Option.some.inj hfin
          rw [hb] at hr
          exact W.vret fx.1 fx.2.1 hr (fun t ht _ => ⟨by rw [← hfin]; rfl, by rw [ht]; exact hW1⟩) hX hd hlocks
        · cases hfin
      · cases hfin
    · cases hfin
theorem lvl_sound {pg : Nat → Option ME} (gw : GWs) (okall : ∀ i ce, pg i = some ce → OKM pg ce) (f : Nat) : ∀ d, CFok pg d (lvl pg d f)
  | 0 => fun i as kd F P rs h => by cases h
  | d + 1 => fun i as kd F P rs h has hF => by
    have ih := lvl_sound gw okall f d
    unfold lvl at h
    split at h
    · cases h
    · next me hme =>
      split at h
      · next hb =>
        have h0 := fun (K : KX) (l : Launch) => Mth_of (K := K) (l := l) gw okall (okall i me hme) ih hb.2 has hF h
        refine ⟨?_, fun ce hce K l => ⟨d, rfl, ?_⟩⟩
        · exact (go_sound gw okall (okall i me hme).2.2.2.2.2.2.2.2.2 ih f 0 _ _ _ _ _ _ h ⟨by simp; omega, fun v hv => absurd hv List.not_mem_nil, fun i v hi => has v (List.mem_of_getElem? (L0_get hi)), hF⟩).1
        · cases hme.symm.trans hce
          exact (h0 K l).2
      · cases h
end
section
def tX0_init : List CI := [(0, .aload_n 0, 1, (0, 0, 0, 0)), (1, .invokespecial 3, 3, (276, 5, 0, 0)), (4, .aload_n 0, 1, (0, 0, 0, 0)), (5, .iconst 4, 1, (0, 0, 0, 0)), (6, .newarray .int, 2, (0, 0, 0, 0)), (8, .putfield 9, 3, (0, 1, 278, 0)),
  (11, .aload_n 0, 1, (0, 0, 0, 0)), (12, .aload_n 1, 1, (0, 0, 0, 0)), (13, .putfield 15, 3, (0, 0, 277, 0)), (16, .return_, 1, (0, 0, 0, 0))]
def mX0_init : ME := (yX0_init, cX0_init, 2, none, 2, 1, 0, tX0_init)
def tX0_bestReply : List CI := [(0, .aload_n 1, 1, (0, 0, 0, 0)), (1, .getfield 19, 3, (5, 9, 141, 0)), (4, .iconst 0, 1, (0, 0, 0, 0)), (5, .aload_n 0, 1, (0, 0, 0, 0)), (6, .getfield 9, 3, (0, 1, 278, 0)), (9, .iconst 0, 1, (0, 0, 0, 0)),
  (10, .iconst 4, 1, (0, 0, 0, 0)), (11, .invokestatic 24, 3, (519, 2, 0, 0)), (14, .iconst 0, 1, (0, 0, 0, 0)), (15, .istore_n 3, 1, (0, 0, 0, 0)), (16, .ldc 30, 2, (520, 0, 0, -1000000)), (18, .istore 4, 2, (0, 0, 0, 0)),
  (20, .ldc 30, 2, (520, 0, 0, -1000000)), (22, .istore 5, 2, (0, 0, 0, 0)), (24, .iconst 0, 1, (0, 0, 0, 0)), (25, .istore 6, 2, (0, 0, 0, 0)), (27, .iload 6, 2, (0, 0, 0, 0)), (29, .aload_n 1, 1, (0, 0, 0, 0)),
  (30, .getfield 31, 3, (5, 7, 135, 0)), (33, .iload_n 2, 1, (0, 0, 0, 0)), (34, .iaload, 1, (0, 0, 0, 0)), (35, .if_icmp .gt 93, 3, (0, 0, 0, 0)), (38, .aload_n 0, 1, (0, 0, 0, 0)), (39, .getfield 9, 3, (0, 1, 278, 0)),
  (42, .iload_n 2, 1, (0, 0, 0, 0)), (43, .iload 6, 2, (0, 0, 0, 0)), (45, .iastore, 1, (0, 0, 0, 0)), (46, .aload_n 0, 1, (0, 0, 0, 0)), (47, .getfield 15, 3, (0, 0, 277, 0)), (50, .aload_n 1, 1, (0, 0, 0, 0)),
  (51, .aload_n 0, 1, (0, 0, 0, 0)), (52, .getfield 9, 3, (0, 1, 278, 0)), (55, .invokevirtual 34, 3, (11, 0, 521, 0)), (58, .aload_n 0, 1, (0, 0, 0, 0)), (59, .getfield 15, 3, (0, 0, 277, 0)), (62, .getfield 40, 3, (2, 0, 244, 0)),
  (65, .iload_n 2, 1, (0, 0, 0, 0)), (66, .if_icmp .ne 10, 3, (0, 0, 0, 0)), (69, .aload_n 1, 1, (0, 0, 0, 0)), (70, .invokevirtual 44, 3, (38, 0, 522, 0)), (73, .goto 4, 3, (0, 0, 0, 0)), (76, .iconst 0, 1, (0, 0, 0, 0)),
  (77, .istore 7, 2, (0, 0, 0, 0)), (79, .aload_n 0, 1, (0, 0, 0, 0)), (80, .getfield 15, 3, (0, 0, 277, 0)), (83, .aload_n 1, 1, (0, 0, 0, 0)), (84, .iload_n 2, 1, (0, 0, 0, 0)), (85, .invokevirtual 48, 3, (15, 0, 523, 0)),
  (88, .istore 8, 2, (0, 0, 0, 0)), (90, .iload 7, 2, (0, 0, 0, 0)), (92, .iload 4, 2, (0, 0, 0, 0)), (94, .if_icmp .gt 17, 3, (0, 0, 0, 0)), (97, .iload 7, 2, (0, 0, 0, 0)), (99, .iload 4, 2, (0, 0, 0, 0)),
  (101, .if_icmp .ne 21, 3, (0, 0, 0, 0)), (104, .iload 8, 2, (0, 0, 0, 0)), (106, .iload 5, 2, (0, 0, 0, 0)), (108, .if_icmp .le 14, 3, (0, 0, 0, 0)), (111, .iload 6, 2, (0, 0, 0, 0)), (113, .istore_n 3, 1, (0, 0, 0, 0)),
  (114, .iload 7, 2, (0, 0, 0, 0)), (116, .istore 4, 2, (0, 0, 0, 0)), (118, .iload 8, 2, (0, 0, 0, 0)), (120, .istore 5, 2, (0, 0, 0, 0)), (122, .iinc 6 1, 3, (0, 0, 0, 0)), (125, .goto (-98), 3, (0, 0, 0, 0)),
  (128, .iload_n 3, 1, (0, 0, 0, 0)), (129, .ireturn, 1, (0, 0, 0, 0))]
def mX0_bestReply : ME := (yX0_bestReply, cX0_bestReply, 9, (some .int), 0, 2, 0, tX0_bestReply)
def tX0_bestOpenBid : List CI := [(0, .iconst 0, 1, (0, 0, 0, 0)), (1, .istore 4, 2, (0, 0, 0, 0)), (3, .ldc 30, 2, (520, 0, 0, -1000000)), (5, .istore 5, 2, (0, 0, 0, 0)), (7, .iconst 0, 1, (0, 0, 0, 0)), (8, .istore 6, 2, (0, 0, 0, 0)),
  (10, .iload 6, 2, (0, 0, 0, 0)), (12, .aload_n 1, 1, (0, 0, 0, 0)), (13, .getfield 31, 3, (5, 7, 135, 0)), (16, .iload_n 2, 1, (0, 0, 0, 0)), (17, .iaload, 1, (0, 0, 0, 0)), (18, .if_icmp .gt 37, 3, (0, 0, 0, 0)),
  (21, .aload_n 0, 1, (0, 0, 0, 0)), (22, .aload_n 1, 1, (0, 0, 0, 0)), (23, .iload_n 2, 1, (0, 0, 0, 0)), (24, .iload 6, 2, (0, 0, 0, 0)), (26, .iload_n 3, 1, (0, 0, 0, 0)), (27, .iload 5, 2, (0, 0, 0, 0)),
  (29, .invokevirtual 52, 3, (4, 0, 536, 0)), (32, .istore 7, 2, (0, 0, 0, 0)), (34, .iload 7, 2, (0, 0, 0, 0)), (36, .iload 5, 2, (0, 0, 0, 0)), (38, .if_icmp .le 11, 3, (0, 0, 0, 0)), (41, .iload 6, 2, (0, 0, 0, 0)),
  (43, .istore 4, 2, (0, 0, 0, 0)), (45, .iload 7, 2, (0, 0, 0, 0)), (47, .istore 5, 2, (0, 0, 0, 0)), (49, .iinc 6 1, 3, (0, 0, 0, 0)), (52, .goto (-42), 3, (0, 0, 0, 0)), (55, .iload 4, 2, (0, 0, 0, 0)),
  (57, .ireturn, 1, (0, 0, 0, 0))]
def mX0_bestOpenBid : ME := (yX0_bestOpenBid, cX0_bestOpenBid, 8, (some .int), 0, 3, 0, tX0_bestOpenBid)
def tX0_gainByOpenBid : List CI := [(0, .aload_n 0, 1, (0, 0, 0, 0)), (1, .aload_n 1, 1, (0, 0, 0, 0)), (2, .iload_n 2, 1, (0, 0, 0, 0)), (3, .aload_n 0, 1, (0, 0, 0, 0)), (4, .aload_n 1, 1, (0, 0, 0, 0)), (5, .iload_n 2, 1, (0, 0, 0, 0)),
  (6, .iload_n 3, 1, (0, 0, 0, 0)), (7, .invokevirtual 56, 3, (2, 0, 532, 0)), (10, .iload_n 3, 1, (0, 0, 0, 0)), (11, .ldc 30, 2, (520, 0, 0, -1000000)), (13, .invokevirtual 52, 3, (4, 0, 536, 0)), (16, .ireturn, 1, (0, 0, 0, 0))]
def mX0_gainByOpenBid : ME := (yX0_gainByOpenBid, cX0_gainByOpenBid, 4, (some .int), 0, 3, 0, tX0_gainByOpenBid)
def tX0_leastGain : List CI := [(0, .iconst 1, 1, (0, 0, 0, 0)), (1, .iload_n 2, 1, (0, 0, 0, 0)), (2, .isub, 1, (0, 0, 0, 0)), (3, .istore 6, 2, (0, 0, 0, 0)), (5, .ldc 60, 2, (540, 0, 0, 1000000)), (7, .istore 7, 2, (0, 0, 0, 0)),
  (9, .aload_n 0, 1, (0, 0, 0, 0)), (10, .getfield 9, 3, (0, 1, 278, 0)), (13, .iload_n 2, 1, (0, 0, 0, 0)), (14, .iload_n 3, 1, (0, 0, 0, 0)), (15, .iastore, 1, (0, 0, 0, 0)), (16, .iconst 0, 1, (0, 0, 0, 0)),
  (17, .istore 8, 2, (0, 0, 0, 0)), (19, .iload 8, 2, (0, 0, 0, 0)), (21, .aload_n 1, 1, (0, 0, 0, 0)), (22, .getfield 31, 3, (5, 7, 135, 0)), (25, .iload 6, 2, (0, 0, 0, 0)), (27, .iaload, 1, (0, 0, 0, 0)),
  (28, .if_icmp .gt 42, 3, (0, 0, 0, 0)), (31, .iload 7, 2, (0, 0, 0, 0)), (33, .iload 5, 2, (0, 0, 0, 0)), (35, .if_icmp .le 35, 3, (0, 0, 0, 0)), (38, .aload_n 0, 1, (0, 0, 0, 0)), (39, .getfield 9, 3, (0, 1, 278, 0)),
  (42, .iload 6, 2, (0, 0, 0, 0)), (44, .iload 8, 2, (0, 0, 0, 0)), (46, .iastore, 1, (0, 0, 0, 0)), (47, .iload 7, 2, (0, 0, 0, 0)), (49, .aload_n 0, 1, (0, 0, 0, 0)), (50, .aload_n 1, 1, (0, 0, 0, 0)),
  (51, .iload_n 2, 1, (0, 0, 0, 0)), (52, .iload 6, 2, (0, 0, 0, 0)), (54, .iload 4, 2, (0, 0, 0, 0)), (56, .invokevirtual 61, 3, (5, 0, 541, 0)), (59, .invokestatic 65, 3, (548, 4, 0, 0)), (62, .istore 7, 2, (0, 0, 0, 0)),
  (64, .iinc 8 1, 3, (0, 0, 0, 0)), (67, .goto (-48), 3, (0, 0, 0, 0)), (70, .iload 7, 2, (0, 0, 0, 0)), (72, .ireturn, 1, (0, 0, 0, 0))]
def mX0_leastGain : ME := (yX0_leastGain, cX0_leastGain, 9, (some .int), 0, 5, 0, tX0_leastGain)
def tX0_gainOfTrial : List CI := [(0, .aload_n 0, 1, (0, 0, 0, 0)), (1, .getfield 15, 3, (0, 0, 277, 0)), (4, .aload_n 1, 1, (0, 0, 0, 0)), (5, .aload_n 0, 1, (0, 0, 0, 0)), (6, .getfield 9, 3, (0, 1, 278, 0)), (9, .invokevirtual 34, 3, (11, 0, 521, 0)),
  (12, .aload_n 1, 1, (0, 0, 0, 0)), (13, .invokevirtual 44, 3, (38, 0, 522, 0)), (16, .istore 5, 2, (0, 0, 0, 0)), (18, .aload_n 0, 1, (0, 0, 0, 0)), (19, .getfield 15, 3, (0, 0, 277, 0)), (22, .getfield 40, 3, (2, 0, 244, 0)),
  (25, .iconst (-1), 1, (0, 0, 0, 0)), (26, .if_icmp .ne 8, 3, (0, 0, 0, 0)), (29, .iload 5, 2, (0, 0, 0, 0)), (31, .goto 4, 3, (0, 0, 0, 0)), (34, .iconst 0, 1, (0, 0, 0, 0)), (35, .istore 6, 2, (0, 0, 0, 0)),
  (37, .iconst 0, 1, (0, 0, 0, 0)), (38, .istore 7, 2, (0, 0, 0, 0)), (40, .aload_n 0, 1, (0, 0, 0, 0)), (41, .getfield 15, 3, (0, 0, 277, 0)), (44, .getfield 40, 3, (2, 0, 244, 0)), (47, .iload_n 2, 1, (0, 0, 0, 0)),
  (48, .if_icmp .ne 7, 3, (0, 0, 0, 0)), (51, .iload 5, 2, (0, 0, 0, 0)), (53, .istore 7, 2, (0, 0, 0, 0)), (55, .aload_n 0, 1, (0, 0, 0, 0)), (56, .getfield 15, 3, (0, 0, 277, 0)), (59, .getfield 40, 3, (2, 0, 244, 0)),
  (62, .iload_n 3, 1, (0, 0, 0, 0)), (63, .if_icmp .ne 8, 3, (0, 0, 0, 0)), (66, .iload 5, 2, (0, 0, 0, 0)), (68, .ineg, 1, (0, 0, 0, 0)), (69, .istore 7, 2, (0, 0, 0, 0)), (71, .iload 4, 2, (0, 0, 0, 0)),
  (73, .iconst 2, 1, (0, 0, 0, 0)), (74, .if_icmp .lt 11, 3, (0, 0, 0, 0)), (77, .aload_n 1, 1, (0, 0, 0, 0)), (78, .getfield 71, 3, (5, 6, 133, 0)), (81, .iconst 2, 1, (0, 0, 0, 0)), (82, .if_icmp .ge 6, 3, (0, 0, 0, 0)),
  (85, .iload 7, 2, (0, 0, 0, 0)), (87, .ireturn, 1, (0, 0, 0, 0)), (88, .iload 6, 2, (0, 0, 0, 0)), (90, .aload_n 1, 1, (0, 0, 0, 0)), (91, .getfield 74, 3, (5, 14, 148, 0)), (94, .aload_n 1, 1, (0, 0, 0, 0)),
  (95, .getfield 77, 3, (5, 4, 130, 0)), (98, .iconst 1, 1, (0, 0, 0, 0)), (99, .iadd, 1, (0, 0, 0, 0)), (100, .iaload, 1, (0, 0, 0, 0)), (101, .iadd, 1, (0, 0, 0, 0)), (102, .istore 8, 2, (0, 0, 0, 0)),
  (104, .aload_n 0, 1, (0, 0, 0, 0)), (105, .getfield 15, 3, (0, 0, 277, 0)), (108, .aload_n 1, 1, (0, 0, 0, 0)), (109, .iload_n 2, 1, (0, 0, 0, 0)), (110, .invokevirtual 48, 3, (15, 0, 523, 0)), (113, .istore 9, 2, (0, 0, 0, 0)),
  (115, .aload_n 0, 1, (0, 0, 0, 0)), (116, .getfield 15, 3, (0, 0, 277, 0)), (119, .aload_n 1, 1, (0, 0, 0, 0)), (120, .iload_n 3, 1, (0, 0, 0, 0)), (121, .invokevirtual 48, 3, (15, 0, 523, 0)), (124, .istore 10, 2, (0, 0, 0, 0)),
  (126, .iload 7, 2, (0, 0, 0, 0)), (128, .iload 9, 2, (0, 0, 0, 0)), (130, .iload 10, 2, (0, 0, 0, 0)), (132, .iload 8, 2, (0, 0, 0, 0)), (134, .invokestatic 80, 3, (6, 0, 545, 0)), (137, .iadd, 1, (0, 0, 0, 0)),
  (138, .ireturn, 1, (0, 0, 0, 0))]
def mX0_gainOfTrial : ME := (yX0_gainOfTrial, cX0_gainOfTrial, 11, (some .int), 0, 4, 0, tX0_gainOfTrial)
def tX0_gainInLastRound : List CI := [(0, .iload_n 2, 1, (0, 0, 0, 0)), (1, .ifCond .le 8, 3, (0, 0, 0, 0)), (4, .iload_n 0, 1, (0, 0, 0, 0)), (5, .iload_n 1, 1, (0, 0, 0, 0)), (6, .if_icmp .ne 5, 3, (0, 0, 0, 0)), (9, .iconst 0, 1, (0, 0, 0, 0)),
  (10, .ireturn, 1, (0, 0, 0, 0)), (11, .iload_n 0, 1, (0, 0, 0, 0)), (12, .iload_n 1, 1, (0, 0, 0, 0)), (13, .if_icmp .le 7, 3, (0, 0, 0, 0)), (16, .iload_n 2, 1, (0, 0, 0, 0)), (17, .goto 5, 3, (0, 0, 0, 0)),
  (20, .iload_n 2, 1, (0, 0, 0, 0)), (21, .ineg, 1, (0, 0, 0, 0)), (22, .ireturn, 1, (0, 0, 0, 0))]
def mX0_gainInLastRound : ME := (yX0_gainInLastRound, cX0_gainInLastRound, 3, (some .int), 1, 3, 0, tX0_gainInLastRound)
def tX1_init : List CI := [(0, .aload_n 0, 1, (0, 0, 0, 0)), (1, .invokespecial 3, 3, (51, 5, 0, 0)), (4, .aload_n 0, 1, (0, 0, 0, 0)), (5, .iconst 4, 1, (0, 0, 0, 0)), (6, .anewarray 9, 3, (52, 0, 0, 0)), (9, .putfield 11, 3, (1, 0, 188, 0)),
  (12, .iconst 0, 1, (0, 0, 0, 0)), (13, .istore_n 1, 1, (0, 0, 0, 0)), (14, .iload_n 1, 1, (0, 0, 0, 0)), (15, .iconst 4, 1, (0, 0, 0, 0)), (16, .if_icmp .ge 22, 3, (0, 0, 0, 0)), (19, .aload_n 0, 1, (0, 0, 0, 0)),
  (20, .getfield 11, 3, (1, 0, 188, 0)), (23, .iload_n 1, 1, (0, 0, 0, 0)), (24, .new 9, 3, (5, 17, 52, 0)), (27, .dup, 1, (0, 0, 0, 0)), (28, .invokespecial 17, 3, (28, 0, 55, 0)), (31, .aastore, 1, (0, 0, 0, 0)),
  (32, .iinc 1 1, 3, (0, 0, 0, 0)), (35, .goto (-21), 3, (0, 0, 0, 0)), (38, .return_, 1, (0, 0, 0, 0))]
def mX1_init : ME := (yX1_init, cX1_init, 2, none, 2, 0, 1, tX1_init)
def tX1_add : List CI := [(0, .aload_n 0, 1, (0, 0, 0, 0)), (1, .getfield 18, 3, (1, 1, 189, 0)), (4, .iconst 4, 1, (0, 0, 0, 0)), (5, .if_icmp .ge 35, 3, (0, 0, 0, 0)), (8, .aload_n 0, 1, (0, 0, 0, 0)), (9, .getfield 11, 3, (1, 0, 188, 0)),
  (12, .aload_n 0, 1, (0, 0, 0, 0)), (13, .getfield 18, 3, (1, 1, 189, 0)), (16, .aaload, 1, (0, 0, 0, 0)), (17, .astore_n 2, 1, (0, 0, 0, 0)), (18, .aload_n 0, 1, (0, 0, 0, 0)), (19, .getfield 11, 3, (1, 0, 188, 0)),
  (22, .aload_n 0, 1, (0, 0, 0, 0)), (23, .getfield 18, 3, (1, 1, 189, 0)), (26, .aload_n 1, 1, (0, 0, 0, 0)), (27, .aastore, 1, (0, 0, 0, 0)), (28, .aload_n 0, 1, (0, 0, 0, 0)), (29, .dup, 1, (0, 0, 0, 0)),
  (30, .getfield 18, 3, (1, 1, 189, 0)), (33, .iconst 1, 1, (0, 0, 0, 0)), (34, .iadd, 1, (0, 0, 0, 0)), (35, .putfield 18, 3, (1, 1, 189, 0)), (38, .aload_n 2, 1, (0, 0, 0, 0)), (39, .areturn, 1, (0, 0, 0, 0)),
  (40, .aload_n 0, 1, (0, 0, 0, 0)), (41, .getfield 11, 3, (1, 0, 188, 0)), (44, .iconst 0, 1, (0, 0, 0, 0)), (45, .aaload, 1, (0, 0, 0, 0)), (46, .astore_n 2, 1, (0, 0, 0, 0)), (47, .iconst 1, 1, (0, 0, 0, 0)),
  (48, .istore_n 3, 1, (0, 0, 0, 0)), (49, .iload_n 3, 1, (0, 0, 0, 0)), (50, .iconst 4, 1, (0, 0, 0, 0)), (51, .if_icmp .ge 23, 3, (0, 0, 0, 0)), (54, .aload_n 0, 1, (0, 0, 0, 0)), (55, .getfield 11, 3, (1, 0, 188, 0)),
  (58, .iload_n 3, 1, (0, 0, 0, 0)), (59, .iconst 1, 1, (0, 0, 0, 0)), (60, .isub, 1, (0, 0, 0, 0)), (61, .aload_n 0, 1, (0, 0, 0, 0)), (62, .getfield 11, 3, (1, 0, 188, 0)), (65, .iload_n 3, 1, (0, 0, 0, 0)),
  (66, .aaload, 1, (0, 0, 0, 0)), (67, .aastore, 1, (0, 0, 0, 0)), (68, .iinc 3 1, 3, (0, 0, 0, 0)), (71, .goto (-22), 3, (0, 0, 0, 0)), (74, .aload_n 0, 1, (0, 0, 0, 0)), (75, .getfield 11, 3, (1, 0, 188, 0)),
  (78, .iconst 3, 1, (0, 0, 0, 0)), (79, .aload_n 1, 1, (0, 0, 0, 0)), (80, .aastore, 1, (0, 0, 0, 0)), (81, .aload_n 2, 1, (0, 0, 0, 0)), (82, .areturn, 1, (0, 0, 0, 0))]
def mX1_add : ME := (yX1_add, cX1_add, 4, (some (.object "HiddenBids$State")), 0, 1, 1, tX1_add)
def tX1_takeLatest : List CI := [(0, .aload_n 0, 1, (0, 0, 0, 0)), (1, .getfield 18, 3, (1, 1, 189, 0)), (4, .iconst 1, 1, (0, 0, 0, 0)), (5, .if_icmp .ge 5, 3, (0, 0, 0, 0)), (8, .aload_n 1, 1, (0, 0, 0, 0)), (9, .areturn, 1, (0, 0, 0, 0)),
  (10, .aload_n 0, 1, (0, 0, 0, 0)), (11, .dup, 1, (0, 0, 0, 0)), (12, .getfield 18, 3, (1, 1, 189, 0)), (15, .iconst 1, 1, (0, 0, 0, 0)), (16, .isub, 1, (0, 0, 0, 0)), (17, .putfield 18, 3, (1, 1, 189, 0)),
  (20, .aload_n 0, 1, (0, 0, 0, 0)), (21, .getfield 11, 3, (1, 0, 188, 0)), (24, .aload_n 0, 1, (0, 0, 0, 0)), (25, .getfield 18, 3, (1, 1, 189, 0)), (28, .aaload, 1, (0, 0, 0, 0)), (29, .astore_n 2, 1, (0, 0, 0, 0)),
  (30, .aload_n 0, 1, (0, 0, 0, 0)), (31, .getfield 11, 3, (1, 0, 188, 0)), (34, .aload_n 0, 1, (0, 0, 0, 0)), (35, .getfield 18, 3, (1, 1, 189, 0)), (38, .aload_n 1, 1, (0, 0, 0, 0)), (39, .aastore, 1, (0, 0, 0, 0)),
  (40, .aload_n 2, 1, (0, 0, 0, 0)), (41, .areturn, 1, (0, 0, 0, 0))]
def mX1_takeLatest : ME := (yX1_takeLatest, cX1_takeLatest, 3, (some (.object "HiddenBids$State")), 0, 1, 1, tX1_takeLatest)
def tX2_init : List CI := [(0, .aload_n 0, 1, (0, 0, 0, 0)), (1, .invokespecial 3, 3, (243, 5, 0, 0)), (4, .aload_n 0, 1, (0, 0, 0, 0)), (5, .iconst 4, 1, (0, 0, 0, 0)), (6, .newarray .int, 2, (0, 0, 0, 0)), (8, .putfield 9, 3, (2, 4, 254, 0)),
  (11, .aload_n 0, 1, (0, 0, 0, 0)), (12, .iconst 4, 1, (0, 0, 0, 0)), (13, .newarray .int, 2, (0, 0, 0, 0)), (15, .putfield 15, 3, (2, 5, 256, 0)), (18, .return_, 1, (0, 0, 0, 0))]
def mX2_init : ME := (yX2_init, cX2_init, 1, none, 2, 0, 2, tX2_init)
def tX2_work : List CI := [(0, .aload_n 0, 1, (0, 0, 0, 0)), (1, .aload_n 1, 1, (0, 0, 0, 0)), (2, .getfield 18, 3, (5, 0, 122, 0)), (5, .aload_n 2, 1, (0, 0, 0, 0)), (6, .invokevirtual 24, 3, (12, 0, 386, 0)), (9, .aload_n 0, 1, (0, 0, 0, 0)),
  (10, .aload_n 1, 1, (0, 0, 0, 0)), (11, .getfield 28, 3, (5, 1, 125, 0)), (14, .putfield 31, 3, (2, 3, 252, 0)), (17, .iconst 0, 1, (0, 0, 0, 0)), (18, .istore_n 3, 1, (0, 0, 0, 0)), (19, .iload_n 3, 1, (0, 0, 0, 0)),
  (20, .aload_n 1, 1, (0, 0, 0, 0)), (21, .getfield 18, 3, (5, 0, 122, 0)), (24, .if_icmp .ge 49, 3, (0, 0, 0, 0)), (27, .aload_n 0, 1, (0, 0, 0, 0)), (28, .getfield 9, 3, (2, 4, 254, 0)), (31, .iload_n 3, 1, (0, 0, 0, 0)),
  (32, .aload_n 0, 1, (0, 0, 0, 0)), (33, .aload_n 1, 1, (0, 0, 0, 0)), (34, .getfield 32, 3, (5, 13, 146, 0)), (37, .iload_n 3, 1, (0, 0, 0, 0)), (38, .aload_n 2, 1, (0, 0, 0, 0)), (39, .iload_n 3, 1, (0, 0, 0, 0)),
  (40, .iaload, 1, (0, 0, 0, 0)), (41, .invokevirtual 35, 3, (13, 0, 390, 0)), (44, .iastore, 1, (0, 0, 0, 0)), (45, .aload_n 0, 1, (0, 0, 0, 0)), (46, .getfield 15, 3, (2, 5, 256, 0)), (49, .iload_n 3, 1, (0, 0, 0, 0)),
  (50, .iconst 0, 1, (0, 0, 0, 0)), (51, .iastore, 1, (0, 0, 0, 0)), (52, .aload_n 0, 1, (0, 0, 0, 0)), (53, .dup, 1, (0, 0, 0, 0)), (54, .getfield 31, 3, (2, 3, 252, 0)), (57, .aload_n 0, 1, (0, 0, 0, 0)),
  (58, .getfield 9, 3, (2, 4, 254, 0)), (61, .iload_n 3, 1, (0, 0, 0, 0)), (62, .iaload, 1, (0, 0, 0, 0)), (63, .iadd, 1, (0, 0, 0, 0)), (64, .putfield 31, 3, (2, 3, 252, 0)), (67, .iinc 3 1, 3, (0, 0, 0, 0)),
  (70, .goto (-51), 3, (0, 0, 0, 0)), (73, .aload_n 0, 1, (0, 0, 0, 0)), (74, .getfield 39, 3, (2, 0, 245, 0)), (77, .iconst (-1), 1, (0, 0, 0, 0)), (78, .if_icmp .eq 21, 3, (0, 0, 0, 0)), (81, .aload_n 1, 1, (0, 0, 0, 0)),
  (82, .getfield 32, 3, (5, 13, 146, 0)), (85, .iconst 2, 1, (0, 0, 0, 0)), (86, .iaload, 1, (0, 0, 0, 0)), (87, .iconst 1, 1, (0, 0, 0, 0)), (88, .if_icmp .ne 11, 3, (0, 0, 0, 0)), (91, .aload_n 0, 1, (0, 0, 0, 0)),
  (92, .aload_n 1, 1, (0, 0, 0, 0)), (93, .getfield 18, 3, (5, 0, 122, 0)), (96, .invokevirtual 42, 3, (14, 0, 397, 0)), (99, .return_, 1, (0, 0, 0, 0))]
def mX2_work : ME := (yX2_work, cX2_work, 4, none, 0, 2, 2, tX2_work)
def tX2_findWinner : List CI := [(0, .aload_n 0, 1, (0, 0, 0, 0)), (1, .iconst (-1), 1, (0, 0, 0, 0)), (2, .putfield 46, 3, (2, 1, 248, 0)), (5, .aload_n 0, 1, (0, 0, 0, 0)), (6, .iconst 0, 1, (0, 0, 0, 0)), (7, .putfield 49, 3, (2, 2, 250, 0)),
  (10, .aload_n 0, 1, (0, 0, 0, 0)), (11, .iconst (-1), 1, (0, 0, 0, 0)), (12, .putfield 39, 3, (2, 0, 245, 0)), (15, .iconst 0, 1, (0, 0, 0, 0)), (16, .istore_n 3, 1, (0, 0, 0, 0)), (17, .iload_n 3, 1, (0, 0, 0, 0)),
  (18, .iload_n 1, 1, (0, 0, 0, 0)), (19, .if_icmp .ge 64, 3, (0, 0, 0, 0)), (22, .aload_n 2, 1, (0, 0, 0, 0)), (23, .iload_n 3, 1, (0, 0, 0, 0)), (24, .iaload, 1, (0, 0, 0, 0)), (25, .aload_n 0, 1, (0, 0, 0, 0)),
  (26, .getfield 46, 3, (2, 1, 248, 0)), (29, .if_icmp .le 23, 3, (0, 0, 0, 0)), (32, .aload_n 0, 1, (0, 0, 0, 0)), (33, .aload_n 2, 1, (0, 0, 0, 0)), (34, .iload_n 3, 1, (0, 0, 0, 0)), (35, .iaload, 1, (0, 0, 0, 0)),
  (36, .putfield 46, 3, (2, 1, 248, 0)), (39, .aload_n 0, 1, (0, 0, 0, 0)), (40, .iconst 1, 1, (0, 0, 0, 0)), (41, .putfield 49, 3, (2, 2, 250, 0)), (44, .aload_n 0, 1, (0, 0, 0, 0)), (45, .iload_n 3, 1, (0, 0, 0, 0)),
  (46, .putfield 39, 3, (2, 0, 245, 0)), (49, .goto 28, 3, (0, 0, 0, 0)), (52, .aload_n 2, 1, (0, 0, 0, 0)), (53, .iload_n 3, 1, (0, 0, 0, 0)), (54, .iaload, 1, (0, 0, 0, 0)), (55, .aload_n 0, 1, (0, 0, 0, 0)),
  (56, .getfield 46, 3, (2, 1, 248, 0)), (59, .if_icmp .ne 18, 3, (0, 0, 0, 0)), (62, .aload_n 0, 1, (0, 0, 0, 0)), (63, .dup, 1, (0, 0, 0, 0)), (64, .getfield 49, 3, (2, 2, 250, 0)), (67, .iconst 1, 1, (0, 0, 0, 0)),
  (68, .iadd, 1, (0, 0, 0, 0)), (69, .putfield 49, 3, (2, 2, 250, 0)), (72, .aload_n 0, 1, (0, 0, 0, 0)), (73, .iconst (-1), 1, (0, 0, 0, 0)), (74, .putfield 39, 3, (2, 0, 245, 0)), (77, .iinc 3 1, 3, (0, 0, 0, 0)),
  (80, .goto (-63), 3, (0, 0, 0, 0)), (83, .return_, 1, (0, 0, 0, 0))]
def mX2_findWinner : ME := (yX2_findWinner, cX2_findWinner, 4, none, 0, 2, 2, tX2_findWinner)
def tX2_payment : List CI := [(0, .iload_n 2, 1, (0, 0, 0, 0)), (1, .aload_n 0, 1, (0, 0, 0, 0)), (2, .getfield 39, 3, (2, 0, 245, 0)), (5, .if_icmp .ne 5, 3, (0, 0, 0, 0)), (8, .iload_n 3, 1, (0, 0, 0, 0)), (9, .ireturn, 1, (0, 0, 0, 0)),
  (10, .aload_n 0, 1, (0, 0, 0, 0)), (11, .getfield 39, 3, (2, 0, 245, 0)), (14, .iconst (-1), 1, (0, 0, 0, 0)), (15, .if_icmp .eq 11, 3, (0, 0, 0, 0)), (18, .aload_n 1, 1, (0, 0, 0, 0)), (19, .iconst 1, 1, (0, 0, 0, 0)),
  (20, .iaload, 1, (0, 0, 0, 0)), (21, .iload_n 3, 1, (0, 0, 0, 0)), (22, .invokestatic 52, 3, (394, 4, 0, 0)), (25, .ireturn, 1, (0, 0, 0, 0)), (26, .iload_n 3, 1, (0, 0, 0, 0)), (27, .aload_n 0, 1, (0, 0, 0, 0)),
  (28, .getfield 46, 3, (2, 1, 248, 0)), (31, .if_icmp .ne 13, 3, (0, 0, 0, 0)), (34, .aload_n 1, 1, (0, 0, 0, 0)), (35, .iconst 0, 1, (0, 0, 0, 0)), (36, .iaload, 1, (0, 0, 0, 0)), (37, .iload_n 3, 1, (0, 0, 0, 0)),
  (38, .invokestatic 52, 3, (394, 4, 0, 0)), (41, .goto 4, 3, (0, 0, 0, 0)), (44, .iconst 0, 1, (0, 0, 0, 0)), (45, .ireturn, 1, (0, 0, 0, 0))]
def mX2_payment : ME := (yX2_payment, cX2_payment, 4, (some .int), 0, 3, 2, tX2_payment)
def tX2_sharePot : List CI := [(0, .iload_n 1, 1, (0, 0, 0, 0)), (1, .iconst 1, 1, (0, 0, 0, 0)), (2, .isub, 1, (0, 0, 0, 0)), (3, .istore_n 2, 1, (0, 0, 0, 0)), (4, .iload_n 2, 1, (0, 0, 0, 0)), (5, .iconst 1, 1, (0, 0, 0, 0)),
  (6, .if_icmp .ge 4, 3, (0, 0, 0, 0)), (9, .return_, 1, (0, 0, 0, 0)), (10, .aload_n 0, 1, (0, 0, 0, 0)), (11, .getfield 31, 3, (2, 3, 252, 0)), (14, .iload_n 2, 1, (0, 0, 0, 0)), (15, .idiv, 1, (0, 0, 0, 0)),
  (16, .istore_n 3, 1, (0, 0, 0, 0)), (17, .iconst 0, 1, (0, 0, 0, 0)), (18, .istore 4, 2, (0, 0, 0, 0)), (20, .iload 4, 2, (0, 0, 0, 0)), (22, .iload_n 1, 1, (0, 0, 0, 0)), (23, .if_icmp .ge 26, 3, (0, 0, 0, 0)),
  (26, .iload 4, 2, (0, 0, 0, 0)), (28, .aload_n 0, 1, (0, 0, 0, 0)), (29, .getfield 39, 3, (2, 0, 245, 0)), (32, .if_icmp .eq 11, 3, (0, 0, 0, 0)), (35, .aload_n 0, 1, (0, 0, 0, 0)), (36, .getfield 15, 3, (2, 5, 256, 0)),
  (39, .iload 4, 2, (0, 0, 0, 0)), (41, .iload_n 3, 1, (0, 0, 0, 0)), (42, .iastore, 1, (0, 0, 0, 0)), (43, .iinc 4 1, 3, (0, 0, 0, 0)), (46, .goto (-26), 3, (0, 0, 0, 0)), (49, .aload_n 0, 1, (0, 0, 0, 0)),
  (50, .dup, 1, (0, 0, 0, 0)), (51, .getfield 31, 3, (2, 3, 252, 0)), (54, .iload_n 3, 1, (0, 0, 0, 0)), (55, .iload_n 2, 1, (0, 0, 0, 0)), (56, .imul, 1, (0, 0, 0, 0)), (57, .isub, 1, (0, 0, 0, 0)),
  (58, .putfield 31, 3, (2, 3, 252, 0)), (61, .return_, 1, (0, 0, 0, 0))]
def mX2_sharePot : ME := (yX2_sharePot, cX2_sharePot, 5, none, 0, 1, 2, tX2_sharePot)
def tX2_coinsBehind : List CI := [(0, .aload_n 1, 1, (0, 0, 0, 0)), (1, .getfield 58, 3, (5, 7, 136, 0)), (4, .iload_n 2, 1, (0, 0, 0, 0)), (5, .iaload, 1, (0, 0, 0, 0)), (6, .aload_n 0, 1, (0, 0, 0, 0)), (7, .getfield 9, 3, (2, 4, 254, 0)),
  (10, .iload_n 2, 1, (0, 0, 0, 0)), (11, .iaload, 1, (0, 0, 0, 0)), (12, .isub, 1, (0, 0, 0, 0)), (13, .aload_n 0, 1, (0, 0, 0, 0)), (14, .getfield 15, 3, (2, 5, 256, 0)), (17, .iload_n 2, 1, (0, 0, 0, 0)),
  (18, .iaload, 1, (0, 0, 0, 0)), (19, .iadd, 1, (0, 0, 0, 0)), (20, .ireturn, 1, (0, 0, 0, 0))]
def mX2_coinsBehind : ME := (yX2_coinsBehind, cX2_coinsBehind, 3, (some .int), 0, 2, 2, tX2_coinsBehind)
def tX3_init : List CI := [(0, .aload_n 0, 1, (0, 0, 0, 0)), (1, .invokespecial 3, 3, (81, 5, 0, 0)), (4, .aload_n 0, 1, (0, 0, 0, 0)), (5, .sipush 484, 3, (0, 0, 0, 0)), (8, .newarray .int, 2, (0, 0, 0, 0)), (10, .putfield 11, 3, (3, 0, 82, 0)),
  (13, .aload_n 0, 1, (0, 0, 0, 0)), (14, .sipush 484, 3, (0, 0, 0, 0)), (17, .newarray .int, 2, (0, 0, 0, 0)), (19, .putfield 15, 3, (3, 1, 83, 0)), (22, .aload_n 0, 1, (0, 0, 0, 0)), (23, .sipush 484, 3, (0, 0, 0, 0)),
  (26, .newarray .int, 2, (0, 0, 0, 0)), (28, .putfield 18, 3, (3, 2, 84, 0)), (31, .aload_n 0, 1, (0, 0, 0, 0)), (32, .sipush 484, 3, (0, 0, 0, 0)), (35, .newarray .int, 2, (0, 0, 0, 0)), (37, .putfield 21, 3, (3, 3, 85, 0)),
  (40, .return_, 1, (0, 0, 0, 0))]
def mX3_init : ME := (yX3_init, cX3_init, 1, none, 2, 0, 3, tX3_init)
def tX3_empty : List CI := [(0, .aload_n 0, 1, (0, 0, 0, 0)), (1, .iconst 0, 1, (0, 0, 0, 0)), (2, .putfield 24, 3, (3, 4, 86, 0)), (5, .return_, 1, (0, 0, 0, 0))]
def mX3_empty : ME := (yX3_empty, cX3_empty, 1, none, 0, 0, 3, tX3_empty)
def tX3_copyFrom : List CI := [(0, .aload_n 0, 1, (0, 0, 0, 0)), (1, .aload_n 1, 1, (0, 0, 0, 0)), (2, .getfield 24, 3, (3, 4, 86, 0)), (5, .putfield 24, 3, (3, 4, 86, 0)), (8, .aload_n 1, 1, (0, 0, 0, 0)), (9, .getfield 11, 3, (3, 0, 82, 0)),
  (12, .iconst 0, 1, (0, 0, 0, 0)), (13, .aload_n 0, 1, (0, 0, 0, 0)), (14, .getfield 11, 3, (3, 0, 82, 0)), (17, .iconst 0, 1, (0, 0, 0, 0)), (18, .aload_n 0, 1, (0, 0, 0, 0)), (19, .getfield 24, 3, (3, 4, 86, 0)),
  (22, .invokestatic 28, 3, (330, 2, 0, 0)), (25, .aload_n 1, 1, (0, 0, 0, 0)), (26, .getfield 15, 3, (3, 1, 83, 0)), (29, .iconst 0, 1, (0, 0, 0, 0)), (30, .aload_n 0, 1, (0, 0, 0, 0)), (31, .getfield 15, 3, (3, 1, 83, 0)),
  (34, .iconst 0, 1, (0, 0, 0, 0)), (35, .aload_n 0, 1, (0, 0, 0, 0)), (36, .getfield 24, 3, (3, 4, 86, 0)), (39, .invokestatic 28, 3, (330, 2, 0, 0)), (42, .aload_n 1, 1, (0, 0, 0, 0)), (43, .getfield 18, 3, (3, 2, 84, 0)),
  (46, .iconst 0, 1, (0, 0, 0, 0)), (47, .aload_n 0, 1, (0, 0, 0, 0)), (48, .getfield 18, 3, (3, 2, 84, 0)), (51, .iconst 0, 1, (0, 0, 0, 0)), (52, .aload_n 0, 1, (0, 0, 0, 0)), (53, .getfield 24, 3, (3, 4, 86, 0)),
  (56, .invokestatic 28, 3, (330, 2, 0, 0)), (59, .aload_n 1, 1, (0, 0, 0, 0)), (60, .getfield 21, 3, (3, 3, 85, 0)), (63, .iconst 0, 1, (0, 0, 0, 0)), (64, .aload_n 0, 1, (0, 0, 0, 0)), (65, .getfield 21, 3, (3, 3, 85, 0)),
  (68, .iconst 0, 1, (0, 0, 0, 0)), (69, .aload_n 0, 1, (0, 0, 0, 0)), (70, .getfield 24, 3, (3, 4, 86, 0)), (73, .invokestatic 28, 3, (330, 2, 0, 0)), (76, .return_, 1, (0, 0, 0, 0))]
def mX3_copyFrom : ME := (yX3_copyFrom, cX3_copyFrom, 2, none, 0, 1, 3, tX3_copyFrom)
def tX3_note : List CI := [(0, .aload_n 0, 1, (0, 0, 0, 0)), (1, .iload_n 1, 1, (0, 0, 0, 0)), (2, .iload_n 2, 1, (0, 0, 0, 0)), (3, .invokevirtual 34, 3, (20, 0, 414, 0)), (6, .istore 4, 2, (0, 0, 0, 0)), (8, .iload 4, 2, (0, 0, 0, 0)),
  (10, .sipush 484, 3, (0, 0, 0, 0)), (13, .if_icmp .lt 4, 3, (0, 0, 0, 0)), (16, .return_, 1, (0, 0, 0, 0)), (17, .iload 4, 2, (0, 0, 0, 0)), (19, .aload_n 0, 1, (0, 0, 0, 0)), (20, .getfield 24, 3, (3, 4, 86, 0)),
  (23, .if_icmp .ne 45, 3, (0, 0, 0, 0)), (26, .aload_n 0, 1, (0, 0, 0, 0)), (27, .getfield 11, 3, (3, 0, 82, 0)), (30, .iload 4, 2, (0, 0, 0, 0)), (32, .iload_n 1, 1, (0, 0, 0, 0)), (33, .iastore, 1, (0, 0, 0, 0)),
  (34, .aload_n 0, 1, (0, 0, 0, 0)), (35, .getfield 15, 3, (3, 1, 83, 0)), (38, .iload 4, 2, (0, 0, 0, 0)), (40, .iload_n 2, 1, (0, 0, 0, 0)), (41, .iastore, 1, (0, 0, 0, 0)), (42, .aload_n 0, 1, (0, 0, 0, 0)),
  (43, .getfield 18, 3, (3, 2, 84, 0)), (46, .iload 4, 2, (0, 0, 0, 0)), (48, .iconst 0, 1, (0, 0, 0, 0)), (49, .iastore, 1, (0, 0, 0, 0)), (50, .aload_n 0, 1, (0, 0, 0, 0)), (51, .getfield 21, 3, (3, 3, 85, 0)),
  (54, .iload 4, 2, (0, 0, 0, 0)), (56, .iconst 0, 1, (0, 0, 0, 0)), (57, .iastore, 1, (0, 0, 0, 0)), (58, .aload_n 0, 1, (0, 0, 0, 0)), (59, .dup, 1, (0, 0, 0, 0)), (60, .getfield 24, 3, (3, 4, 86, 0)),
  (63, .iconst 1, 1, (0, 0, 0, 0)), (64, .iadd, 1, (0, 0, 0, 0)), (65, .putfield 24, 3, (3, 4, 86, 0)), (68, .aload_n 0, 1, (0, 0, 0, 0)), (69, .getfield 18, 3, (3, 2, 84, 0)), (72, .iload 4, 2, (0, 0, 0, 0)),
  (74, .dup2, 1, (0, 0, 0, 0)), (75, .iaload, 1, (0, 0, 0, 0)), (76, .iconst 1, 1, (0, 0, 0, 0)), (77, .iadd, 1, (0, 0, 0, 0)), (78, .iastore, 1, (0, 0, 0, 0)), (79, .iload_n 3, 1, (0, 0, 0, 0)),
  (80, .ifCond .eq 14, 3, (0, 0, 0, 0)), (83, .aload_n 0, 1, (0, 0, 0, 0)), (84, .getfield 21, 3, (3, 3, 85, 0)), (87, .iload 4, 2, (0, 0, 0, 0)), (89, .dup2, 1, (0, 0, 0, 0)), (90, .iaload, 1, (0, 0, 0, 0)),
  (91, .iconst 1, 1, (0, 0, 0, 0)), (92, .iadd, 1, (0, 0, 0, 0)), (93, .iastore, 1, (0, 0, 0, 0)), (94, .return_, 1, (0, 0, 0, 0))]
def mX3_note : ME := (yX3_note, cX3_note, 5, none, 0, 3, 3, tX3_note)
def tX3_indexOf : List CI := [(0, .iconst 0, 1, (0, 0, 0, 0)), (1, .istore_n 3, 1, (0, 0, 0, 0)), (2, .iload_n 3, 1, (0, 0, 0, 0)), (3, .aload_n 0, 1, (0, 0, 0, 0)), (4, .getfield 24, 3, (3, 4, 86, 0)), (7, .if_icmp .ge 31, 3, (0, 0, 0, 0)),
  (10, .aload_n 0, 1, (0, 0, 0, 0)), (11, .getfield 11, 3, (3, 0, 82, 0)), (14, .iload_n 3, 1, (0, 0, 0, 0)), (15, .iaload, 1, (0, 0, 0, 0)), (16, .iload_n 1, 1, (0, 0, 0, 0)), (17, .if_icmp .ne 15, 3, (0, 0, 0, 0)),
  (20, .aload_n 0, 1, (0, 0, 0, 0)), (21, .getfield 15, 3, (3, 1, 83, 0)), (24, .iload_n 3, 1, (0, 0, 0, 0)), (25, .iaload, 1, (0, 0, 0, 0)), (26, .iload_n 2, 1, (0, 0, 0, 0)), (27, .if_icmp .ne 5, 3, (0, 0, 0, 0)),
  (30, .iload_n 3, 1, (0, 0, 0, 0)), (31, .ireturn, 1, (0, 0, 0, 0)), (32, .iinc 3 1, 3, (0, 0, 0, 0)), (35, .goto (-33), 3, (0, 0, 0, 0)), (38, .aload_n 0, 1, (0, 0, 0, 0)), (39, .getfield 24, 3, (3, 4, 86, 0)),
  (42, .ireturn, 1, (0, 0, 0, 0))]
def mX3_indexOf : ME := (yX3_indexOf, cX3_indexOf, 4, (some .int), 0, 2, 3, tX3_indexOf)
def tX3_numberOfPair : List CI := [(0, .iload_n 1, 1, (0, 0, 0, 0)), (1, .ifCond .lt 12, 3, (0, 0, 0, 0)), (4, .iload_n 2, 1, (0, 0, 0, 0)), (5, .ifCond .lt 8, 3, (0, 0, 0, 0)), (8, .iload_n 2, 1, (0, 0, 0, 0)), (9, .iconst 3, 1, (0, 0, 0, 0)),
  (10, .if_icmp .le 6, 3, (0, 0, 0, 0)), (13, .ldc 38, 2, (474, 0, 0, -1000001)), (15, .ireturn, 1, (0, 0, 0, 0)), (16, .iload_n 1, 1, (0, 0, 0, 0)), (17, .aload_n 0, 1, (0, 0, 0, 0)), (18, .getfield 24, 3, (3, 4, 86, 0)),
  (21, .if_icmp .lt 6, 3, (0, 0, 0, 0)), (24, .ldc 39, 2, (475, 0, 0, -1000004)), (26, .ireturn, 1, (0, 0, 0, 0)), (27, .iload_n 2, 1, (0, 0, 0, 0)), (28, .tableswitch 49 0 2 #[28, 35, 42], 28, (0, 0, 0, 0)), (56, .aload_n 0, 1, (0, 0, 0, 0)),
  (57, .getfield 11, 3, (3, 0, 82, 0)), (60, .iload_n 1, 1, (0, 0, 0, 0)), (61, .iaload, 1, (0, 0, 0, 0)), (62, .ireturn, 1, (0, 0, 0, 0)), (63, .aload_n 0, 1, (0, 0, 0, 0)), (64, .getfield 15, 3, (3, 1, 83, 0)),
  (67, .iload_n 1, 1, (0, 0, 0, 0)), (68, .iaload, 1, (0, 0, 0, 0)), (69, .ireturn, 1, (0, 0, 0, 0)), (70, .aload_n 0, 1, (0, 0, 0, 0)), (71, .getfield 18, 3, (3, 2, 84, 0)), (74, .iload_n 1, 1, (0, 0, 0, 0)),
  (75, .iaload, 1, (0, 0, 0, 0)), (76, .ireturn, 1, (0, 0, 0, 0)), (77, .aload_n 0, 1, (0, 0, 0, 0)), (78, .getfield 21, 3, (3, 3, 85, 0)), (81, .iload_n 1, 1, (0, 0, 0, 0)), (82, .iaload, 1, (0, 0, 0, 0)),
  (83, .ireturn, 1, (0, 0, 0, 0))]
def mX3_numberOfPair : ME := (yX3_numberOfPair, cX3_numberOfPair, 3, (some .int), 0, 2, 3, tX3_numberOfPair)
def tX4_init : List CI := [(0, .aload_n 0, 1, (0, 0, 0, 0)), (1, .invokespecial 5, 3, (64, 5, 0, 0)), (4, .aload_n 0, 1, (0, 0, 0, 0)), (5, .bipush 96, 2, (0, 0, 0, 0)), (7, .newarray .int, 2, (0, 0, 0, 0)), (9, .putfield 11, 3, (4, 0, 65, 0)),
  (12, .return_, 1, (0, 0, 0, 0))]
def mX4_init : ME := (yX4_init, cX4_init, 1, none, 2, 0, 4, tX4_init)
def tX4_empty : List CI := [(0, .aload_n 0, 1, (0, 0, 0, 0)), (1, .iconst 0, 1, (0, 0, 0, 0)), (2, .putfield 15, 3, (4, 1, 66, 0)), (5, .aload_n 0, 1, (0, 0, 0, 0)), (6, .iconst 0, 1, (0, 0, 0, 0)), (7, .putfield 19, 3, (4, 2, 67, 0)),
  (10, .return_, 1, (0, 0, 0, 0))]
def mX4_empty : ME := (yX4_empty, cX4_empty, 1, none, 0, 0, 4, tX4_empty)
def tX4_copyFrom : List CI := [(0, .aload_n 0, 1, (0, 0, 0, 0)), (1, .aload_n 1, 1, (0, 0, 0, 0)), (2, .getfield 15, 3, (4, 1, 66, 0)), (5, .putfield 15, 3, (4, 1, 66, 0)), (8, .aload_n 0, 1, (0, 0, 0, 0)), (9, .aload_n 1, 1, (0, 0, 0, 0)),
  (10, .getfield 19, 3, (4, 2, 67, 0)), (13, .putfield 19, 3, (4, 2, 67, 0)), (16, .aload_n 1, 1, (0, 0, 0, 0)), (17, .getfield 11, 3, (4, 0, 65, 0)), (20, .iconst 0, 1, (0, 0, 0, 0)), (21, .aload_n 0, 1, (0, 0, 0, 0)),
  (22, .getfield 11, 3, (4, 0, 65, 0)), (25, .iconst 0, 1, (0, 0, 0, 0)), (26, .bipush 96, 2, (0, 0, 0, 0)), (28, .invokestatic 22, 3, (325, 2, 0, 0)), (31, .return_, 1, (0, 0, 0, 0))]
def mX4_copyFrom : ME := (yX4_copyFrom, cX4_copyFrom, 2, none, 0, 1, 4, tX4_copyFrom)
def tX4_add : List CI := [(0, .aload_n 0, 1, (0, 0, 0, 0)), (1, .aload_n 0, 1, (0, 0, 0, 0)), (2, .getfield 19, 3, (4, 2, 67, 0)), (5, .iconst 1, 1, (0, 0, 0, 0)), (6, .iadd, 1, (0, 0, 0, 0)), (7, .bipush 12, 2, (0, 0, 0, 0)),
  (9, .irem, 1, (0, 0, 0, 0)), (10, .putfield 19, 3, (4, 2, 67, 0)), (13, .aload_n 0, 1, (0, 0, 0, 0)), (14, .aload_n 0, 1, (0, 0, 0, 0)), (15, .getfield 15, 3, (4, 1, 66, 0)), (18, .iconst 1, 1, (0, 0, 0, 0)),
  (19, .iadd, 1, (0, 0, 0, 0)), (20, .bipush 12, 2, (0, 0, 0, 0)), (22, .invokestatic 28, 3, (409, 4, 0, 0)), (25, .putfield 15, 3, (4, 1, 66, 0)), (28, .aload_n 0, 1, (0, 0, 0, 0)), (29, .getfield 19, 3, (4, 2, 67, 0)),
  (32, .bipush 8, 2, (0, 0, 0, 0)), (34, .imul, 1, (0, 0, 0, 0)), (35, .istore 4, 2, (0, 0, 0, 0)), (37, .aload_n 0, 1, (0, 0, 0, 0)), (38, .getfield 11, 3, (4, 0, 65, 0)), (41, .iload 4, 2, (0, 0, 0, 0)),
  (43, .iconst 0, 1, (0, 0, 0, 0)), (44, .iadd, 1, (0, 0, 0, 0)), (45, .aload_n 1, 1, (0, 0, 0, 0)), (46, .getfield 34, 3, (2, 0, 246, 0)), (49, .iastore, 1, (0, 0, 0, 0)), (50, .aload_n 0, 1, (0, 0, 0, 0)),
  (51, .getfield 11, 3, (4, 0, 65, 0)), (54, .iload 4, 2, (0, 0, 0, 0)), (56, .iconst 1, 1, (0, 0, 0, 0)), (57, .iadd, 1, (0, 0, 0, 0)), (58, .aload_n 1, 1, (0, 0, 0, 0)), (59, .getfield 39, 3, (2, 1, 249, 0)),
  (62, .iastore, 1, (0, 0, 0, 0)), (63, .aload_n 0, 1, (0, 0, 0, 0)), (64, .getfield 11, 3, (4, 0, 65, 0)), (67, .iload 4, 2, (0, 0, 0, 0)), (69, .iconst 2, 1, (0, 0, 0, 0)), (70, .iadd, 1, (0, 0, 0, 0)),
  (71, .iload_n 2, 1, (0, 0, 0, 0)), (72, .iastore, 1, (0, 0, 0, 0)), (73, .aload_n 0, 1, (0, 0, 0, 0)), (74, .getfield 11, 3, (4, 0, 65, 0)), (77, .iload 4, 2, (0, 0, 0, 0)), (79, .iconst 3, 1, (0, 0, 0, 0)),
  (80, .iadd, 1, (0, 0, 0, 0)), (81, .aload_n 1, 1, (0, 0, 0, 0)), (82, .getfield 42, 3, (2, 2, 251, 0)), (85, .iastore, 1, (0, 0, 0, 0)), (86, .aload_n 3, 1, (0, 0, 0, 0)), (87, .iconst 0, 1, (0, 0, 0, 0)),
  (88, .aload_n 0, 1, (0, 0, 0, 0)), (89, .getfield 11, 3, (4, 0, 65, 0)), (92, .iload 4, 2, (0, 0, 0, 0)), (94, .iconst 4, 1, (0, 0, 0, 0)), (95, .iadd, 1, (0, 0, 0, 0)), (96, .iconst 4, 1, (0, 0, 0, 0)),
  (97, .invokestatic 22, 3, (325, 2, 0, 0)), (100, .return_, 1, (0, 0, 0, 0))]
def mX4_add : ME := (yX4_add, cX4_add, 5, none, 0, 3, 4, tX4_add)
def tX4_numberOfRound : List CI := [(0, .iload_n 2, 1, (0, 0, 0, 0)), (1, .iload_n 3, 1, (0, 0, 0, 0)), (2, .invokestatic 45, 3, (27, 0, 461, 0)), (5, .istore 4, 2, (0, 0, 0, 0)), (7, .iload_n 1, 1, (0, 0, 0, 0)), (8, .ifCond .lt 8, 3, (0, 0, 0, 0)),
  (11, .iload 4, 2, (0, 0, 0, 0)), (13, .ifCond .ge 6, 3, (0, 0, 0, 0)), (16, .ldc 48, 2, (464, 0, 0, -1000001)), (18, .ireturn, 1, (0, 0, 0, 0)), (19, .iload_n 1, 1, (0, 0, 0, 0)), (20, .aload_n 0, 1, (0, 0, 0, 0)),
  (21, .getfield 15, 3, (4, 1, 66, 0)), (24, .if_icmp .lt 6, 3, (0, 0, 0, 0)), (27, .ldc 49, 2, (465, 0, 0, -1000004)), (29, .ireturn, 1, (0, 0, 0, 0)), (30, .aload_n 0, 1, (0, 0, 0, 0)), (31, .getfield 19, 3, (4, 2, 67, 0)),
  (34, .bipush 12, 2, (0, 0, 0, 0)), (36, .iadd, 1, (0, 0, 0, 0)), (37, .iload_n 1, 1, (0, 0, 0, 0)), (38, .isub, 1, (0, 0, 0, 0)), (39, .bipush 12, 2, (0, 0, 0, 0)), (41, .irem, 1, (0, 0, 0, 0)),
  (42, .istore 5, 2, (0, 0, 0, 0)), (44, .aload_n 0, 1, (0, 0, 0, 0)), (45, .getfield 11, 3, (4, 0, 65, 0)), (48, .iload 5, 2, (0, 0, 0, 0)), (50, .bipush 8, 2, (0, 0, 0, 0)), (52, .imul, 1, (0, 0, 0, 0)),
  (53, .iload 4, 2, (0, 0, 0, 0)), (55, .iadd, 1, (0, 0, 0, 0)), (56, .iaload, 1, (0, 0, 0, 0)), (57, .ireturn, 1, (0, 0, 0, 0))]
def mX4_numberOfRound : ME := (yX4_numberOfRound, cX4_numberOfRound, 6, (some .int), 0, 3, 4, tX4_numberOfRound)
def tX4_columnOf : List CI := [(0, .iload_n 0, 1, (0, 0, 0, 0)), (1, .ifCond .lt 10, 3, (0, 0, 0, 0)), (4, .iload_n 0, 1, (0, 0, 0, 0)), (5, .iconst 3, 1, (0, 0, 0, 0)), (6, .if_icmp .gt 5, 3, (0, 0, 0, 0)), (9, .iload_n 0, 1, (0, 0, 0, 0)),
  (10, .ireturn, 1, (0, 0, 0, 0)), (11, .iload_n 0, 1, (0, 0, 0, 0)), (12, .bipush 10, 2, (0, 0, 0, 0)), (14, .if_icmp .lt 18, 3, (0, 0, 0, 0)), (17, .iload_n 0, 1, (0, 0, 0, 0)), (18, .bipush 10, 2, (0, 0, 0, 0)),
  (20, .iload_n 1, 1, (0, 0, 0, 0)), (21, .iadd, 1, (0, 0, 0, 0)), (22, .if_icmp .ge 10, 3, (0, 0, 0, 0)), (25, .iconst 4, 1, (0, 0, 0, 0)), (26, .iload_n 0, 1, (0, 0, 0, 0)), (27, .iadd, 1, (0, 0, 0, 0)),
  (28, .bipush 10, 2, (0, 0, 0, 0)), (30, .isub, 1, (0, 0, 0, 0)), (31, .ireturn, 1, (0, 0, 0, 0)), (32, .iconst (-1), 1, (0, 0, 0, 0)), (33, .ireturn, 1, (0, 0, 0, 0))]
def mX4_columnOf : ME := (yX4_columnOf, cX4_columnOf, 2, (some .int), 1, 2, 4, tX4_columnOf)
def tX5_init : List CI := [(0, .aload_n 0, 1, (0, 0, 0, 0)), (1, .invokespecial 3, 3, (58, 5, 0, 0)), (4, .aload_n 0, 1, (0, 0, 0, 0)), (5, .iconst 4, 1, (0, 0, 0, 0)), (6, .newarray .int, 2, (0, 0, 0, 0)), (8, .putfield 9, 3, (5, 7, 134, 0)),
  (11, .aload_n 0, 1, (0, 0, 0, 0)), (12, .iconst 4, 1, (0, 0, 0, 0)), (13, .newarray .int, 2, (0, 0, 0, 0)), (15, .putfield 15, 3, (5, 8, 138, 0)), (18, .aload_n 0, 1, (0, 0, 0, 0)), (19, .iconst 4, 1, (0, 0, 0, 0)),
  (20, .newarray .int, 2, (0, 0, 0, 0)), (22, .putfield 18, 3, (5, 9, 140, 0)), (25, .aload_n 0, 1, (0, 0, 0, 0)), (26, .iconst 4, 1, (0, 0, 0, 0)), (27, .newarray .int, 2, (0, 0, 0, 0)), (29, .putfield 21, 3, (5, 10, 142, 0)),
  (32, .aload_n 0, 1, (0, 0, 0, 0)), (33, .iconst 4, 1, (0, 0, 0, 0)), (34, .newarray .int, 2, (0, 0, 0, 0)), (36, .putfield 24, 3, (5, 11, 143, 0)), (39, .aload_n 0, 1, (0, 0, 0, 0)), (40, .iconst 4, 1, (0, 0, 0, 0)),
  (41, .newarray .int, 2, (0, 0, 0, 0)), (43, .putfield 27, 3, (5, 12, 144, 0)), (46, .aload_n 0, 1, (0, 0, 0, 0)), (47, .iconst 3, 1, (0, 0, 0, 0)), (48, .newarray .int, 2, (0, 0, 0, 0)), (50, .putfield 30, 3, (5, 13, 145, 0)),
  (53, .aload_n 0, 1, (0, 0, 0, 0)), (54, .bipush 20, 2, (0, 0, 0, 0)), (56, .newarray .int, 2, (0, 0, 0, 0)), (58, .putfield 33, 3, (5, 14, 147, 0)), (61, .aload_n 0, 1, (0, 0, 0, 0)), (62, .new 36, 3, (4, 3, 59, 0)),
  (65, .dup, 1, (0, 0, 0, 0)), (66, .invokespecial 38, 3, (22, 1, 0, 0)), (69, .putfield 39, 3, (5, 15, 149, 0)), (72, .aload_n 0, 1, (0, 0, 0, 0)), (73, .new 43, 3, (3, 5, 76, 0)), (76, .dup, 1, (0, 0, 0, 0)),
  (77, .invokespecial 45, 3, (16, 1, 1, 0)), (80, .putfield 46, 3, (5, 16, 151, 0)), (83, .getstatic 50, 3, (1, 5, 0, 0)), (86, .iconst 0, 1, (0, 0, 0, 0)), (87, .aload_n 0, 1, (0, 0, 0, 0)), (88, .getfield 30, 3, (5, 13, 145, 0)),
  (91, .iconst 0, 1, (0, 0, 0, 0)), (92, .iconst 3, 1, (0, 0, 0, 0)), (93, .invokestatic 53, 3, (101, 2, 0, 0)), (96, .aload_n 0, 1, (0, 0, 0, 0)), (97, .iconst 2, 1, (0, 0, 0, 0)), (98, .bipush 20, 2, (0, 0, 0, 0)),
  (100, .invokevirtual 59, 3, (30, 0, 104, 0)), (103, .pop, 1, (0, 0, 0, 0)), (104, .return_, 1, (0, 0, 0, 0))]
def mX5_init : ME := (yX5_init, cX5_init, 1, none, 2, 0, 5, tX5_init)
def tX5_copyFrom : List CI := [(0, .aload_n 0, 1, (0, 0, 0, 0)), (1, .aload_n 1, 1, (0, 0, 0, 0)), (2, .getfield 63, 3, (5, 0, 121, 0)), (5, .putfield 63, 3, (5, 0, 121, 0)), (8, .aload_n 0, 1, (0, 0, 0, 0)), (9, .aload_n 1, 1, (0, 0, 0, 0)),
  (10, .getfield 67, 3, (5, 1, 124, 0)), (13, .putfield 67, 3, (5, 1, 124, 0)), (16, .aload_n 0, 1, (0, 0, 0, 0)), (17, .aload_n 1, 1, (0, 0, 0, 0)), (18, .getfield 70, 3, (5, 2, 126, 0)), (21, .putfield 70, 3, (5, 2, 126, 0)),
  (24, .aload_n 0, 1, (0, 0, 0, 0)), (25, .aload_n 1, 1, (0, 0, 0, 0)), (26, .getfield 73, 3, (5, 3, 128, 0)), (29, .putfield 73, 3, (5, 3, 128, 0)), (32, .aload_n 0, 1, (0, 0, 0, 0)), (33, .aload_n 1, 1, (0, 0, 0, 0)),
  (34, .getfield 76, 3, (5, 4, 129, 0)), (37, .putfield 76, 3, (5, 4, 129, 0)), (40, .aload_n 0, 1, (0, 0, 0, 0)), (41, .aload_n 1, 1, (0, 0, 0, 0)), (42, .getfield 79, 3, (5, 5, 131, 0)), (45, .putfield 79, 3, (5, 5, 131, 0)),
  (48, .aload_n 0, 1, (0, 0, 0, 0)), (49, .aload_n 1, 1, (0, 0, 0, 0)), (50, .getfield 82, 3, (5, 6, 132, 0)), (53, .putfield 82, 3, (5, 6, 132, 0)), (56, .aload_n 1, 1, (0, 0, 0, 0)), (57, .getfield 9, 3, (5, 7, 134, 0)),
  (60, .iconst 0, 1, (0, 0, 0, 0)), (61, .aload_n 0, 1, (0, 0, 0, 0)), (62, .getfield 9, 3, (5, 7, 134, 0)), (65, .iconst 0, 1, (0, 0, 0, 0)), (66, .iconst 4, 1, (0, 0, 0, 0)), (67, .invokestatic 53, 3, (101, 2, 0, 0)),
  (70, .aload_n 1, 1, (0, 0, 0, 0)), (71, .getfield 15, 3, (5, 8, 138, 0)), (74, .iconst 0, 1, (0, 0, 0, 0)), (75, .aload_n 0, 1, (0, 0, 0, 0)), (76, .getfield 15, 3, (5, 8, 138, 0)), (79, .iconst 0, 1, (0, 0, 0, 0)),
  (80, .iconst 4, 1, (0, 0, 0, 0)), (81, .invokestatic 53, 3, (101, 2, 0, 0)), (84, .aload_n 1, 1, (0, 0, 0, 0)), (85, .getfield 18, 3, (5, 9, 140, 0)), (88, .iconst 0, 1, (0, 0, 0, 0)), (89, .aload_n 0, 1, (0, 0, 0, 0)),
  (90, .getfield 18, 3, (5, 9, 140, 0)), (93, .iconst 0, 1, (0, 0, 0, 0)), (94, .iconst 4, 1, (0, 0, 0, 0)), (95, .invokestatic 53, 3, (101, 2, 0, 0)), (98, .aload_n 1, 1, (0, 0, 0, 0)), (99, .getfield 21, 3, (5, 10, 142, 0)),
  (102, .iconst 0, 1, (0, 0, 0, 0)), (103, .aload_n 0, 1, (0, 0, 0, 0)), (104, .getfield 21, 3, (5, 10, 142, 0)), (107, .iconst 0, 1, (0, 0, 0, 0)), (108, .iconst 4, 1, (0, 0, 0, 0)), (109, .invokestatic 53, 3, (101, 2, 0, 0)),
  (112, .aload_n 1, 1, (0, 0, 0, 0)), (113, .getfield 24, 3, (5, 11, 143, 0)), (116, .iconst 0, 1, (0, 0, 0, 0)), (117, .aload_n 0, 1, (0, 0, 0, 0)), (118, .getfield 24, 3, (5, 11, 143, 0)), (121, .iconst 0, 1, (0, 0, 0, 0)),
  (122, .iconst 4, 1, (0, 0, 0, 0)), (123, .invokestatic 53, 3, (101, 2, 0, 0)), (126, .aload_n 1, 1, (0, 0, 0, 0)), (127, .getfield 27, 3, (5, 12, 144, 0)), (130, .iconst 0, 1, (0, 0, 0, 0)), (131, .aload_n 0, 1, (0, 0, 0, 0)),
  (132, .getfield 27, 3, (5, 12, 144, 0)), (135, .iconst 0, 1, (0, 0, 0, 0)), (136, .iconst 4, 1, (0, 0, 0, 0)), (137, .invokestatic 53, 3, (101, 2, 0, 0)), (140, .aload_n 1, 1, (0, 0, 0, 0)), (141, .getfield 30, 3, (5, 13, 145, 0)),
  (144, .iconst 0, 1, (0, 0, 0, 0)), (145, .aload_n 0, 1, (0, 0, 0, 0)), (146, .getfield 30, 3, (5, 13, 145, 0)), (149, .iconst 0, 1, (0, 0, 0, 0)), (150, .iconst 3, 1, (0, 0, 0, 0)), (151, .invokestatic 53, 3, (101, 2, 0, 0)),
  (154, .aload_n 1, 1, (0, 0, 0, 0)), (155, .getfield 33, 3, (5, 14, 147, 0)), (158, .iconst 0, 1, (0, 0, 0, 0)), (159, .aload_n 0, 1, (0, 0, 0, 0)), (160, .getfield 33, 3, (5, 14, 147, 0)), (163, .iconst 0, 1, (0, 0, 0, 0)),
  (164, .bipush 20, 2, (0, 0, 0, 0)), (166, .invokestatic 53, 3, (101, 2, 0, 0)), (169, .aload_n 0, 1, (0, 0, 0, 0)), (170, .getfield 39, 3, (5, 15, 149, 0)), (173, .aload_n 1, 1, (0, 0, 0, 0)), (174, .getfield 39, 3, (5, 15, 149, 0)),
  (177, .invokevirtual 85, 3, (24, 0, 321, 0)), (180, .aload_n 0, 1, (0, 0, 0, 0)), (181, .getfield 46, 3, (5, 16, 151, 0)), (184, .aload_n 1, 1, (0, 0, 0, 0)), (185, .getfield 46, 3, (5, 16, 151, 0)), (188, .invokevirtual 89, 3, (18, 0, 326, 0)),
  (191, .return_, 1, (0, 0, 0, 0))]
def mX5_copyFrom : ME := (yX5_copyFrom, cX5_copyFrom, 2, none, 0, 1, 5, tX5_copyFrom)
def tX5_startGame : List CI := [(0, .iload_n 1, 1, (0, 0, 0, 0)), (1, .iconst 2, 1, (0, 0, 0, 0)), (2, .if_icmp .lt 8, 3, (0, 0, 0, 0)), (5, .iload_n 1, 1, (0, 0, 0, 0)), (6, .iconst 4, 1, (0, 0, 0, 0)), (7, .if_icmp .le 6, 3, (0, 0, 0, 0)),
  (10, .ldc 92, 2, (108, 0, 0, -1000001)), (12, .ireturn, 1, (0, 0, 0, 0)), (13, .iload_n 2, 1, (0, 0, 0, 0)), (14, .ifCond .lt 9, 3, (0, 0, 0, 0)), (17, .iload_n 2, 1, (0, 0, 0, 0)), (18, .bipush 30, 2, (0, 0, 0, 0)),
  (20, .if_icmp .le 6, 3, (0, 0, 0, 0)), (23, .ldc 92, 2, (108, 0, 0, -1000001)), (25, .ireturn, 1, (0, 0, 0, 0)), (26, .aload_n 0, 1, (0, 0, 0, 0)), (27, .iload_n 1, 1, (0, 0, 0, 0)), (28, .putfield 63, 3, (5, 0, 121, 0)),
  (31, .aload_n 0, 1, (0, 0, 0, 0)), (32, .iconst 0, 1, (0, 0, 0, 0)), (33, .putfield 67, 3, (5, 1, 124, 0)), (36, .aload_n 0, 1, (0, 0, 0, 0)), (37, .iconst 0, 1, (0, 0, 0, 0)), (38, .putfield 70, 3, (5, 2, 126, 0)),
  (41, .aload_n 0, 1, (0, 0, 0, 0)), (42, .iconst 0, 1, (0, 0, 0, 0)), (43, .putfield 73, 3, (5, 3, 128, 0)), (46, .aload_n 0, 1, (0, 0, 0, 0)), (47, .iconst 0, 1, (0, 0, 0, 0)), (48, .putfield 76, 3, (5, 4, 129, 0)),
  (51, .aload_n 0, 1, (0, 0, 0, 0)), (52, .iconst 0, 1, (0, 0, 0, 0)), (53, .putfield 79, 3, (5, 5, 131, 0)), (56, .aload_n 0, 1, (0, 0, 0, 0)), (57, .iconst 0, 1, (0, 0, 0, 0)), (58, .putfield 82, 3, (5, 6, 132, 0)),
  (61, .iconst 0, 1, (0, 0, 0, 0)), (62, .istore_n 3, 1, (0, 0, 0, 0)), (63, .iload_n 3, 1, (0, 0, 0, 0)), (64, .iconst 4, 1, (0, 0, 0, 0)), (65, .if_icmp .ge 63, 3, (0, 0, 0, 0)), (68, .aload_n 0, 1, (0, 0, 0, 0)),
  (69, .getfield 9, 3, (5, 7, 134, 0)), (72, .iload_n 3, 1, (0, 0, 0, 0)), (73, .iload_n 3, 1, (0, 0, 0, 0)), (74, .aload_n 0, 1, (0, 0, 0, 0)), (75, .getfield 63, 3, (5, 0, 121, 0)), (78, .if_icmp .ge 7, 3, (0, 0, 0, 0)),
  (81, .iload_n 2, 1, (0, 0, 0, 0)), (82, .goto 4, 3, (0, 0, 0, 0)), (85, .iconst 0, 1, (0, 0, 0, 0)), (86, .iastore, 1, (0, 0, 0, 0)), (87, .aload_n 0, 1, (0, 0, 0, 0)), (88, .getfield 15, 3, (5, 8, 138, 0)),
  (91, .iload_n 3, 1, (0, 0, 0, 0)), (92, .iconst 0, 1, (0, 0, 0, 0)), (93, .iastore, 1, (0, 0, 0, 0)), (94, .aload_n 0, 1, (0, 0, 0, 0)), (95, .getfield 18, 3, (5, 9, 140, 0)), (98, .iload_n 3, 1, (0, 0, 0, 0)),
  (99, .iconst (-1), 1, (0, 0, 0, 0)), (100, .iastore, 1, (0, 0, 0, 0)), (101, .aload_n 0, 1, (0, 0, 0, 0)), (102, .getfield 21, 3, (5, 10, 142, 0)), (105, .iload_n 3, 1, (0, 0, 0, 0)), (106, .iconst 0, 1, (0, 0, 0, 0)),
  (107, .iastore, 1, (0, 0, 0, 0)), (108, .aload_n 0, 1, (0, 0, 0, 0)), (109, .getfield 24, 3, (5, 11, 143, 0)), (112, .iload_n 3, 1, (0, 0, 0, 0)), (113, .iconst 0, 1, (0, 0, 0, 0)), (114, .iastore, 1, (0, 0, 0, 0)),
  (115, .aload_n 0, 1, (0, 0, 0, 0)), (116, .getfield 27, 3, (5, 12, 144, 0)), (119, .iload_n 3, 1, (0, 0, 0, 0)), (120, .iconst 0, 1, (0, 0, 0, 0)), (121, .iastore, 1, (0, 0, 0, 0)), (122, .iinc 3 1, 3, (0, 0, 0, 0)),
  (125, .goto (-62), 3, (0, 0, 0, 0)), (128, .aload_n 0, 1, (0, 0, 0, 0)), (129, .getfield 39, 3, (5, 15, 149, 0)), (132, .invokevirtual 93, 3, (23, 0, 109, 0)), (135, .aload_n 0, 1, (0, 0, 0, 0)), (136, .getfield 46, 3, (5, 16, 151, 0)),
  (139, .invokevirtual 96, 3, (17, 0, 113, 0)), (142, .aload_n 0, 1, (0, 0, 0, 0)), (143, .invokevirtual 97, 3, (42, 0, 117, 0)), (146, .ireturn, 1, (0, 0, 0, 0))]
def mX5_startGame : ME := (yX5_startGame, cX5_startGame, 4, (some .int), 0, 2, 5, tX5_startGame)
def tX5_addLot : List CI := [(0, .iload_n 1, 1, (0, 0, 0, 0)), (1, .bipush (-9), 2, (0, 0, 0, 0)), (3, .if_icmp .lt 9, 3, (0, 0, 0, 0)), (6, .iload_n 1, 1, (0, 0, 0, 0)), (7, .bipush 20, 2, (0, 0, 0, 0)), (9, .if_icmp .le 6, 3, (0, 0, 0, 0)),
  (12, .ldc 92, 2, (108, 0, 0, -1000001)), (14, .ireturn, 1, (0, 0, 0, 0)), (15, .aload_n 0, 1, (0, 0, 0, 0)), (16, .getfield 76, 3, (5, 4, 129, 0)), (19, .aload_n 0, 1, (0, 0, 0, 0)), (20, .getfield 82, 3, (5, 6, 132, 0)),
  (23, .iadd, 1, (0, 0, 0, 0)), (24, .bipush 20, 2, (0, 0, 0, 0)), (26, .if_icmp .lt 6, 3, (0, 0, 0, 0)), (29, .ldc 101, 2, (352, 0, 0, -1000003)), (31, .ireturn, 1, (0, 0, 0, 0)), (32, .aload_n 0, 1, (0, 0, 0, 0)),
  (33, .getfield 33, 3, (5, 14, 147, 0)), (36, .aload_n 0, 1, (0, 0, 0, 0)), (37, .getfield 76, 3, (5, 4, 129, 0)), (40, .aload_n 0, 1, (0, 0, 0, 0)), (41, .getfield 82, 3, (5, 6, 132, 0)), (44, .iadd, 1, (0, 0, 0, 0)),
  (45, .iload_n 1, 1, (0, 0, 0, 0)), (46, .iastore, 1, (0, 0, 0, 0)), (47, .aload_n 0, 1, (0, 0, 0, 0)), (48, .dup, 1, (0, 0, 0, 0)), (49, .getfield 82, 3, (5, 6, 132, 0)), (52, .iconst 1, 1, (0, 0, 0, 0)),
  (53, .iadd, 1, (0, 0, 0, 0)), (54, .putfield 82, 3, (5, 6, 132, 0)), (57, .aload_n 0, 1, (0, 0, 0, 0)), (58, .getfield 82, 3, (5, 6, 132, 0)), (61, .ireturn, 1, (0, 0, 0, 0))]
def mX5_addLot : ME := (yX5_addLot, cX5_addLot, 2, (some .int), 0, 1, 5, tX5_addLot)
def tX5_makeBid : List CI := [(0, .aload_n 0, 1, (0, 0, 0, 0)), (1, .iload_n 1, 1, (0, 0, 0, 0)), (2, .invokevirtual 102, 3, (36, 0, 361, 0)), (5, .ifCond .eq 7, 3, (0, 0, 0, 0)), (8, .iload_n 2, 1, (0, 0, 0, 0)), (9, .ifCond .ge 6, 3, (0, 0, 0, 0)),
  (12, .ldc 92, 2, (108, 0, 0, -1000001)), (14, .ireturn, 1, (0, 0, 0, 0)), (15, .aload_n 0, 1, (0, 0, 0, 0)), (16, .invokevirtual 106, 3, (37, 0, 365, 0)), (19, .ifCond .ne 13, 3, (0, 0, 0, 0)), (22, .iload_n 2, 1, (0, 0, 0, 0)),
  (23, .aload_n 0, 1, (0, 0, 0, 0)), (24, .getfield 9, 3, (5, 7, 134, 0)), (27, .iload_n 1, 1, (0, 0, 0, 0)), (28, .iaload, 1, (0, 0, 0, 0)), (29, .if_icmp .le 6, 3, (0, 0, 0, 0)), (32, .ldc 110, 2, (369, 0, 0, -1000002)),
  (34, .ireturn, 1, (0, 0, 0, 0)), (35, .aload_n 0, 1, (0, 0, 0, 0)), (36, .getfield 18, 3, (5, 9, 140, 0)), (39, .iload_n 1, 1, (0, 0, 0, 0)), (40, .iload_n 2, 1, (0, 0, 0, 0)), (41, .iastore, 1, (0, 0, 0, 0)),
  (42, .aload_n 0, 1, (0, 0, 0, 0)), (43, .invokevirtual 111, 3, (39, 0, 370, 0)), (46, .ireturn, 1, (0, 0, 0, 0))]
def mX5_makeBid : ME := (yX5_makeBid, cX5_makeBid, 3, (some .int), 0, 2, 5, tX5_makeBid)
def tX5_changeSetting : List CI := [(0, .iload_n 1, 1, (0, 0, 0, 0)), (1, .ifCond .lt 8, 3, (0, 0, 0, 0)), (4, .iload_n 1, 1, (0, 0, 0, 0)), (5, .iconst 3, 1, (0, 0, 0, 0)), (6, .if_icmp .lt 6, 3, (0, 0, 0, 0)), (9, .ldc 92, 2, (108, 0, 0, -1000001)),
  (11, .ireturn, 1, (0, 0, 0, 0)), (12, .iload_n 2, 1, (0, 0, 0, 0)), (13, .ifCond .lt 12, 3, (0, 0, 0, 0)), (16, .iload_n 2, 1, (0, 0, 0, 0)), (17, .getstatic 114, 3, (2, 6, 0, 0)), (20, .iload_n 1, 1, (0, 0, 0, 0)),
  (21, .iaload, 1, (0, 0, 0, 0)), (22, .if_icmp .le 6, 3, (0, 0, 0, 0)), (25, .ldc 92, 2, (108, 0, 0, -1000001)), (27, .ireturn, 1, (0, 0, 0, 0)), (28, .aload_n 0, 1, (0, 0, 0, 0)), (29, .getfield 30, 3, (5, 13, 145, 0)),
  (32, .iload_n 1, 1, (0, 0, 0, 0)), (33, .iaload, 1, (0, 0, 0, 0)), (34, .istore_n 3, 1, (0, 0, 0, 0)), (35, .aload_n 0, 1, (0, 0, 0, 0)), (36, .getfield 30, 3, (5, 13, 145, 0)), (39, .iload_n 1, 1, (0, 0, 0, 0)),
  (40, .iload_n 2, 1, (0, 0, 0, 0)), (41, .iastore, 1, (0, 0, 0, 0)), (42, .iload_n 3, 1, (0, 0, 0, 0)), (43, .ireturn, 1, (0, 0, 0, 0))]
def mX5_changeSetting : ME := (yX5_changeSetting, cX5_changeSetting, 4, (some .int), 0, 2, 5, tX5_changeSetting)
def tX5_settle : List CI := [(0, .aload_n 0, 1, (0, 0, 0, 0)), (1, .invokevirtual 106, 3, (37, 0, 365, 0)), (4, .ifCond .ne 14, 3, (0, 0, 0, 0)), (7, .aload_n 0, 1, (0, 0, 0, 0)), (8, .invokevirtual 111, 3, (39, 0, 370, 0)), (11, .aload_n 0, 1, (0, 0, 0, 0)),
  (12, .getfield 63, 3, (5, 0, 121, 0)), (15, .if_icmp .ge 6, 3, (0, 0, 0, 0)), (18, .ldc 110, 2, (369, 0, 0, -1000002)), (20, .ireturn, 1, (0, 0, 0, 0)), (21, .aload_n 1, 1, (0, 0, 0, 0)), (22, .aload_n 0, 1, (0, 0, 0, 0)),
  (23, .aload_n 0, 1, (0, 0, 0, 0)), (24, .getfield 18, 3, (5, 9, 140, 0)), (27, .invokevirtual 117, 3, (11, 0, 382, 0)), (30, .aload_n 0, 1, (0, 0, 0, 0)), (31, .invokevirtual 123, 3, (38, 0, 401, 0)), (34, .istore_n 2, 1, (0, 0, 0, 0)),
  (35, .aload_n 0, 1, (0, 0, 0, 0)), (36, .getfield 39, 3, (5, 15, 149, 0)), (39, .aload_n 1, 1, (0, 0, 0, 0)), (40, .iload_n 2, 1, (0, 0, 0, 0)), (41, .aload_n 0, 1, (0, 0, 0, 0)), (42, .getfield 18, 3, (5, 9, 140, 0)),
  (45, .invokevirtual 126, 3, (25, 0, 405, 0)), (48, .iconst 0, 1, (0, 0, 0, 0)), (49, .istore_n 3, 1, (0, 0, 0, 0)), (50, .iload_n 3, 1, (0, 0, 0, 0)), (51, .aload_n 0, 1, (0, 0, 0, 0)), (52, .getfield 63, 3, (5, 0, 121, 0)),
  (55, .if_icmp .ge 85, 3, (0, 0, 0, 0)), (58, .aload_n 0, 1, (0, 0, 0, 0)), (59, .getfield 46, 3, (5, 16, 151, 0)), (62, .iload_n 3, 1, (0, 0, 0, 0)), (63, .aload_n 0, 1, (0, 0, 0, 0)), (64, .getfield 18, 3, (5, 9, 140, 0)),
  (67, .iload_n 3, 1, (0, 0, 0, 0)), (68, .iaload, 1, (0, 0, 0, 0)), (69, .iload_n 3, 1, (0, 0, 0, 0)), (70, .aload_n 1, 1, (0, 0, 0, 0)), (71, .getfield 130, 3, (2, 0, 247, 0)), (74, .if_icmp .ne 7, 3, (0, 0, 0, 0)),
  (77, .iconst 1, 1, (0, 0, 0, 0)), (78, .goto 4, 3, (0, 0, 0, 0)), (81, .iconst 0, 1, (0, 0, 0, 0)), (82, .invokevirtual 133, 3, (19, 0, 410, 0)), (85, .aload_n 0, 1, (0, 0, 0, 0)), (86, .getfield 9, 3, (5, 7, 134, 0)),
  (89, .iload_n 3, 1, (0, 0, 0, 0)), (90, .aload_n 1, 1, (0, 0, 0, 0)), (91, .aload_n 0, 1, (0, 0, 0, 0)), (92, .iload_n 3, 1, (0, 0, 0, 0)), (93, .invokevirtual 137, 3, (15, 0, 418, 0)), (96, .iastore, 1, (0, 0, 0, 0)),
  (97, .aload_n 0, 1, (0, 0, 0, 0)), (98, .getfield 24, 3, (5, 11, 143, 0)), (101, .iload_n 3, 1, (0, 0, 0, 0)), (102, .dup2, 1, (0, 0, 0, 0)), (103, .iaload, 1, (0, 0, 0, 0)), (104, .aload_n 1, 1, (0, 0, 0, 0)),
  (105, .getfield 141, 3, (2, 4, 255, 0)), (108, .iload_n 3, 1, (0, 0, 0, 0)), (109, .iaload, 1, (0, 0, 0, 0)), (110, .iadd, 1, (0, 0, 0, 0)), (111, .iastore, 1, (0, 0, 0, 0)), (112, .aload_n 0, 1, (0, 0, 0, 0)),
  (113, .getfield 27, 3, (5, 12, 144, 0)), (116, .iload_n 3, 1, (0, 0, 0, 0)), (117, .dup2, 1, (0, 0, 0, 0)), (118, .iaload, 1, (0, 0, 0, 0)), (119, .aload_n 1, 1, (0, 0, 0, 0)), (120, .getfield 142, 3, (2, 5, 257, 0)),
  (123, .iload_n 3, 1, (0, 0, 0, 0)), (124, .iaload, 1, (0, 0, 0, 0)), (125, .iadd, 1, (0, 0, 0, 0)), (126, .iastore, 1, (0, 0, 0, 0)), (127, .aload_n 0, 1, (0, 0, 0, 0)), (128, .getfield 18, 3, (5, 9, 140, 0)),
  (131, .iload_n 3, 1, (0, 0, 0, 0)), (132, .iconst (-1), 1, (0, 0, 0, 0)), (133, .iastore, 1, (0, 0, 0, 0)), (134, .iinc 3 1, 3, (0, 0, 0, 0)), (137, .goto (-87), 3, (0, 0, 0, 0)), (140, .aload_n 0, 1, (0, 0, 0, 0)),
  (141, .aload_n 1, 1, (0, 0, 0, 0)), (142, .getfield 143, 3, (2, 3, 253, 0)), (145, .putfield 67, 3, (5, 1, 124, 0)), (148, .aload_n 0, 1, (0, 0, 0, 0)), (149, .dup, 1, (0, 0, 0, 0)), (150, .getfield 70, 3, (5, 2, 126, 0)),
  (153, .iconst 1, 1, (0, 0, 0, 0)), (154, .iadd, 1, (0, 0, 0, 0)), (155, .putfield 70, 3, (5, 2, 126, 0)), (158, .aload_n 0, 1, (0, 0, 0, 0)), (159, .dup, 1, (0, 0, 0, 0)), (160, .getfield 76, 3, (5, 4, 129, 0)),
  (163, .iconst 1, 1, (0, 0, 0, 0)), (164, .iadd, 1, (0, 0, 0, 0)), (165, .putfield 76, 3, (5, 4, 129, 0)), (168, .aload_n 0, 1, (0, 0, 0, 0)), (169, .dup, 1, (0, 0, 0, 0)), (170, .getfield 82, 3, (5, 6, 132, 0)),
  (173, .iconst 1, 1, (0, 0, 0, 0)), (174, .isub, 1, (0, 0, 0, 0)), (175, .putfield 82, 3, (5, 6, 132, 0)), (178, .aload_n 1, 1, (0, 0, 0, 0)), (179, .getfield 130, 3, (2, 0, 247, 0)), (182, .iconst (-1), 1, (0, 0, 0, 0)),
  (183, .if_icmp .ne 21, 3, (0, 0, 0, 0)), (186, .aload_n 0, 1, (0, 0, 0, 0)), (187, .dup, 1, (0, 0, 0, 0)), (188, .getfield 73, 3, (5, 3, 128, 0)), (191, .iconst 1, 1, (0, 0, 0, 0)), (192, .iadd, 1, (0, 0, 0, 0)),
  (193, .putfield 73, 3, (5, 3, 128, 0)), (196, .aload_n 0, 1, (0, 0, 0, 0)), (197, .iload_n 2, 1, (0, 0, 0, 0)), (198, .putfield 79, 3, (5, 5, 131, 0)), (201, .goto 33, 3, (0, 0, 0, 0)), (204, .aload_n 0, 1, (0, 0, 0, 0)),
  (205, .getfield 21, 3, (5, 10, 142, 0)), (208, .aload_n 1, 1, (0, 0, 0, 0)), (209, .getfield 130, 3, (2, 0, 247, 0)), (212, .dup2, 1, (0, 0, 0, 0)), (213, .iaload, 1, (0, 0, 0, 0)), (214, .iconst 1, 1, (0, 0, 0, 0)),
  (215, .iadd, 1, (0, 0, 0, 0)), (216, .iastore, 1, (0, 0, 0, 0)), (217, .aload_n 0, 1, (0, 0, 0, 0)), (218, .getfield 15, 3, (5, 8, 138, 0)), (221, .aload_n 1, 1, (0, 0, 0, 0)), (222, .getfield 130, 3, (2, 0, 247, 0)),
  (225, .dup2, 1, (0, 0, 0, 0)), (226, .iaload, 1, (0, 0, 0, 0)), (227, .iload_n 2, 1, (0, 0, 0, 0)), (228, .iadd, 1, (0, 0, 0, 0)), (229, .iastore, 1, (0, 0, 0, 0)), (230, .aload_n 0, 1, (0, 0, 0, 0)),
  (231, .invokevirtual 144, 3, (35, 0, 422, 0)), (234, .aload_n 1, 1, (0, 0, 0, 0)), (235, .getfield 130, 3, (2, 0, 247, 0)), (238, .ireturn, 1, (0, 0, 0, 0))]
def mX5_settle : ME := (yX5_settle, cX5_settle, 4, (some .int), 0, 1, 5, tX5_settle)
def tX5_emptyTable : List CI := [(0, .iconst 0, 1, (0, 0, 0, 0)), (1, .istore_n 1, 1, (0, 0, 0, 0)), (2, .iload_n 1, 1, (0, 0, 0, 0)), (3, .aload_n 0, 1, (0, 0, 0, 0)), (4, .getfield 82, 3, (5, 6, 132, 0)), (7, .if_icmp .ge 26, 3, (0, 0, 0, 0)),
  (10, .aload_n 0, 1, (0, 0, 0, 0)), (11, .getfield 33, 3, (5, 14, 147, 0)), (14, .iload_n 1, 1, (0, 0, 0, 0)), (15, .aload_n 0, 1, (0, 0, 0, 0)), (16, .getfield 33, 3, (5, 14, 147, 0)), (19, .aload_n 0, 1, (0, 0, 0, 0)),
  (20, .getfield 76, 3, (5, 4, 129, 0)), (23, .iload_n 1, 1, (0, 0, 0, 0)), (24, .iadd, 1, (0, 0, 0, 0)), (25, .iaload, 1, (0, 0, 0, 0)), (26, .iastore, 1, (0, 0, 0, 0)), (27, .iinc 1 1, 3, (0, 0, 0, 0)),
  (30, .goto (-28), 3, (0, 0, 0, 0)), (33, .aload_n 0, 1, (0, 0, 0, 0)), (34, .iconst 0, 1, (0, 0, 0, 0)), (35, .putfield 76, 3, (5, 4, 129, 0)), (38, .aload_n 0, 1, (0, 0, 0, 0)), (39, .iconst 0, 1, (0, 0, 0, 0)),
  (40, .putfield 79, 3, (5, 5, 131, 0)), (43, .return_, 1, (0, 0, 0, 0))]
def mX5_emptyTable : ME := (yX5_emptyTable, cX5_emptyTable, 2, none, 0, 0, 5, tX5_emptyTable)
def tX5_hasPlayer : List CI := [(0, .iload_n 1, 1, (0, 0, 0, 0)), (1, .ifCond .lt 15, 3, (0, 0, 0, 0)), (4, .iload_n 1, 1, (0, 0, 0, 0)), (5, .aload_n 0, 1, (0, 0, 0, 0)), (6, .getfield 63, 3, (5, 0, 121, 0)), (9, .if_icmp .ge 7, 3, (0, 0, 0, 0)),
  (12, .iconst 1, 1, (0, 0, 0, 0)), (13, .goto 4, 3, (0, 0, 0, 0)), (16, .iconst 0, 1, (0, 0, 0, 0)), (17, .ireturn, 1, (0, 0, 0, 0))]
def mX5_hasPlayer : ME := (yX5_hasPlayer, cX5_hasPlayer, 2, (some .boolean), 0, 1, 5, tX5_hasPlayer)
def tX5_isOver : List CI := [(0, .aload_n 0, 1, (0, 0, 0, 0)), (1, .getfield 82, 3, (5, 6, 132, 0)), (4, .ifCond .ne 7, 3, (0, 0, 0, 0)), (7, .iconst 1, 1, (0, 0, 0, 0)), (8, .goto 4, 3, (0, 0, 0, 0)), (11, .iconst 0, 1, (0, 0, 0, 0)),
  (12, .ireturn, 1, (0, 0, 0, 0))]
def mX5_isOver : ME := (yX5_isOver, cX5_isOver, 1, (some .boolean), 0, 0, 5, tX5_isOver)
def tX5_nextStake : List CI := [(0, .aload_n 0, 1, (0, 0, 0, 0)), (1, .invokevirtual 106, 3, (37, 0, 365, 0)), (4, .ifCond .eq 10, 3, (0, 0, 0, 0)), (7, .aload_n 0, 1, (0, 0, 0, 0)), (8, .getfield 79, 3, (5, 5, 131, 0)), (11, .goto 17, 3, (0, 0, 0, 0)),
  (14, .aload_n 0, 1, (0, 0, 0, 0)), (15, .getfield 79, 3, (5, 5, 131, 0)), (18, .aload_n 0, 1, (0, 0, 0, 0)), (19, .getfield 33, 3, (5, 14, 147, 0)), (22, .aload_n 0, 1, (0, 0, 0, 0)), (23, .getfield 76, 3, (5, 4, 129, 0)),
  (26, .iaload, 1, (0, 0, 0, 0)), (27, .iadd, 1, (0, 0, 0, 0)), (28, .ireturn, 1, (0, 0, 0, 0))]
def mX5_nextStake : ME := (yX5_nextStake, cX5_nextStake, 1, (some .int), 0, 0, 5, tX5_nextStake)
def tX5_bidCount : List CI := [(0, .iconst 0, 1, (0, 0, 0, 0)), (1, .istore_n 1, 1, (0, 0, 0, 0)), (2, .iconst 0, 1, (0, 0, 0, 0)), (3, .istore_n 2, 1, (0, 0, 0, 0)), (4, .iload_n 2, 1, (0, 0, 0, 0)), (5, .aload_n 0, 1, (0, 0, 0, 0)),
  (6, .getfield 63, 3, (5, 0, 121, 0)), (9, .if_icmp .ge 22, 3, (0, 0, 0, 0)), (12, .aload_n 0, 1, (0, 0, 0, 0)), (13, .getfield 18, 3, (5, 9, 140, 0)), (16, .iload_n 2, 1, (0, 0, 0, 0)), (17, .iaload, 1, (0, 0, 0, 0)),
  (18, .iconst (-1), 1, (0, 0, 0, 0)), (19, .if_icmp .eq 6, 3, (0, 0, 0, 0)), (22, .iinc 1 1, 3, (0, 0, 0, 0)), (25, .iinc 2 1, 3, (0, 0, 0, 0)), (28, .goto (-24), 3, (0, 0, 0, 0)), (31, .iload_n 1, 1, (0, 0, 0, 0)),
  (32, .ireturn, 1, (0, 0, 0, 0))]
def mX5_bidCount : ME := (yX5_bidCount, cX5_bidCount, 3, (some .int), 0, 0, 5, tX5_bidCount)
def tX5_othersHaveBids : List CI := [(0, .iconst 0, 1, (0, 0, 0, 0)), (1, .istore_n 2, 1, (0, 0, 0, 0)), (2, .iload_n 2, 1, (0, 0, 0, 0)), (3, .aload_n 0, 1, (0, 0, 0, 0)), (4, .getfield 63, 3, (5, 0, 121, 0)), (7, .if_icmp .ge 26, 3, (0, 0, 0, 0)),
  (10, .iload_n 2, 1, (0, 0, 0, 0)), (11, .iload_n 1, 1, (0, 0, 0, 0)), (12, .if_icmp .eq 15, 3, (0, 0, 0, 0)), (15, .aload_n 0, 1, (0, 0, 0, 0)), (16, .getfield 18, 3, (5, 9, 140, 0)), (19, .iload_n 2, 1, (0, 0, 0, 0)),
  (20, .iaload, 1, (0, 0, 0, 0)), (21, .iconst (-1), 1, (0, 0, 0, 0)), (22, .if_icmp .ne 5, 3, (0, 0, 0, 0)), (25, .iconst 0, 1, (0, 0, 0, 0)), (26, .ireturn, 1, (0, 0, 0, 0)), (27, .iinc 2 1, 3, (0, 0, 0, 0)),
  (30, .goto (-28), 3, (0, 0, 0, 0)), (33, .iconst 1, 1, (0, 0, 0, 0)), (34, .ireturn, 1, (0, 0, 0, 0))]
def mX5_othersHaveBids : ME := (yX5_othersHaveBids, cX5_othersHaveBids, 3, (some .boolean), 0, 1, 5, tX5_othersHaveBids)
def tX5_mostCoinsOfOthers : List CI := [(0, .iconst 0, 1, (0, 0, 0, 0)), (1, .istore_n 2, 1, (0, 0, 0, 0)), (2, .iconst 0, 1, (0, 0, 0, 0)), (3, .istore_n 3, 1, (0, 0, 0, 0)), (4, .iload_n 3, 1, (0, 0, 0, 0)), (5, .aload_n 0, 1, (0, 0, 0, 0)),
  (6, .getfield 63, 3, (5, 0, 121, 0)), (9, .if_icmp .ge 25, 3, (0, 0, 0, 0)), (12, .iload_n 3, 1, (0, 0, 0, 0)), (13, .iload_n 1, 1, (0, 0, 0, 0)), (14, .if_icmp .eq 14, 3, (0, 0, 0, 0)), (17, .iload_n 2, 1, (0, 0, 0, 0)),
  (18, .aload_n 0, 1, (0, 0, 0, 0)), (19, .getfield 9, 3, (5, 7, 134, 0)), (22, .iload_n 3, 1, (0, 0, 0, 0)), (23, .iaload, 1, (0, 0, 0, 0)), (24, .invokestatic 147, 3, (503, 3, 0, 0)), (27, .istore_n 2, 1, (0, 0, 0, 0)),
  (28, .iinc 3 1, 3, (0, 0, 0, 0)), (31, .goto (-27), 3, (0, 0, 0, 0)), (34, .iload_n 2, 1, (0, 0, 0, 0)), (35, .ireturn, 1, (0, 0, 0, 0))]
def mX5_mostCoinsOfOthers : ME := (yX5_mostCoinsOfOthers, cX5_mostCoinsOfOthers, 4, (some .int), 0, 1, 5, tX5_mostCoinsOfOthers)
def tX5_allCoins : List CI := [(0, .aload_n 0, 1, (0, 0, 0, 0)), (1, .getfield 67, 3, (5, 1, 124, 0)), (4, .istore_n 1, 1, (0, 0, 0, 0)), (5, .iconst 0, 1, (0, 0, 0, 0)), (6, .istore_n 2, 1, (0, 0, 0, 0)), (7, .iload_n 2, 1, (0, 0, 0, 0)),
  (8, .aload_n 0, 1, (0, 0, 0, 0)), (9, .getfield 63, 3, (5, 0, 121, 0)), (12, .if_icmp .ge 18, 3, (0, 0, 0, 0)), (15, .iload_n 1, 1, (0, 0, 0, 0)), (16, .aload_n 0, 1, (0, 0, 0, 0)), (17, .getfield 9, 3, (5, 7, 134, 0)),
  (20, .iload_n 2, 1, (0, 0, 0, 0)), (21, .iaload, 1, (0, 0, 0, 0)), (22, .iadd, 1, (0, 0, 0, 0)), (23, .istore_n 1, 1, (0, 0, 0, 0)), (24, .iinc 2 1, 3, (0, 0, 0, 0)), (27, .goto (-20), 3, (0, 0, 0, 0)),
  (30, .iload_n 1, 1, (0, 0, 0, 0)), (31, .ireturn, 1, (0, 0, 0, 0))]
def mX5_allCoins : ME := (yX5_allCoins, cX5_allCoins, 3, (some .int), 0, 0, 5, tX5_allCoins)
def tX5_leader : List CI := [(0, .iconst 0, 1, (0, 0, 0, 0)), (1, .istore_n 1, 1, (0, 0, 0, 0)), (2, .iconst 1, 1, (0, 0, 0, 0)), (3, .istore_n 2, 1, (0, 0, 0, 0)), (4, .iload_n 2, 1, (0, 0, 0, 0)), (5, .aload_n 0, 1, (0, 0, 0, 0)),
  (6, .getfield 63, 3, (5, 0, 121, 0)), (9, .if_icmp .ge 78, 3, (0, 0, 0, 0)), (12, .aload_n 0, 1, (0, 0, 0, 0)), (13, .getfield 15, 3, (5, 8, 138, 0)), (16, .iload_n 2, 1, (0, 0, 0, 0)), (17, .iaload, 1, (0, 0, 0, 0)),
  (18, .aload_n 0, 1, (0, 0, 0, 0)), (19, .getfield 15, 3, (5, 8, 138, 0)), (22, .iload_n 1, 1, (0, 0, 0, 0)), (23, .iaload, 1, (0, 0, 0, 0)), (24, .if_icmp .le 7, 3, (0, 0, 0, 0)), (27, .iconst 1, 1, (0, 0, 0, 0)),
  (28, .goto 4, 3, (0, 0, 0, 0)), (31, .iconst 0, 1, (0, 0, 0, 0)), (32, .istore_n 3, 1, (0, 0, 0, 0)), (33, .aload_n 0, 1, (0, 0, 0, 0)), (34, .getfield 15, 3, (5, 8, 138, 0)), (37, .iload_n 2, 1, (0, 0, 0, 0)),
  (38, .iaload, 1, (0, 0, 0, 0)), (39, .aload_n 0, 1, (0, 0, 0, 0)), (40, .getfield 15, 3, (5, 8, 138, 0)), (43, .iload_n 1, 1, (0, 0, 0, 0)), (44, .iaload, 1, (0, 0, 0, 0)), (45, .if_icmp .ne 22, 3, (0, 0, 0, 0)),
  (48, .aload_n 0, 1, (0, 0, 0, 0)), (49, .getfield 9, 3, (5, 7, 134, 0)), (52, .iload_n 2, 1, (0, 0, 0, 0)), (53, .iaload, 1, (0, 0, 0, 0)), (54, .aload_n 0, 1, (0, 0, 0, 0)), (55, .getfield 9, 3, (5, 7, 134, 0)),
  (58, .iload_n 1, 1, (0, 0, 0, 0)), (59, .iaload, 1, (0, 0, 0, 0)), (60, .if_icmp .le 7, 3, (0, 0, 0, 0)), (63, .iconst 1, 1, (0, 0, 0, 0)), (64, .goto 4, 3, (0, 0, 0, 0)), (67, .iconst 0, 1, (0, 0, 0, 0)),
  (68, .istore 4, 2, (0, 0, 0, 0)), (70, .iload_n 3, 1, (0, 0, 0, 0)), (71, .ifCond .ne 8, 3, (0, 0, 0, 0)), (74, .iload 4, 2, (0, 0, 0, 0)), (76, .ifCond .eq 5, 3, (0, 0, 0, 0)), (79, .iload_n 2, 1, (0, 0, 0, 0)),
  (80, .istore_n 1, 1, (0, 0, 0, 0)), (81, .iinc 2 1, 3, (0, 0, 0, 0)), (84, .goto (-80), 3, (0, 0, 0, 0)), (87, .iload_n 1, 1, (0, 0, 0, 0)), (88, .ireturn, 1, (0, 0, 0, 0))]
def mX5_leader : ME := (yX5_leader, cX5_leader, 5, (some .int), 0, 0, 5, tX5_leader)
def tX5_canLead : List CI := [(0, .aload_n 0, 1, (0, 0, 0, 0)), (1, .getfield 15, 3, (5, 8, 138, 0)), (4, .iload_n 1, 1, (0, 0, 0, 0)), (5, .iaload, 1, (0, 0, 0, 0)), (6, .istore_n 2, 1, (0, 0, 0, 0)), (7, .iconst 0, 1, (0, 0, 0, 0)),
  (8, .istore_n 3, 1, (0, 0, 0, 0)), (9, .iload_n 3, 1, (0, 0, 0, 0)), (10, .aload_n 0, 1, (0, 0, 0, 0)), (11, .getfield 76, 3, (5, 4, 129, 0)), (14, .aload_n 0, 1, (0, 0, 0, 0)), (15, .getfield 82, 3, (5, 6, 132, 0)),
  (18, .iadd, 1, (0, 0, 0, 0)), (19, .if_icmp .ge 22, 3, (0, 0, 0, 0)), (22, .iload_n 2, 1, (0, 0, 0, 0)), (23, .aload_n 0, 1, (0, 0, 0, 0)), (24, .getfield 33, 3, (5, 14, 147, 0)), (27, .iload_n 3, 1, (0, 0, 0, 0)),
  (28, .iaload, 1, (0, 0, 0, 0)), (29, .iconst 0, 1, (0, 0, 0, 0)), (30, .invokestatic 147, 3, (503, 3, 0, 0)), (33, .iadd, 1, (0, 0, 0, 0)), (34, .istore_n 2, 1, (0, 0, 0, 0)), (35, .iinc 3 1, 3, (0, 0, 0, 0)),
  (38, .goto (-29), 3, (0, 0, 0, 0)), (41, .iconst 0, 1, (0, 0, 0, 0)), (42, .istore_n 3, 1, (0, 0, 0, 0)), (43, .iload_n 3, 1, (0, 0, 0, 0)), (44, .aload_n 0, 1, (0, 0, 0, 0)), (45, .getfield 63, 3, (5, 0, 121, 0)),
  (48, .if_icmp .ge 26, 3, (0, 0, 0, 0)), (51, .iload_n 3, 1, (0, 0, 0, 0)), (52, .iload_n 1, 1, (0, 0, 0, 0)), (53, .if_icmp .eq 15, 3, (0, 0, 0, 0)), (56, .aload_n 0, 1, (0, 0, 0, 0)), (57, .getfield 15, 3, (5, 8, 138, 0)),
  (60, .iload_n 3, 1, (0, 0, 0, 0)), (61, .iaload, 1, (0, 0, 0, 0)), (62, .iload_n 2, 1, (0, 0, 0, 0)), (63, .if_icmp .lt 5, 3, (0, 0, 0, 0)), (66, .iconst 0, 1, (0, 0, 0, 0)), (67, .ireturn, 1, (0, 0, 0, 0)),
  (68, .iinc 3 1, 3, (0, 0, 0, 0)), (71, .goto (-28), 3, (0, 0, 0, 0)), (74, .iconst 1, 1, (0, 0, 0, 0)), (75, .ireturn, 1, (0, 0, 0, 0))]
def mX5_canLead : ME := (yX5_canLead, cX5_canLead, 4, (some .boolean), 0, 1, 5, tX5_canLead)
def tX5_numberOfPlayer : List CI := [(0, .aload_n 0, 1, (0, 0, 0, 0)), (1, .iload_n 1, 1, (0, 0, 0, 0)), (2, .invokevirtual 102, 3, (36, 0, 361, 0)), (5, .ifCond .ne 6, 3, (0, 0, 0, 0)), (8, .ldc 92, 2, (108, 0, 0, -1000001)), (10, .ireturn, 1, (0, 0, 0, 0)),
  (11, .iload_n 2, 1, (0, 0, 0, 0)), (12, .tableswitch 91 0 5 #[40, 47, 54, 70, 77, 84], 40, (0, 0, 0, 0)), (52, .aload_n 0, 1, (0, 0, 0, 0)), (53, .getfield 9, 3, (5, 7, 134, 0)), (56, .iload_n 1, 1, (0, 0, 0, 0)), (57, .iaload, 1, (0, 0, 0, 0)),
  (58, .ireturn, 1, (0, 0, 0, 0)), (59, .aload_n 0, 1, (0, 0, 0, 0)), (60, .getfield 15, 3, (5, 8, 138, 0)), (63, .iload_n 1, 1, (0, 0, 0, 0)), (64, .iaload, 1, (0, 0, 0, 0)), (65, .ireturn, 1, (0, 0, 0, 0)),
  (66, .aload_n 0, 1, (0, 0, 0, 0)), (67, .getfield 18, 3, (5, 9, 140, 0)), (70, .iload_n 1, 1, (0, 0, 0, 0)), (71, .iaload, 1, (0, 0, 0, 0)), (72, .iconst (-1), 1, (0, 0, 0, 0)), (73, .if_icmp .ne 7, 3, (0, 0, 0, 0)),
  (76, .iconst 0, 1, (0, 0, 0, 0)), (77, .goto 4, 3, (0, 0, 0, 0)), (80, .iconst 1, 1, (0, 0, 0, 0)), (81, .ireturn, 1, (0, 0, 0, 0)), (82, .aload_n 0, 1, (0, 0, 0, 0)), (83, .getfield 21, 3, (5, 10, 142, 0)),
  (86, .iload_n 1, 1, (0, 0, 0, 0)), (87, .iaload, 1, (0, 0, 0, 0)), (88, .ireturn, 1, (0, 0, 0, 0)), (89, .aload_n 0, 1, (0, 0, 0, 0)), (90, .getfield 24, 3, (5, 11, 143, 0)), (93, .iload_n 1, 1, (0, 0, 0, 0)),
  (94, .iaload, 1, (0, 0, 0, 0)), (95, .ireturn, 1, (0, 0, 0, 0)), (96, .aload_n 0, 1, (0, 0, 0, 0)), (97, .getfield 27, 3, (5, 12, 144, 0)), (100, .iload_n 1, 1, (0, 0, 0, 0)), (101, .iaload, 1, (0, 0, 0, 0)),
  (102, .ireturn, 1, (0, 0, 0, 0)), (103, .ldc 92, 2, (108, 0, 0, -1000001)), (105, .ireturn, 1, (0, 0, 0, 0))]
def mX5_numberOfPlayer : ME := (yX5_numberOfPlayer, cX5_numberOfPlayer, 3, (some .int), 0, 2, 5, tX5_numberOfPlayer)
def tX5_valueAt : List CI := [(0, .iload_n 1, 1, (0, 0, 0, 0)), (1, .ifCond .lt 12, 3, (0, 0, 0, 0)), (4, .iload_n 1, 1, (0, 0, 0, 0)), (5, .iconst 1, 1, (0, 0, 0, 0)), (6, .if_icmp .gt 7, 3, (0, 0, 0, 0)), (9, .iload_n 2, 1, (0, 0, 0, 0)),
  (10, .ifCond .ge 6, 3, (0, 0, 0, 0)), (13, .ldc 92, 2, (108, 0, 0, -1000001)), (15, .ireturn, 1, (0, 0, 0, 0)), (16, .iload_n 1, 1, (0, 0, 0, 0)), (17, .ifCond .ne 28, 3, (0, 0, 0, 0)), (20, .iload_n 2, 1, (0, 0, 0, 0)),
  (21, .aload_n 0, 1, (0, 0, 0, 0)), (22, .getfield 82, 3, (5, 6, 132, 0)), (25, .if_icmp .ge 17, 3, (0, 0, 0, 0)), (28, .aload_n 0, 1, (0, 0, 0, 0)), (29, .getfield 33, 3, (5, 14, 147, 0)), (32, .aload_n 0, 1, (0, 0, 0, 0)),
  (33, .getfield 76, 3, (5, 4, 129, 0)), (36, .iload_n 2, 1, (0, 0, 0, 0)), (37, .iadd, 1, (0, 0, 0, 0)), (38, .iaload, 1, (0, 0, 0, 0)), (39, .goto 5, 3, (0, 0, 0, 0)), (42, .ldc 152, 2, (452, 0, 0, -1000004)),
  (44, .ireturn, 1, (0, 0, 0, 0)), (45, .iload_n 2, 1, (0, 0, 0, 0)), (46, .aload_n 0, 1, (0, 0, 0, 0)), (47, .getfield 76, 3, (5, 4, 129, 0)), (50, .if_icmp .ge 12, 3, (0, 0, 0, 0)), (53, .aload_n 0, 1, (0, 0, 0, 0)),
  (54, .getfield 33, 3, (5, 14, 147, 0)), (57, .iload_n 2, 1, (0, 0, 0, 0)), (58, .iaload, 1, (0, 0, 0, 0)), (59, .goto 5, 3, (0, 0, 0, 0)), (62, .ldc 152, 2, (452, 0, 0, -1000004)), (64, .ireturn, 1, (0, 0, 0, 0))]
def mX5_valueAt : ME := (yX5_valueAt, cX5_valueAt, 3, (some .int), 0, 2, 5, tX5_valueAt)
def tX5_number : List CI := [(0, .iload_n 1, 1, (0, 0, 0, 0)), (1, .tableswitch 181 0 22 #[107, 112, 117, 122, 127, 132, 137, 142, 147, 152, 181, 181, 181, 181, 181, 181, 181, 181, 181, 181, 160, 167, 174], 107, (0, 0, 0, 0)), (108, .aload_n 0, 1, (0, 0, 0, 0)), (109, .getfield 63, 3, (5, 0, 121, 0)), (112, .ireturn, 1, (0, 0, 0, 0)), (113, .aload_n 0, 1, (0, 0, 0, 0)),
  (114, .getfield 82, 3, (5, 6, 132, 0)), (117, .ireturn, 1, (0, 0, 0, 0)), (118, .aload_n 0, 1, (0, 0, 0, 0)), (119, .getfield 76, 3, (5, 4, 129, 0)), (122, .ireturn, 1, (0, 0, 0, 0)), (123, .aload_n 0, 1, (0, 0, 0, 0)),
  (124, .getfield 79, 3, (5, 5, 131, 0)), (127, .ireturn, 1, (0, 0, 0, 0)), (128, .aload_n 0, 1, (0, 0, 0, 0)), (129, .getfield 67, 3, (5, 1, 124, 0)), (132, .ireturn, 1, (0, 0, 0, 0)), (133, .aload_n 0, 1, (0, 0, 0, 0)),
  (134, .getfield 70, 3, (5, 2, 126, 0)), (137, .ireturn, 1, (0, 0, 0, 0)), (138, .aload_n 0, 1, (0, 0, 0, 0)), (139, .getfield 73, 3, (5, 3, 128, 0)), (142, .ireturn, 1, (0, 0, 0, 0)), (143, .aload_n 0, 1, (0, 0, 0, 0)),
  (144, .invokevirtual 111, 3, (39, 0, 370, 0)), (147, .ireturn, 1, (0, 0, 0, 0)), (148, .aload_n 0, 1, (0, 0, 0, 0)), (149, .invokevirtual 97, 3, (42, 0, 117, 0)), (152, .ireturn, 1, (0, 0, 0, 0)), (153, .aload_n 0, 1, (0, 0, 0, 0)),
  (154, .getfield 46, 3, (5, 16, 151, 0)), (157, .getfield 153, 3, (3, 4, 87, 0)), (160, .ireturn, 1, (0, 0, 0, 0)), (161, .aload_n 0, 1, (0, 0, 0, 0)), (162, .getfield 30, 3, (5, 13, 145, 0)), (165, .iconst 0, 1, (0, 0, 0, 0)),
  (166, .iaload, 1, (0, 0, 0, 0)), (167, .ireturn, 1, (0, 0, 0, 0)), (168, .aload_n 0, 1, (0, 0, 0, 0)), (169, .getfield 30, 3, (5, 13, 145, 0)), (172, .iconst 1, 1, (0, 0, 0, 0)), (173, .iaload, 1, (0, 0, 0, 0)),
  (174, .ireturn, 1, (0, 0, 0, 0)), (175, .aload_n 0, 1, (0, 0, 0, 0)), (176, .getfield 30, 3, (5, 13, 145, 0)), (179, .iconst 2, 1, (0, 0, 0, 0)), (180, .iaload, 1, (0, 0, 0, 0)), (181, .ireturn, 1, (0, 0, 0, 0)),
  (182, .ldc 92, 2, (108, 0, 0, -1000001)), (184, .ireturn, 1, (0, 0, 0, 0))]
def mX5_number : ME := (yX5_number, cX5_number, 2, (some .int), 0, 1, 5, tX5_number)
def tX6_init : List CI := [(0, .aload_n 0, 1, (0, 0, 0, 0)), (1, .invokespecial 3, 3, (203, 5, 0, 0)), (4, .aload_n 0, 1, (0, 0, 0, 0)), (5, .bipush 60, 2, (0, 0, 0, 0)), (7, .newarray .int, 2, (0, 0, 0, 0)), (9, .putfield 9, 3, (6, 0, 204, 0)),
  (12, .return_, 1, (0, 0, 0, 0))]
def mX6_init : ME := (yX6_init, cX6_init, 1, none, 2, 0, 6, tX6_init)
def tX6_append : List CI := [(0, .aload_n 0, 1, (0, 0, 0, 0)), (1, .getfield 15, 3, (6, 1, 205, 0)), (4, .bipush 60, 2, (0, 0, 0, 0)), (6, .if_icmp .lt 6, 3, (0, 0, 0, 0)), (9, .ldc 19, 2, (586, 0, 0, -1000003)), (11, .ireturn, 1, (0, 0, 0, 0)),
  (12, .aload_n 0, 1, (0, 0, 0, 0)), (13, .getfield 9, 3, (6, 0, 204, 0)), (16, .aload_n 0, 1, (0, 0, 0, 0)), (17, .getfield 15, 3, (6, 1, 205, 0)), (20, .iload_n 1, 1, (0, 0, 0, 0)), (21, .iastore, 1, (0, 0, 0, 0)),
  (22, .aload_n 0, 1, (0, 0, 0, 0)), (23, .dup, 1, (0, 0, 0, 0)), (24, .getfield 15, 3, (6, 1, 205, 0)), (27, .iconst 1, 1, (0, 0, 0, 0)), (28, .iadd, 1, (0, 0, 0, 0)), (29, .putfield 15, 3, (6, 1, 205, 0)),
  (32, .aload_n 0, 1, (0, 0, 0, 0)), (33, .getfield 15, 3, (6, 1, 205, 0)), (36, .ireturn, 1, (0, 0, 0, 0))]
def mX6_append : ME := (yX6_append, cX6_append, 2, (some .int), 0, 1, 6, tX6_append)
def tX6_numberOfFault : List CI := [(0, .aload_n 0, 1, (0, 0, 0, 0)), (1, .getfield 20, 3, (6, 3, 208, 0)), (4, .ifCond .ne 6, 3, (0, 0, 0, 0)), (7, .ldc 23, 2, (639, 0, 0, -1000004)), (9, .ireturn, 1, (0, 0, 0, 0)), (10, .iload_n 1, 1, (0, 0, 0, 0)),
  (11, .ifCond .ne 8, 3, (0, 0, 0, 0)), (14, .aload_n 0, 1, (0, 0, 0, 0)), (15, .getfield 24, 3, (6, 2, 207, 0)), (18, .ireturn, 1, (0, 0, 0, 0)), (19, .iload_n 1, 1, (0, 0, 0, 0)), (20, .iconst 1, 1, (0, 0, 0, 0)),
  (21, .if_icmp .ne 8, 3, (0, 0, 0, 0)), (24, .aload_n 0, 1, (0, 0, 0, 0)), (25, .getfield 20, 3, (6, 3, 208, 0)), (28, .ireturn, 1, (0, 0, 0, 0)), (29, .aload_n 0, 1, (0, 0, 0, 0)), (30, .getfield 20, 3, (6, 3, 208, 0)),
  (33, .iconst 2, 1, (0, 0, 0, 0)), (34, .if_icmp .ne 10, 3, (0, 0, 0, 0)), (37, .aload_n 0, 1, (0, 0, 0, 0)), (38, .getfield 27, 3, (6, 4, 210, 0)), (41, .goto 5, 3, (0, 0, 0, 0)), (44, .ldc 23, 2, (639, 0, 0, -1000004)),
  (46, .ireturn, 1, (0, 0, 0, 0))]
def mX6_numberOfFault : ME := (yX6_numberOfFault, cX6_numberOfFault, 2, (some .int), 0, 1, 6, tX6_numberOfFault)
def tX6_perform : List CI := [(0, .aload_n 0, 1, (0, 0, 0, 0)), (1, .iconst 0, 1, (0, 0, 0, 0)), (2, .putfield 24, 3, (6, 2, 207, 0)), (5, .aload_n 0, 1, (0, 0, 0, 0)), (6, .iconst 0, 1, (0, 0, 0, 0)), (7, .putfield 20, 3, (6, 3, 208, 0)),
  (10, .aload_n 0, 1, (0, 0, 0, 0)), (11, .iconst 0, 1, (0, 0, 0, 0)), (12, .putfield 27, 3, (6, 4, 210, 0)), (15, .aload_n 0, 1, (0, 0, 0, 0)), (16, .iconst 0, 1, (0, 0, 0, 0)), (17, .putfield 30, 3, (6, 5, 211, 0)),
  (20, .iconst 0, 1, (0, 0, 0, 0)), (21, .istore_n 3, 1, (0, 0, 0, 0)), (22, .iload_n 3, 1, (0, 0, 0, 0)), (23, .aload_n 0, 1, (0, 0, 0, 0)), (24, .getfield 15, 3, (6, 1, 205, 0)), (27, .if_icmp .ge 86, 3, (0, 0, 0, 0)),
  (30, .aload_n 0, 1, (0, 0, 0, 0)), (31, .getfield 24, 3, (6, 2, 207, 0)), (34, .aload_n 0, 1, (0, 0, 0, 0)), (35, .getfield 15, 3, (6, 1, 205, 0)), (38, .if_icmp .ge 75, 3, (0, 0, 0, 0)), (41, .aload_n 0, 1, (0, 0, 0, 0)),
  (42, .getfield 20, 3, (6, 3, 208, 0)), (45, .ifCond .ne 68, 3, (0, 0, 0, 0)), (48, .aload_n 0, 1, (0, 0, 0, 0)), (49, .invokevirtual 33, 3, (53, 0, 599, 0)), (52, .ifCond .ne 9, 3, (0, 0, 0, 0)), (55, .aload_n 0, 1, (0, 0, 0, 0)),
  (56, .iconst 1, 1, (0, 0, 0, 0)), (57, .putfield 20, 3, (6, 3, 208, 0)), (60, .return_, 1, (0, 0, 0, 0)), (61, .aload_n 0, 1, (0, 0, 0, 0)), (62, .aload_n 1, 1, (0, 0, 0, 0)), (63, .aload_n 2, 1, (0, 0, 0, 0)),
  (64, .invokevirtual 37, 3, (52, 0, 627, 0)), (67, .istore 4, 2, (0, 0, 0, 0)), (69, .iload 4, 2, (0, 0, 0, 0)), (71, .invokestatic 41, 3, (86, 1, 4, 0)), (74, .ifCond .eq 15, 3, (0, 0, 0, 0)), (77, .aload_n 0, 1, (0, 0, 0, 0)),
  (78, .iconst 2, 1, (0, 0, 0, 0)), (79, .putfield 20, 3, (6, 3, 208, 0)), (82, .aload_n 0, 1, (0, 0, 0, 0)), (83, .iload 4, 2, (0, 0, 0, 0)), (85, .putfield 27, 3, (6, 4, 210, 0)), (88, .return_, 1, (0, 0, 0, 0)),
  (89, .aload_n 0, 1, (0, 0, 0, 0)), (90, .dup, 1, (0, 0, 0, 0)), (91, .getfield 30, 3, (6, 5, 211, 0)), (94, .iconst 1, 1, (0, 0, 0, 0)), (95, .iadd, 1, (0, 0, 0, 0)), (96, .putfield 30, 3, (6, 5, 211, 0)),
  (99, .aload_n 0, 1, (0, 0, 0, 0)), (100, .aload_n 0, 1, (0, 0, 0, 0)), (101, .getfield 45, 3, (6, 6, 213, 0)), (104, .putfield 24, 3, (6, 2, 207, 0)), (107, .iinc 3 1, 3, (0, 0, 0, 0)), (110, .goto (-88), 3, (0, 0, 0, 0)),
  (113, .return_, 1, (0, 0, 0, 0))]
def mX6_perform : ME := (yX6_perform, cX6_perform, 5, none, 0, 2, 6, tX6_perform)
def tX6_call : List CI := [(0, .aload_n 0, 1, (0, 0, 0, 0)), (1, .getfield 48, 3, (6, 7, 214, 0)), (4, .bipush 108, 2, (0, 0, 0, 0)), (6, .if_icmp .ne 12, 3, (0, 0, 0, 0)), (9, .aload_n 1, 1, (0, 0, 0, 0)), (10, .aload_n 0, 1, (0, 0, 0, 0)),
  (11, .getfield 51, 3, (6, 8, 215, 0)), (14, .invokevirtual 54, 3, (31, 0, 631, 0)), (17, .ireturn, 1, (0, 0, 0, 0)), (18, .aload_n 0, 1, (0, 0, 0, 0)), (19, .getfield 48, 3, (6, 7, 214, 0)), (22, .bipush 98, 2, (0, 0, 0, 0)),
  (24, .if_icmp .ne 16, 3, (0, 0, 0, 0)), (27, .aload_n 1, 1, (0, 0, 0, 0)), (28, .aload_n 0, 1, (0, 0, 0, 0)), (29, .getfield 51, 3, (6, 8, 215, 0)), (32, .aload_n 0, 1, (0, 0, 0, 0)), (33, .getfield 60, 3, (6, 9, 216, 0)),
  (36, .invokevirtual 63, 3, (32, 0, 632, 0)), (39, .ireturn, 1, (0, 0, 0, 0)), (40, .aload_n 1, 1, (0, 0, 0, 0)), (41, .aload_n 2, 1, (0, 0, 0, 0)), (42, .invokevirtual 67, 3, (34, 0, 633, 0)), (45, .ireturn, 1, (0, 0, 0, 0))]
def mX6_call : ME := (yX6_call, cX6_call, 3, (some .int), 0, 2, 6, tX6_call)
def tX6_readCommand : List CI := [(0, .aload_n 0, 1, (0, 0, 0, 0)), (1, .aload_n 0, 1, (0, 0, 0, 0)), (2, .getfield 24, 3, (6, 2, 207, 0)), (5, .putfield 45, 3, (6, 6, 213, 0)), (8, .aload_n 0, 1, (0, 0, 0, 0)), (9, .aload_n 0, 1, (0, 0, 0, 0)),
  (10, .aload_n 0, 1, (0, 0, 0, 0)), (11, .getfield 45, 3, (6, 6, 213, 0)), (14, .invokevirtual 71, 3, (59, 0, 603, 0)), (17, .putfield 48, 3, (6, 7, 214, 0)), (20, .aload_n 0, 1, (0, 0, 0, 0)), (21, .dup, 1, (0, 0, 0, 0)),
  (22, .getfield 45, 3, (6, 6, 213, 0)), (25, .iconst 1, 1, (0, 0, 0, 0)), (26, .iadd, 1, (0, 0, 0, 0)), (27, .putfield 45, 3, (6, 6, 213, 0)), (30, .aload_n 0, 1, (0, 0, 0, 0)), (31, .getfield 48, 3, (6, 7, 214, 0)),
  (34, .bipush 108, 2, (0, 0, 0, 0)), (36, .if_icmp .ne 25, 3, (0, 0, 0, 0)), (39, .aload_n 0, 1, (0, 0, 0, 0)), (40, .invokevirtual 74, 3, (54, 0, 607, 0)), (43, .ifCond .eq 16, 3, (0, 0, 0, 0)), (46, .aload_n 0, 1, (0, 0, 0, 0)),
  (47, .bipush 59, 2, (0, 0, 0, 0)), (49, .invokevirtual 77, 3, (57, 0, 611, 0)), (52, .ifCond .eq 7, 3, (0, 0, 0, 0)), (55, .iconst 1, 1, (0, 0, 0, 0)), (56, .goto 4, 3, (0, 0, 0, 0)), (59, .iconst 0, 1, (0, 0, 0, 0)),
  (60, .ireturn, 1, (0, 0, 0, 0)), (61, .aload_n 0, 1, (0, 0, 0, 0)), (62, .getfield 48, 3, (6, 7, 214, 0)), (65, .bipush 98, 2, (0, 0, 0, 0)), (67, .if_icmp .ne 25, 3, (0, 0, 0, 0)), (70, .aload_n 0, 1, (0, 0, 0, 0)),
  (71, .invokevirtual 80, 3, (55, 0, 623, 0)), (74, .ifCond .eq 16, 3, (0, 0, 0, 0)), (77, .aload_n 0, 1, (0, 0, 0, 0)), (78, .bipush 59, 2, (0, 0, 0, 0)), (80, .invokevirtual 77, 3, (57, 0, 611, 0)), (83, .ifCond .eq 7, 3, (0, 0, 0, 0)),
  (86, .iconst 1, 1, (0, 0, 0, 0)), (87, .goto 4, 3, (0, 0, 0, 0)), (90, .iconst 0, 1, (0, 0, 0, 0)), (91, .ireturn, 1, (0, 0, 0, 0)), (92, .aload_n 0, 1, (0, 0, 0, 0)), (93, .getfield 48, 3, (6, 7, 214, 0)),
  (96, .bipush 114, 2, (0, 0, 0, 0)), (98, .if_icmp .ne 16, 3, (0, 0, 0, 0)), (101, .aload_n 0, 1, (0, 0, 0, 0)), (102, .bipush 59, 2, (0, 0, 0, 0)), (104, .invokevirtual 77, 3, (57, 0, 611, 0)), (107, .ifCond .eq 7, 3, (0, 0, 0, 0)),
  (110, .iconst 1, 1, (0, 0, 0, 0)), (111, .goto 4, 3, (0, 0, 0, 0)), (114, .iconst 0, 1, (0, 0, 0, 0)), (115, .ireturn, 1, (0, 0, 0, 0))]
def mX6_readCommand : ME := (yX6_readCommand, cX6_readCommand, 1, (some .boolean), 0, 0, 6, tX6_readCommand)
def tX6_readValue : List CI := [(0, .aload_n 0, 1, (0, 0, 0, 0)), (1, .bipush 45, 2, (0, 0, 0, 0)), (3, .invokevirtual 77, 3, (57, 0, 611, 0)), (6, .istore_n 1, 1, (0, 0, 0, 0)), (7, .aload_n 0, 1, (0, 0, 0, 0)), (8, .invokevirtual 83, 3, (56, 0, 615, 0)),
  (11, .istore_n 2, 1, (0, 0, 0, 0)), (12, .aload_n 0, 1, (0, 0, 0, 0)), (13, .iload_n 1, 1, (0, 0, 0, 0)), (14, .ifCond .eq 8, 3, (0, 0, 0, 0)), (17, .iload_n 2, 1, (0, 0, 0, 0)), (18, .ineg, 1, (0, 0, 0, 0)),
  (19, .goto 4, 3, (0, 0, 0, 0)), (22, .iload_n 2, 1, (0, 0, 0, 0)), (23, .putfield 51, 3, (6, 8, 215, 0)), (26, .iload_n 2, 1, (0, 0, 0, 0)), (27, .ifCond .lt 7, 3, (0, 0, 0, 0)), (30, .iconst 1, 1, (0, 0, 0, 0)),
  (31, .goto 4, 3, (0, 0, 0, 0)), (34, .iconst 0, 1, (0, 0, 0, 0)), (35, .ireturn, 1, (0, 0, 0, 0))]
def mX6_readValue : ME := (yX6_readValue, cX6_readValue, 3, (some .boolean), 0, 0, 6, tX6_readValue)
def tX6_readBid : List CI := [(0, .aload_n 0, 1, (0, 0, 0, 0)), (1, .aload_n 0, 1, (0, 0, 0, 0)), (2, .invokevirtual 83, 3, (56, 0, 615, 0)), (5, .putfield 51, 3, (6, 8, 215, 0)), (8, .aload_n 0, 1, (0, 0, 0, 0)), (9, .getfield 51, 3, (6, 8, 215, 0)),
  (12, .ifCond .lt 12, 3, (0, 0, 0, 0)), (15, .aload_n 0, 1, (0, 0, 0, 0)), (16, .bipush 44, 2, (0, 0, 0, 0)), (18, .invokevirtual 77, 3, (57, 0, 611, 0)), (21, .ifCond .ne 5, 3, (0, 0, 0, 0)), (24, .iconst 0, 1, (0, 0, 0, 0)),
  (25, .ireturn, 1, (0, 0, 0, 0)), (26, .aload_n 0, 1, (0, 0, 0, 0)), (27, .aload_n 0, 1, (0, 0, 0, 0)), (28, .invokevirtual 83, 3, (56, 0, 615, 0)), (31, .putfield 60, 3, (6, 9, 216, 0)), (34, .aload_n 0, 1, (0, 0, 0, 0)),
  (35, .getfield 60, 3, (6, 9, 216, 0)), (38, .ifCond .lt 7, 3, (0, 0, 0, 0)), (41, .iconst 1, 1, (0, 0, 0, 0)), (42, .goto 4, 3, (0, 0, 0, 0)), (45, .iconst 0, 1, (0, 0, 0, 0)), (46, .ireturn, 1, (0, 0, 0, 0))]
def mX6_readBid : ME := (yX6_readBid, cX6_readBid, 1, (some .boolean), 0, 0, 6, tX6_readBid)
def tX6_readNumber : List CI := [(0, .aload_n 0, 1, (0, 0, 0, 0)), (1, .aload_n 0, 1, (0, 0, 0, 0)), (2, .getfield 45, 3, (6, 6, 213, 0)), (5, .invokevirtual 87, 3, (58, 0, 619, 0)), (8, .istore_n 1, 1, (0, 0, 0, 0)), (9, .iload_n 1, 1, (0, 0, 0, 0)),
  (10, .ifCond .ge 5, 3, (0, 0, 0, 0)), (13, .iconst (-1), 1, (0, 0, 0, 0)), (14, .ireturn, 1, (0, 0, 0, 0)), (15, .aload_n 0, 1, (0, 0, 0, 0)), (16, .dup, 1, (0, 0, 0, 0)), (17, .getfield 45, 3, (6, 6, 213, 0)),
  (20, .iconst 1, 1, (0, 0, 0, 0)), (21, .iadd, 1, (0, 0, 0, 0)), (22, .putfield 45, 3, (6, 6, 213, 0)), (25, .aload_n 0, 1, (0, 0, 0, 0)), (26, .aload_n 0, 1, (0, 0, 0, 0)), (27, .getfield 45, 3, (6, 6, 213, 0)),
  (30, .invokevirtual 87, 3, (58, 0, 619, 0)), (33, .istore_n 2, 1, (0, 0, 0, 0)), (34, .iload_n 2, 1, (0, 0, 0, 0)), (35, .ifCond .ge 5, 3, (0, 0, 0, 0)), (38, .iload_n 1, 1, (0, 0, 0, 0)), (39, .ireturn, 1, (0, 0, 0, 0)),
  (40, .aload_n 0, 1, (0, 0, 0, 0)), (41, .dup, 1, (0, 0, 0, 0)), (42, .getfield 45, 3, (6, 6, 213, 0)), (45, .iconst 1, 1, (0, 0, 0, 0)), (46, .iadd, 1, (0, 0, 0, 0)), (47, .putfield 45, 3, (6, 6, 213, 0)),
  (50, .bipush 10, 2, (0, 0, 0, 0)), (52, .iload_n 1, 1, (0, 0, 0, 0)), (53, .imul, 1, (0, 0, 0, 0)), (54, .iload_n 2, 1, (0, 0, 0, 0)), (55, .iadd, 1, (0, 0, 0, 0)), (56, .ireturn, 1, (0, 0, 0, 0))]
def mX6_readNumber : ME := (yX6_readNumber, cX6_readNumber, 3, (some .int), 0, 0, 6, tX6_readNumber)
def tX6_passes : List CI := [(0, .aload_n 0, 1, (0, 0, 0, 0)), (1, .aload_n 0, 1, (0, 0, 0, 0)), (2, .getfield 45, 3, (6, 6, 213, 0)), (5, .invokevirtual 71, 3, (59, 0, 603, 0)), (8, .iload_n 1, 1, (0, 0, 0, 0)), (9, .if_icmp .eq 5, 3, (0, 0, 0, 0)),
  (12, .iconst 0, 1, (0, 0, 0, 0)), (13, .ireturn, 1, (0, 0, 0, 0)), (14, .aload_n 0, 1, (0, 0, 0, 0)), (15, .dup, 1, (0, 0, 0, 0)), (16, .getfield 45, 3, (6, 6, 213, 0)), (19, .iconst 1, 1, (0, 0, 0, 0)),
  (20, .iadd, 1, (0, 0, 0, 0)), (21, .putfield 45, 3, (6, 6, 213, 0)), (24, .iconst 1, 1, (0, 0, 0, 0)), (25, .ireturn, 1, (0, 0, 0, 0))]
def mX6_passes : ME := (yX6_passes, cX6_passes, 2, (some .boolean), 0, 1, 6, tX6_passes)
def tX6_digitAt : List CI := [(0, .aload_n 0, 1, (0, 0, 0, 0)), (1, .iload_n 1, 1, (0, 0, 0, 0)), (2, .invokevirtual 71, 3, (59, 0, 603, 0)), (5, .istore_n 2, 1, (0, 0, 0, 0)), (6, .iload_n 2, 1, (0, 0, 0, 0)), (7, .bipush 48, 2, (0, 0, 0, 0)),
  (9, .if_icmp .lt 16, 3, (0, 0, 0, 0)), (12, .iload_n 2, 1, (0, 0, 0, 0)), (13, .bipush 57, 2, (0, 0, 0, 0)), (15, .if_icmp .gt 10, 3, (0, 0, 0, 0)), (18, .iload_n 2, 1, (0, 0, 0, 0)), (19, .bipush 48, 2, (0, 0, 0, 0)),
  (21, .isub, 1, (0, 0, 0, 0)), (22, .goto 4, 3, (0, 0, 0, 0)), (25, .iconst (-1), 1, (0, 0, 0, 0)), (26, .ireturn, 1, (0, 0, 0, 0))]
def mX6_digitAt : ME := (yX6_digitAt, cX6_digitAt, 3, (some .int), 0, 1, 6, tX6_digitAt)
def tX6_characterAt : List CI := [(0, .iload_n 1, 1, (0, 0, 0, 0)), (1, .ifCond .lt 20, 3, (0, 0, 0, 0)), (4, .iload_n 1, 1, (0, 0, 0, 0)), (5, .aload_n 0, 1, (0, 0, 0, 0)), (6, .getfield 15, 3, (6, 1, 205, 0)), (9, .if_icmp .ge 12, 3, (0, 0, 0, 0)),
  (12, .aload_n 0, 1, (0, 0, 0, 0)), (13, .getfield 9, 3, (6, 0, 204, 0)), (16, .iload_n 1, 1, (0, 0, 0, 0)), (17, .iaload, 1, (0, 0, 0, 0)), (18, .goto 4, 3, (0, 0, 0, 0)), (21, .iconst (-1), 1, (0, 0, 0, 0)),
  (22, .ireturn, 1, (0, 0, 0, 0))]
def mX6_characterAt : ME := (yX6_characterAt, cX6_characterAt, 2, (some .int), 0, 1, 6, tX6_characterAt)
def tX7_init : List CI := [(0, .aload_n 0, 1, (0, 0, 0, 0)), (1, .invokespecial 1, 3, (43, 5, 0, 0)), (4, .aload_n 0, 1, (0, 0, 0, 0)), (5, .new 7, 3, (1, 2, 46, 0)), (8, .dup, 1, (0, 0, 0, 0)), (9, .invokespecial 9, 3, (7, 0, 48, 0)),
  (12, .putfield 10, 3, (7, 0, 284, 0)), (15, .aload_n 0, 1, (0, 0, 0, 0)), (16, .new 16, 3, (5, 17, 196, 0)), (19, .dup, 1, (0, 0, 0, 0)), (20, .invokespecial 18, 3, (28, 0, 197, 0)), (23, .putfield 19, 3, (7, 1, 285, 0)),
  (26, .aload_n 0, 1, (0, 0, 0, 0)), (27, .new 23, 3, (6, 10, 198, 0)), (30, .dup, 1, (0, 0, 0, 0)), (31, .invokespecial 25, 3, (48, 1, 2, 0)), (34, .putfield 26, 3, (7, 2, 286, 0)), (37, .aload_n 0, 1, (0, 0, 0, 0)),
  (38, .new 30, 3, (2, 6, 238, 0)), (41, .dup, 1, (0, 0, 0, 0)), (42, .invokespecial 32, 3, (10, 1, 3, 0)), (45, .putfield 33, 3, (7, 3, 287, 0)), (48, .aload_n 0, 1, (0, 0, 0, 0)), (49, .new 37, 3, (0, 2, 271, 0)),
  (52, .dup, 1, (0, 0, 0, 0)), (53, .aload_n 0, 1, (0, 0, 0, 0)), (54, .getfield 33, 3, (7, 3, 287, 0)), (57, .invokespecial 39, 3, (0, 0, 273, 0)), (60, .putfield 42, 3, (7, 4, 288, 0)), (63, .aload_n 0, 1, (0, 0, 0, 0)),
  (64, .new 16, 3, (5, 17, 196, 0)), (67, .dup, 1, (0, 0, 0, 0)), (68, .invokespecial 18, 3, (28, 0, 197, 0)), (71, .putfield 46, 3, (7, 5, 289, 0)), (74, .aload_n 0, 1, (0, 0, 0, 0)), (75, .new 16, 3, (5, 17, 196, 0)),
  (78, .dup, 1, (0, 0, 0, 0)), (79, .invokespecial 18, 3, (28, 0, 197, 0)), (82, .putfield 49, 3, (7, 6, 290, 0)), (85, .aload_n 0, 1, (0, 0, 0, 0)), (86, .iconst 0, 1, (0, 0, 0, 0)), (87, .putfield 52, 3, (7, 7, 291, 0)),
  (90, .return_, 1, (0, 0, 0, 0))]
def mX7_init : ME := (yX7_init, cX7_init, 1, none, 2, 0, 7, tX7_init)
def tX7_begin : List CI := [(0, .aload_n 0, 1, (0, 0, 0, 0)), (1, .aload_n 0, 1, (0, 0, 0, 0)), (2, .invokevirtual 56, 3, (84, 0, 313, 0)), (5, .iload_n 1, 1, (0, 0, 0, 0)), (6, .iload_n 2, 1, (0, 0, 0, 0)), (7, .invokevirtual 60, 3, (30, 0, 331, 0)),
  (10, .invokevirtual 64, 3, (85, 0, 332, 0)), (13, .ireturn, 1, (0, 0, 0, 0))]
def mX7_begin : ME := (yX7_begin, cX7_begin, 3, (some .int), 0, 2, 7, tX7_begin)
def tX7_lot : List CI := [(0, .aload_n 0, 1, (0, 0, 0, 0)), (1, .aload_n 0, 1, (0, 0, 0, 0)), (2, .invokevirtual 56, 3, (84, 0, 313, 0)), (5, .iload_n 1, 1, (0, 0, 0, 0)), (6, .invokevirtual 68, 3, (31, 0, 348, 0)), (9, .invokevirtual 64, 3, (85, 0, 332, 0)),
  (12, .ireturn, 1, (0, 0, 0, 0))]
def mX7_lot : ME := (yX7_lot, cX7_lot, 2, (some .int), 0, 1, 7, tX7_lot)
def tX7_bid : List CI := [(0, .aload_n 0, 1, (0, 0, 0, 0)), (1, .aload_n 0, 1, (0, 0, 0, 0)), (2, .invokevirtual 56, 3, (84, 0, 313, 0)), (5, .iload_n 1, 1, (0, 0, 0, 0)), (6, .iload_n 2, 1, (0, 0, 0, 0)), (7, .invokevirtual 71, 3, (32, 0, 357, 0)),
  (10, .invokevirtual 64, 3, (85, 0, 332, 0)), (13, .ireturn, 1, (0, 0, 0, 0))]
def mX7_bid : ME := (yX7_bid, cX7_bid, 3, (some .int), 0, 2, 7, tX7_bid)
def tX7_resolve : List CI := [(0, .aload_n 0, 1, (0, 0, 0, 0)), (1, .aload_n 0, 1, (0, 0, 0, 0)), (2, .invokevirtual 56, 3, (84, 0, 313, 0)), (5, .aload_n 0, 1, (0, 0, 0, 0)), (6, .getfield 33, 3, (7, 3, 287, 0)), (9, .invokevirtual 74, 3, (34, 0, 378, 0)),
  (12, .invokevirtual 64, 3, (85, 0, 332, 0)), (15, .ireturn, 1, (0, 0, 0, 0))]
def mX7_resolve : ME := (yX7_resolve, cX7_resolve, 1, (some .int), 0, 0, 7, tX7_resolve)
def tX7_set : List CI := [(0, .aload_n 0, 1, (0, 0, 0, 0)), (1, .aload_n 0, 1, (0, 0, 0, 0)), (2, .invokevirtual 56, 3, (84, 0, 313, 0)), (5, .iload_n 1, 1, (0, 0, 0, 0)), (6, .iload_n 2, 1, (0, 0, 0, 0)), (7, .invokevirtual 78, 3, (33, 0, 430, 0)),
  (10, .invokevirtual 64, 3, (85, 0, 332, 0)), (13, .ireturn, 1, (0, 0, 0, 0))]
def mX7_set : ME := (yX7_set, cX7_set, 3, (some .int), 0, 2, 7, tX7_set)
def tX7_playerOf : List CI := [(0, .aload_n 0, 1, (0, 0, 0, 0)), (1, .getfield 46, 3, (7, 5, 289, 0)), (4, .iload_n 1, 1, (0, 0, 0, 0)), (5, .iload_n 2, 1, (0, 0, 0, 0)), (6, .invokevirtual 81, 3, (45, 0, 440, 0)), (9, .ireturn, 1, (0, 0, 0, 0))]
def mX7_playerOf : ME := (yX7_playerOf, cX7_playerOf, 3, (some .int), 0, 2, 7, tX7_playerOf)
def tX7_lotOf : List CI := [(0, .aload_n 0, 1, (0, 0, 0, 0)), (1, .getfield 46, 3, (7, 5, 289, 0)), (4, .iload_n 1, 1, (0, 0, 0, 0)), (5, .iload_n 2, 1, (0, 0, 0, 0)), (6, .invokevirtual 84, 3, (46, 0, 448, 0)), (9, .ireturn, 1, (0, 0, 0, 0))]
def mX7_lotOf : ME := (yX7_lotOf, cX7_lotOf, 3, (some .int), 0, 2, 7, tX7_lotOf)
def tX7_roundOf : List CI := [(0, .aload_n 0, 1, (0, 0, 0, 0)), (1, .getfield 46, 3, (7, 5, 289, 0)), (4, .getfield 87, 3, (5, 15, 150, 0)), (7, .iload_n 1, 1, (0, 0, 0, 0)), (8, .iload_n 2, 1, (0, 0, 0, 0)), (9, .aload_n 0, 1, (0, 0, 0, 0)),
  (10, .getfield 46, 3, (7, 5, 289, 0)), (13, .getfield 91, 3, (5, 0, 123, 0)), (16, .invokevirtual 95, 3, (26, 0, 457, 0)), (19, .ireturn, 1, (0, 0, 0, 0))]
def mX7_roundOf : ME := (yX7_roundOf, cX7_roundOf, 3, (some .int), 0, 2, 7, tX7_roundOf)
def tX7_record : List CI := [(0, .aload_n 0, 1, (0, 0, 0, 0)), (1, .getfield 46, 3, (7, 5, 289, 0)), (4, .getfield 101, 3, (5, 16, 152, 0)), (7, .iload_n 1, 1, (0, 0, 0, 0)), (8, .iload_n 2, 1, (0, 0, 0, 0)), (9, .invokevirtual 105, 3, (21, 0, 470, 0)),
  (12, .ireturn, 1, (0, 0, 0, 0))]
def mX7_record : ME := (yX7_record, cX7_record, 3, (some .int), 0, 2, 7, tX7_record)
def tX7_count : List CI := [(0, .iload_n 1, 1, (0, 0, 0, 0)), (1, .tableswitch 56 10 12 #[27, 35, 43], 27, (0, 0, 0, 0)), (28, .aload_n 0, 1, (0, 0, 0, 0)), (29, .getfield 10, 3, (7, 0, 284, 0)), (32, .getfield 110, 3, (1, 1, 190, 0)), (35, .ireturn, 1, (0, 0, 0, 0)),
  (36, .aload_n 0, 1, (0, 0, 0, 0)), (37, .getfield 26, 3, (7, 2, 286, 0)), (40, .getfield 113, 3, (6, 1, 206, 0)), (43, .ireturn, 1, (0, 0, 0, 0)), (44, .aload_n 0, 1, (0, 0, 0, 0)), (45, .getfield 52, 3, (7, 7, 291, 0)),
  (48, .ifCond .eq 7, 3, (0, 0, 0, 0)), (51, .iconst 1, 1, (0, 0, 0, 0)), (52, .goto 4, 3, (0, 0, 0, 0)), (55, .iconst 0, 1, (0, 0, 0, 0)), (56, .ireturn, 1, (0, 0, 0, 0)), (57, .aload_n 0, 1, (0, 0, 0, 0)),
  (58, .getfield 46, 3, (7, 5, 289, 0)), (61, .iload_n 1, 1, (0, 0, 0, 0)), (62, .invokevirtual 116, 3, (47, 0, 480, 0)), (65, .ireturn, 1, (0, 0, 0, 0))]
def mX7_count : ME := (yX7_count, cX7_count, 2, (some .int), 0, 1, 7, tX7_count)
def tX7_winner : List CI := [(0, .aload_n 0, 1, (0, 0, 0, 0)), (1, .getfield 46, 3, (7, 5, 289, 0)), (4, .invokevirtual 119, 3, (43, 0, 488, 0)), (7, .ireturn, 1, (0, 0, 0, 0))]
def mX7_winner : ME := (yX7_winner, cX7_winner, 1, (some .int), 0, 0, 7, tX7_winner)
def tX7_sure : List CI := [(0, .aload_n 0, 1, (0, 0, 0, 0)), (1, .getfield 46, 3, (7, 5, 289, 0)), (4, .iload_n 1, 1, (0, 0, 0, 0)), (5, .invokevirtual 123, 3, (36, 0, 496, 0)), (8, .ifCond .ne 6, 3, (0, 0, 0, 0)), (11, .ldc 127, 2, (339, 0, 0, -1000001)),
  (13, .ireturn, 1, (0, 0, 0, 0)), (14, .aload_n 0, 1, (0, 0, 0, 0)), (15, .getfield 46, 3, (7, 5, 289, 0)), (18, .invokevirtual 128, 3, (37, 0, 497, 0)), (21, .ifCond .eq 6, 3, (0, 0, 0, 0)), (24, .ldc 132, 2, (498, 0, 0, -1000002)),
  (26, .ireturn, 1, (0, 0, 0, 0)), (27, .aload_n 0, 1, (0, 0, 0, 0)), (28, .getfield 46, 3, (7, 5, 289, 0)), (31, .iload_n 1, 1, (0, 0, 0, 0)), (32, .invokevirtual 133, 3, (41, 0, 499, 0)), (35, .iconst 1, 1, (0, 0, 0, 0)),
  (36, .iadd, 1, (0, 0, 0, 0)), (37, .istore_n 2, 1, (0, 0, 0, 0)), (38, .iload_n 2, 1, (0, 0, 0, 0)), (39, .aload_n 0, 1, (0, 0, 0, 0)), (40, .getfield 46, 3, (7, 5, 289, 0)), (43, .getfield 136, 3, (5, 7, 137, 0)),
  (46, .iload_n 1, 1, (0, 0, 0, 0)), (47, .iaload, 1, (0, 0, 0, 0)), (48, .if_icmp .gt 7, 3, (0, 0, 0, 0)), (51, .iload_n 2, 1, (0, 0, 0, 0)), (52, .goto 5, 3, (0, 0, 0, 0)), (55, .ldc 140, 2, (506, 0, 0, -1000004)),
  (57, .ireturn, 1, (0, 0, 0, 0))]
def mX7_sure : ME := (yX7_sure, cX7_sure, 3, (some .int), 0, 1, 7, tX7_sure)
def tX7_reply : List CI := [(0, .aload_n 0, 1, (0, 0, 0, 0)), (1, .getfield 46, 3, (7, 5, 289, 0)), (4, .iload_n 1, 1, (0, 0, 0, 0)), (5, .invokevirtual 123, 3, (36, 0, 496, 0)), (8, .ifCond .ne 6, 3, (0, 0, 0, 0)), (11, .ldc 127, 2, (339, 0, 0, -1000001)),
  (13, .ireturn, 1, (0, 0, 0, 0)), (14, .aload_n 0, 1, (0, 0, 0, 0)), (15, .getfield 46, 3, (7, 5, 289, 0)), (18, .invokevirtual 128, 3, (37, 0, 497, 0)), (21, .ifCond .ne 14, 3, (0, 0, 0, 0)), (24, .aload_n 0, 1, (0, 0, 0, 0)),
  (25, .getfield 46, 3, (7, 5, 289, 0)), (28, .iload_n 1, 1, (0, 0, 0, 0)), (29, .invokevirtual 141, 3, (40, 0, 511, 0)), (32, .ifCond .ne 6, 3, (0, 0, 0, 0)), (35, .ldc 132, 2, (498, 0, 0, -1000002)), (37, .ireturn, 1, (0, 0, 0, 0)),
  (38, .aload_n 0, 1, (0, 0, 0, 0)), (39, .getfield 42, 3, (7, 4, 288, 0)), (42, .aload_n 0, 1, (0, 0, 0, 0)), (43, .getfield 46, 3, (7, 5, 289, 0)), (46, .iload_n 1, 1, (0, 0, 0, 0)), (47, .invokevirtual 144, 3, (1, 0, 515, 0)),
  (50, .ireturn, 1, (0, 0, 0, 0))]
def mX7_reply : ME := (yX7_reply, cX7_reply, 2, (some .int), 0, 1, 7, tX7_reply)
def tX7_holds : List CI := [(0, .aload_n 0, 1, (0, 0, 0, 0)), (1, .getfield 46, 3, (7, 5, 289, 0)), (4, .iload_n 1, 1, (0, 0, 0, 0)), (5, .invokevirtual 123, 3, (36, 0, 496, 0)), (8, .ifCond .eq 12, 3, (0, 0, 0, 0)), (11, .iload_n 2, 1, (0, 0, 0, 0)),
  (12, .ifCond .lt 8, 3, (0, 0, 0, 0)), (15, .iload_n 2, 1, (0, 0, 0, 0)), (16, .iconst 2, 1, (0, 0, 0, 0)), (17, .if_icmp .le 6, 3, (0, 0, 0, 0)), (20, .ldc 127, 2, (339, 0, 0, -1000001)), (22, .ireturn, 1, (0, 0, 0, 0)),
  (23, .aload_n 0, 1, (0, 0, 0, 0)), (24, .getfield 46, 3, (7, 5, 289, 0)), (27, .getfield 91, 3, (5, 0, 123, 0)), (30, .iconst 2, 1, (0, 0, 0, 0)), (31, .if_icmp .eq 6, 3, (0, 0, 0, 0)), (34, .ldc 132, 2, (498, 0, 0, -1000002)),
  (36, .ireturn, 1, (0, 0, 0, 0)), (37, .aload_n 0, 1, (0, 0, 0, 0)), (38, .getfield 46, 3, (7, 5, 289, 0)), (41, .getfield 148, 3, (5, 8, 139, 0)), (44, .iload_n 1, 1, (0, 0, 0, 0)), (45, .iaload, 1, (0, 0, 0, 0)),
  (46, .aload_n 0, 1, (0, 0, 0, 0)), (47, .getfield 46, 3, (7, 5, 289, 0)), (50, .getfield 148, 3, (5, 8, 139, 0)), (53, .iconst 1, 1, (0, 0, 0, 0)), (54, .iload_n 1, 1, (0, 0, 0, 0)), (55, .isub, 1, (0, 0, 0, 0)),
  (56, .iaload, 1, (0, 0, 0, 0)), (57, .isub, 1, (0, 0, 0, 0)), (58, .istore_n 3, 1, (0, 0, 0, 0)), (59, .iload_n 2, 1, (0, 0, 0, 0)), (60, .ifCond .eq 13, 3, (0, 0, 0, 0)), (63, .aload_n 0, 1, (0, 0, 0, 0)),
  (64, .getfield 46, 3, (7, 5, 289, 0)), (67, .invokevirtual 128, 3, (37, 0, 497, 0)), (70, .ifCond .eq 5, 3, (0, 0, 0, 0)), (73, .iload_n 3, 1, (0, 0, 0, 0)), (74, .ireturn, 1, (0, 0, 0, 0)), (75, .iload_n 3, 1, (0, 0, 0, 0)),
  (76, .aload_n 0, 1, (0, 0, 0, 0)), (77, .getfield 42, 3, (7, 4, 288, 0)), (80, .aload_n 0, 1, (0, 0, 0, 0)), (81, .getfield 46, 3, (7, 5, 289, 0)), (84, .iload_n 1, 1, (0, 0, 0, 0)), (85, .iload_n 2, 1, (0, 0, 0, 0)),
  (86, .invokevirtual 151, 3, (3, 0, 528, 0)), (89, .iadd, 1, (0, 0, 0, 0)), (90, .ireturn, 1, (0, 0, 0, 0))]
def mX7_holds : ME := (yX7_holds, cX7_holds, 4, (some .int), 0, 2, 7, tX7_holds)
def tX7_holding : List CI := [(0, .aload_n 0, 1, (0, 0, 0, 0)), (1, .getfield 46, 3, (7, 5, 289, 0)), (4, .iload_n 1, 1, (0, 0, 0, 0)), (5, .invokevirtual 123, 3, (36, 0, 496, 0)), (8, .ifCond .eq 13, 3, (0, 0, 0, 0)), (11, .iload_n 2, 1, (0, 0, 0, 0)),
  (12, .iconst 1, 1, (0, 0, 0, 0)), (13, .if_icmp .lt 8, 3, (0, 0, 0, 0)), (16, .iload_n 2, 1, (0, 0, 0, 0)), (17, .iconst 2, 1, (0, 0, 0, 0)), (18, .if_icmp .le 6, 3, (0, 0, 0, 0)), (21, .ldc 127, 2, (339, 0, 0, -1000001)),
  (23, .ireturn, 1, (0, 0, 0, 0)), (24, .aload_n 0, 1, (0, 0, 0, 0)), (25, .getfield 46, 3, (7, 5, 289, 0)), (28, .getfield 91, 3, (5, 0, 123, 0)), (31, .iconst 2, 1, (0, 0, 0, 0)), (32, .if_icmp .ne 13, 3, (0, 0, 0, 0)),
  (35, .aload_n 0, 1, (0, 0, 0, 0)), (36, .getfield 46, 3, (7, 5, 289, 0)), (39, .invokevirtual 128, 3, (37, 0, 497, 0)), (42, .ifCond .eq 6, 3, (0, 0, 0, 0)), (45, .ldc 132, 2, (498, 0, 0, -1000002)), (47, .ireturn, 1, (0, 0, 0, 0)),
  (48, .aload_n 0, 1, (0, 0, 0, 0)), (49, .getfield 42, 3, (7, 4, 288, 0)), (52, .aload_n 0, 1, (0, 0, 0, 0)), (53, .getfield 46, 3, (7, 5, 289, 0)), (56, .iload_n 1, 1, (0, 0, 0, 0)), (57, .iload_n 2, 1, (0, 0, 0, 0)),
  (58, .invokevirtual 155, 3, (2, 0, 553, 0)), (61, .ireturn, 1, (0, 0, 0, 0))]
def mX7_holding : ME := (yX7_holding, cX7_holding, 3, (some .int), 0, 2, 7, tX7_holding)
def tX7_chance : List CI := [(0, .aload_n 0, 1, (0, 0, 0, 0)), (1, .getfield 46, 3, (7, 5, 289, 0)), (4, .iload_n 1, 1, (0, 0, 0, 0)), (5, .invokevirtual 123, 3, (36, 0, 496, 0)), (8, .ifCond .ne 6, 3, (0, 0, 0, 0)), (11, .ldc 127, 2, (339, 0, 0, -1000001)),
  (13, .ireturn, 1, (0, 0, 0, 0)), (14, .aload_n 0, 1, (0, 0, 0, 0)), (15, .getfield 46, 3, (7, 5, 289, 0)), (18, .iload_n 1, 1, (0, 0, 0, 0)), (19, .invokevirtual 158, 3, (44, 0, 558, 0)), (22, .ifCond .eq 7, 3, (0, 0, 0, 0)),
  (25, .iconst 1, 1, (0, 0, 0, 0)), (26, .goto 4, 3, (0, 0, 0, 0)), (29, .iconst 0, 1, (0, 0, 0, 0)), (30, .ireturn, 1, (0, 0, 0, 0))]
def mX7_chance : ME := (yX7_chance, cX7_chance, 2, (some .int), 0, 1, 7, tX7_chance)
def tX7_keep : List CI := [(0, .aload_n 0, 1, (0, 0, 0, 0)), (1, .getfield 19, 3, (7, 1, 285, 0)), (4, .aload_n 0, 1, (0, 0, 0, 0)), (5, .getfield 46, 3, (7, 5, 289, 0)), (8, .invokevirtual 161, 3, (29, 0, 317, 0)), (11, .aload_n 0, 1, (0, 0, 0, 0)),
  (12, .iconst 1, 1, (0, 0, 0, 0)), (13, .putfield 52, 3, (7, 7, 291, 0)), (16, .aload_n 0, 1, (0, 0, 0, 0)), (17, .getfield 46, 3, (7, 5, 289, 0)), (20, .getfield 165, 3, (5, 2, 127, 0)), (23, .ireturn, 1, (0, 0, 0, 0))]
def mX7_keep : ME := (yX7_keep, cX7_keep, 1, (some .int), 0, 0, 7, tX7_keep)
def tX7_restore : List CI := [(0, .aload_n 0, 1, (0, 0, 0, 0)), (1, .getfield 52, 3, (7, 7, 291, 0)), (4, .ifCond .ne 6, 3, (0, 0, 0, 0)), (7, .ldc 132, 2, (498, 0, 0, -1000002)), (9, .ireturn, 1, (0, 0, 0, 0)), (10, .aload_n 0, 1, (0, 0, 0, 0)),
  (11, .getfield 49, 3, (7, 6, 290, 0)), (14, .aload_n 0, 1, (0, 0, 0, 0)), (15, .getfield 19, 3, (7, 1, 285, 0)), (18, .invokevirtual 161, 3, (29, 0, 317, 0)), (21, .aload_n 0, 1, (0, 0, 0, 0)), (22, .aload_n 0, 1, (0, 0, 0, 0)),
  (23, .getfield 49, 3, (7, 6, 290, 0)), (26, .getfield 165, 3, (5, 2, 127, 0)), (29, .invokevirtual 64, 3, (85, 0, 332, 0)), (32, .ireturn, 1, (0, 0, 0, 0))]
def mX7_restore : ME := (yX7_restore, cX7_restore, 1, (some .int), 0, 0, 7, tX7_restore)
def tX7_undo : List CI := [(0, .aload_n 0, 1, (0, 0, 0, 0)), (1, .getfield 10, 3, (7, 0, 284, 0)), (4, .getfield 110, 3, (1, 1, 190, 0)), (7, .ifCond .ne 6, 3, (0, 0, 0, 0)), (10, .ldc 132, 2, (498, 0, 0, -1000002)), (12, .ireturn, 1, (0, 0, 0, 0)),
  (13, .aload_n 0, 1, (0, 0, 0, 0)), (14, .aload_n 0, 1, (0, 0, 0, 0)), (15, .getfield 10, 3, (7, 0, 284, 0)), (18, .aload_n 0, 1, (0, 0, 0, 0)), (19, .getfield 46, 3, (7, 5, 289, 0)), (22, .invokevirtual 168, 3, (9, 0, 574, 0)),
  (25, .putfield 46, 3, (7, 5, 289, 0)), (28, .aload_n 0, 1, (0, 0, 0, 0)), (29, .getfield 10, 3, (7, 0, 284, 0)), (32, .getfield 110, 3, (1, 1, 190, 0)), (35, .ireturn, 1, (0, 0, 0, 0))]
def mX7_undo : ME := (yX7_undo, cX7_undo, 1, (some .int), 0, 0, 7, tX7_undo)
def tX7_type : List CI := [(0, .iload_n 1, 1, (0, 0, 0, 0)), (1, .bipush 32, 2, (0, 0, 0, 0)), (3, .if_icmp .lt 9, 3, (0, 0, 0, 0)), (6, .iload_n 1, 1, (0, 0, 0, 0)), (7, .bipush 126, 2, (0, 0, 0, 0)), (9, .if_icmp .le 6, 3, (0, 0, 0, 0)),
  (12, .ldc 127, 2, (339, 0, 0, -1000001)), (14, .ireturn, 1, (0, 0, 0, 0)), (15, .aload_n 0, 1, (0, 0, 0, 0)), (16, .getfield 26, 3, (7, 2, 286, 0)), (19, .iload_n 1, 1, (0, 0, 0, 0)), (20, .invokevirtual 172, 3, (49, 0, 582, 0)),
  (23, .ireturn, 1, (0, 0, 0, 0))]
def mX7_type : ME := (yX7_type, cX7_type, 2, (some .int), 0, 1, 7, tX7_type)
def tX7_clearText : List CI := [(0, .aload_n 0, 1, (0, 0, 0, 0)), (1, .getfield 26, 3, (7, 2, 286, 0)), (4, .getfield 113, 3, (6, 1, 206, 0)), (7, .istore_n 1, 1, (0, 0, 0, 0)), (8, .aload_n 0, 1, (0, 0, 0, 0)), (9, .getfield 26, 3, (7, 2, 286, 0)),
  (12, .iconst 0, 1, (0, 0, 0, 0)), (13, .putfield 113, 3, (6, 1, 206, 0)), (16, .iload_n 1, 1, (0, 0, 0, 0)), (17, .ireturn, 1, (0, 0, 0, 0))]
def mX7_clearText : ME := (yX7_clearText, cX7_clearText, 2, (some .int), 0, 0, 7, tX7_clearText)
def tX7_fault : List CI := [(0, .iload_n 1, 1, (0, 0, 0, 0)), (1, .ifCond .lt 8, 3, (0, 0, 0, 0)), (4, .iload_n 1, 1, (0, 0, 0, 0)), (5, .iconst 2, 1, (0, 0, 0, 0)), (6, .if_icmp .le 6, 3, (0, 0, 0, 0)), (9, .ldc 127, 2, (339, 0, 0, -1000001)),
  (11, .ireturn, 1, (0, 0, 0, 0)), (12, .aload_n 0, 1, (0, 0, 0, 0)), (13, .getfield 26, 3, (7, 2, 286, 0)), (16, .aload_n 0, 1, (0, 0, 0, 0)), (17, .invokevirtual 56, 3, (84, 0, 313, 0)), (20, .aload_n 0, 1, (0, 0, 0, 0)),
  (21, .getfield 33, 3, (7, 3, 287, 0)), (24, .invokevirtual 175, 3, (51, 0, 595, 0)), (27, .aload_n 0, 1, (0, 0, 0, 0)), (28, .getfield 26, 3, (7, 2, 286, 0)), (31, .iload_n 1, 1, (0, 0, 0, 0)), (32, .invokevirtual 179, 3, (50, 0, 635, 0)),
  (35, .ireturn, 1, (0, 0, 0, 0))]
def mX7_fault : ME := (yX7_fault, cX7_fault, 2, (some .int), 0, 1, 7, tX7_fault)
def tX7_play : List CI := [(0, .aload_n 0, 1, (0, 0, 0, 0)), (1, .getfield 26, 3, (7, 2, 286, 0)), (4, .aload_n 0, 1, (0, 0, 0, 0)), (5, .invokevirtual 56, 3, (84, 0, 313, 0)), (8, .aload_n 0, 1, (0, 0, 0, 0)), (9, .getfield 33, 3, (7, 3, 287, 0)),
  (12, .invokevirtual 175, 3, (51, 0, 595, 0)), (15, .aload_n 0, 1, (0, 0, 0, 0)), (16, .getfield 26, 3, (7, 2, 286, 0)), (19, .getfield 182, 3, (6, 3, 209, 0)), (22, .ifCond .ne 17, 3, (0, 0, 0, 0)), (25, .aload_n 0, 1, (0, 0, 0, 0)),
  (26, .aload_n 0, 1, (0, 0, 0, 0)), (27, .getfield 26, 3, (7, 2, 286, 0)), (30, .getfield 185, 3, (6, 5, 212, 0)), (33, .invokevirtual 64, 3, (85, 0, 332, 0)), (36, .goto 5, 3, (0, 0, 0, 0)), (39, .ldc 132, 2, (498, 0, 0, -1000002)),
  (41, .ireturn, 1, (0, 0, 0, 0))]
def mX7_play : ME := (yX7_play, cX7_play, 1, (some .int), 0, 0, 7, tX7_play)
def tX7_freshDraft : List CI := [(0, .aload_n 0, 1, (0, 0, 0, 0)), (1, .getfield 49, 3, (7, 6, 290, 0)), (4, .aload_n 0, 1, (0, 0, 0, 0)), (5, .getfield 46, 3, (7, 5, 289, 0)), (8, .invokevirtual 161, 3, (29, 0, 317, 0)), (11, .aload_n 0, 1, (0, 0, 0, 0)),
  (12, .getfield 49, 3, (7, 6, 290, 0)), (15, .areturn, 1, (0, 0, 0, 0))]
def mX7_freshDraft : ME := (yX7_freshDraft, cX7_freshDraft, 1, (some (.object "HiddenBids$State")), 0, 0, 7, tX7_freshDraft)
def tX7_adopt : List CI := [(0, .iload_n 1, 1, (0, 0, 0, 0)), (1, .invokestatic 188, 3, (86, 0, 336, 0)), (4, .ifCond .eq 5, 3, (0, 0, 0, 0)), (7, .iload_n 1, 1, (0, 0, 0, 0)), (8, .ireturn, 1, (0, 0, 0, 0)), (9, .aload_n 0, 1, (0, 0, 0, 0)),
  (10, .getfield 10, 3, (7, 0, 284, 0)), (13, .aload_n 0, 1, (0, 0, 0, 0)), (14, .getfield 46, 3, (7, 5, 289, 0)), (17, .invokevirtual 191, 3, (8, 0, 340, 0)), (20, .astore_n 2, 1, (0, 0, 0, 0)), (21, .aload_n 0, 1, (0, 0, 0, 0)),
  (22, .aload_n 0, 1, (0, 0, 0, 0)), (23, .getfield 49, 3, (7, 6, 290, 0)), (26, .putfield 46, 3, (7, 5, 289, 0)), (29, .aload_n 0, 1, (0, 0, 0, 0)), (30, .aload_n 2, 1, (0, 0, 0, 0)), (31, .putfield 49, 3, (7, 6, 290, 0)),
  (34, .iload_n 1, 1, (0, 0, 0, 0)), (35, .ireturn, 1, (0, 0, 0, 0))]
def mX7_adopt : ME := (yX7_adopt, cX7_adopt, 3, (some .int), 0, 1, 7, tX7_adopt)
def tX7_isError : List CI := [(0, .iload_n 0, 1, (0, 0, 0, 0)), (1, .ldc 127, 2, (339, 0, 0, -1000001)), (3, .if_icmp .gt 7, 3, (0, 0, 0, 0)), (6, .iconst 1, 1, (0, 0, 0, 0)), (7, .goto 4, 3, (0, 0, 0, 0)), (10, .iconst 0, 1, (0, 0, 0, 0)),
  (11, .ireturn, 1, (0, 0, 0, 0))]
def mX7_isError : ME := (yX7_isError, cX7_isError, 1, (some .boolean), 1, 1, 7, tX7_isError)
def tX8_init : List CI := [(0, .aload_n 0, 1, (0, 0, 0, 0)), (1, .invokespecial 1, 3, (649, 5, 0, 0)), (4, .aload_n 0, 1, (0, 0, 0, 0)), (5, .sipush 2107, 3, (0, 0, 0, 0)), (8, .newarray .int, 2, (0, 0, 0, 0)), (10, .putfield 7, 3, (8, 0, 657, 0)),
  (13, .aload_n 0, 1, (0, 0, 0, 0)), (14, .sipush 8428, 3, (0, 0, 0, 0)), (17, .newarray .int, 2, (0, 0, 0, 0)), (19, .putfield 13, 3, (8, 1, 658, 0)), (22, .aload_n 0, 1, (0, 0, 0, 0)), (23, .sipush 2107, 3, (0, 0, 0, 0)),
  (26, .newarray .int, 2, (0, 0, 0, 0)), (28, .putfield 16, 3, (8, 2, 659, 0)), (31, .aload_n 0, 1, (0, 0, 0, 0)), (32, .sipush 2107, 3, (0, 0, 0, 0)), (35, .newarray .int, 2, (0, 0, 0, 0)), (37, .putfield 19, 3, (8, 3, 660, 0)),
  (40, .aload_n 0, 1, (0, 0, 0, 0)), (41, .sipush 2107, 3, (0, 0, 0, 0)), (44, .newarray .int, 2, (0, 0, 0, 0)), (46, .putfield 22, 3, (8, 4, 661, 0)), (49, .aload_n 0, 1, (0, 0, 0, 0)), (50, .bipush 60, 2, (0, 0, 0, 0)),
  (52, .newarray .int, 2, (0, 0, 0, 0)), (54, .putfield 25, 3, (8, 8, 665, 0)), (57, .aload_n 0, 1, (0, 0, 0, 0)), (58, .iconst 2, 1, (0, 0, 0, 0)), (59, .newarray .int, 2, (0, 0, 0, 0)), (61, .putfield 28, 3, (8, 21, 678, 0)),
  (64, .aload_n 0, 1, (0, 0, 0, 0)), (65, .getfield 7, 3, (8, 0, 657, 0)), (68, .bipush 26, 2, (0, 0, 0, 0)), (70, .iconst 1, 1, (0, 0, 0, 0)), (71, .iastore, 1, (0, 0, 0, 0)), (72, .aload_n 0, 1, (0, 0, 0, 0)),
  (73, .getfield 7, 3, (8, 0, 657, 0)), (76, .bipush 28, 2, (0, 0, 0, 0)), (78, .iconst 1, 1, (0, 0, 0, 0)), (79, .iastore, 1, (0, 0, 0, 0)), (80, .aload_n 0, 1, (0, 0, 0, 0)), (81, .iconst 2, 1, (0, 0, 0, 0)),
  (82, .bipush 20, 2, (0, 0, 0, 0)), (84, .invokevirtual 31, 3, (93, 0, 650, 0)), (87, .return_, 1, (0, 0, 0, 0))]
def mX8_init : ME := (yX8_init, cX8_init, 1, none, 2, 0, 8, tX8_init)
def tX8_in : List CI := [(0, .iload_n 0, 1, (0, 0, 0, 0)), (1, .iload_n 1, 1, (0, 0, 0, 0)), (2, .if_icmp .lt 12, 3, (0, 0, 0, 0)), (5, .iload_n 0, 1, (0, 0, 0, 0)), (6, .iload_n 2, 1, (0, 0, 0, 0)), (7, .if_icmp .gt 7, 3, (0, 0, 0, 0)),
  (10, .iconst 1, 1, (0, 0, 0, 0)), (11, .goto 4, 3, (0, 0, 0, 0)), (14, .iconst 0, 1, (0, 0, 0, 0)), (15, .ireturn, 1, (0, 0, 0, 0))]
def mX8_in : ME := (yX8_in, cX8_in, 3, (some .boolean), 1, 3, 8, tX8_in)
def tX8_copies : List CI := [(0, .iconst 0, 1, (0, 0, 0, 0)), (1, .istore_n 2, 1, (0, 0, 0, 0)), (2, .iload_n 2, 1, (0, 0, 0, 0)), (3, .sipush 2107, 3, (0, 0, 0, 0)), (6, .if_icmp .ge 15, 3, (0, 0, 0, 0)), (9, .aload_n 1, 1, (0, 0, 0, 0)),
  (10, .iload_n 2, 1, (0, 0, 0, 0)), (11, .aload_n 0, 1, (0, 0, 0, 0)), (12, .iload_n 2, 1, (0, 0, 0, 0)), (13, .iaload, 1, (0, 0, 0, 0)), (14, .iastore, 1, (0, 0, 0, 0)), (15, .iinc 2 1, 3, (0, 0, 0, 0)),
  (18, .goto (-16), 3, (0, 0, 0, 0)), (21, .return_, 1, (0, 0, 0, 0))]
def mX8_copies : ME := (yX8_copies, cX8_copies, 3, none, 1, 2, 8, tX8_copies)
def tX8_changes : List CI := [(0, .aload_n 0, 1, (0, 0, 0, 0)), (1, .getfield 35, 3, (8, 7, 664, 0)), (4, .ifCond .eq 4, 3, (0, 0, 0, 0)), (7, .return_, 1, (0, 0, 0, 0)), (8, .aload_n 0, 1, (0, 0, 0, 0)), (9, .getfield 39, 3, (8, 6, 663, 0)),
  (12, .iconst 4, 1, (0, 0, 0, 0)), (13, .if_icmp .ne 44, 3, (0, 0, 0, 0)), (16, .iconst 0, 1, (0, 0, 0, 0)), (17, .istore_n 1, 1, (0, 0, 0, 0)), (18, .iload_n 1, 1, (0, 0, 0, 0)), (19, .sipush 6321, 3, (0, 0, 0, 0)),
  (22, .if_icmp .ge 25, 3, (0, 0, 0, 0)), (25, .aload_n 0, 1, (0, 0, 0, 0)), (26, .getfield 13, 3, (8, 1, 658, 0)), (29, .iload_n 1, 1, (0, 0, 0, 0)), (30, .aload_n 0, 1, (0, 0, 0, 0)), (31, .getfield 13, 3, (8, 1, 658, 0)),
  (34, .iload_n 1, 1, (0, 0, 0, 0)), (35, .sipush 2107, 3, (0, 0, 0, 0)), (38, .iadd, 1, (0, 0, 0, 0)), (39, .iaload, 1, (0, 0, 0, 0)), (40, .iastore, 1, (0, 0, 0, 0)), (41, .iinc 1 1, 3, (0, 0, 0, 0)),
  (44, .goto (-26), 3, (0, 0, 0, 0)), (47, .aload_n 0, 1, (0, 0, 0, 0)), (48, .dup, 1, (0, 0, 0, 0)), (49, .getfield 39, 3, (8, 6, 663, 0)), (52, .iconst 1, 1, (0, 0, 0, 0)), (53, .isub, 1, (0, 0, 0, 0)),
  (54, .putfield 39, 3, (8, 6, 663, 0)), (57, .iconst 0, 1, (0, 0, 0, 0)), (58, .istore_n 1, 1, (0, 0, 0, 0)), (59, .iload_n 1, 1, (0, 0, 0, 0)), (60, .sipush 2107, 3, (0, 0, 0, 0)), (63, .if_icmp .ge 30, 3, (0, 0, 0, 0)),
  (66, .aload_n 0, 1, (0, 0, 0, 0)), (67, .getfield 13, 3, (8, 1, 658, 0)), (70, .sipush 2107, 3, (0, 0, 0, 0)), (73, .aload_n 0, 1, (0, 0, 0, 0)), (74, .getfield 39, 3, (8, 6, 663, 0)), (77, .imul, 1, (0, 0, 0, 0)),
  (78, .iload_n 1, 1, (0, 0, 0, 0)), (79, .iadd, 1, (0, 0, 0, 0)), (80, .aload_n 0, 1, (0, 0, 0, 0)), (81, .getfield 7, 3, (8, 0, 657, 0)), (84, .iload_n 1, 1, (0, 0, 0, 0)), (85, .iaload, 1, (0, 0, 0, 0)),
  (86, .iastore, 1, (0, 0, 0, 0)), (87, .iinc 1 1, 3, (0, 0, 0, 0)), (90, .goto (-31), 3, (0, 0, 0, 0)), (93, .aload_n 0, 1, (0, 0, 0, 0)), (94, .dup, 1, (0, 0, 0, 0)), (95, .getfield 39, 3, (8, 6, 663, 0)),
  (98, .iconst 1, 1, (0, 0, 0, 0)), (99, .iadd, 1, (0, 0, 0, 0)), (100, .putfield 39, 3, (8, 6, 663, 0)), (103, .return_, 1, (0, 0, 0, 0))]
def mX8_changes : ME := (yX8_changes, cX8_changes, 2, none, 0, 0, 8, tX8_changes)
def tX8_isPlayer : List CI := [(0, .iload_n 1, 1, (0, 0, 0, 0)), (1, .ifCond .lt 17, 3, (0, 0, 0, 0)), (4, .iload_n 1, 1, (0, 0, 0, 0)), (5, .aload_n 0, 1, (0, 0, 0, 0)), (6, .getfield 7, 3, (8, 0, 657, 0)), (9, .iconst 0, 1, (0, 0, 0, 0)),
  (10, .iaload, 1, (0, 0, 0, 0)), (11, .if_icmp .ge 7, 3, (0, 0, 0, 0)), (14, .iconst 1, 1, (0, 0, 0, 0)), (15, .goto 4, 3, (0, 0, 0, 0)), (18, .iconst 0, 1, (0, 0, 0, 0)), (19, .ireturn, 1, (0, 0, 0, 0))]
def mX8_isPlayer : ME := (yX8_isPlayer, cX8_isPlayer, 2, (some .boolean), 0, 1, 8, tX8_isPlayer)
def tX8_of : List CI := [(0, .aload_n 0, 1, (0, 0, 0, 0)), (1, .getfield 7, 3, (8, 0, 657, 0)), (4, .bipush 126, 2, (0, 0, 0, 0)), (6, .bipush 6, 2, (0, 0, 0, 0)), (8, .iload_n 1, 1, (0, 0, 0, 0)), (9, .imul, 1, (0, 0, 0, 0)),
  (10, .iadd, 1, (0, 0, 0, 0)), (11, .iload_n 2, 1, (0, 0, 0, 0)), (12, .iadd, 1, (0, 0, 0, 0)), (13, .iaload, 1, (0, 0, 0, 0)), (14, .ireturn, 1, (0, 0, 0, 0))]
def mX8_of : ME := (yX8_of, cX8_of, 3, (some .int), 0, 2, 8, tX8_of)
def tX8_begins : List CI := [(0, .iconst 0, 1, (0, 0, 0, 0)), (1, .istore_n 3, 1, (0, 0, 0, 0)), (2, .iload_n 3, 1, (0, 0, 0, 0)), (3, .sipush 2087, 3, (0, 0, 0, 0)), (6, .if_icmp .ge 36, 3, (0, 0, 0, 0)), (9, .aload_n 0, 1, (0, 0, 0, 0)),
  (10, .getfield 7, 3, (8, 0, 657, 0)), (13, .iload_n 3, 1, (0, 0, 0, 0)), (14, .iload_n 3, 1, (0, 0, 0, 0)), (15, .bipush 26, 2, (0, 0, 0, 0)), (17, .bipush 28, 2, (0, 0, 0, 0)), (19, .invokestatic 43, 3, (88, 0, 654, 0)),
  (22, .ifCond .eq 12, 3, (0, 0, 0, 0)), (25, .aload_n 0, 1, (0, 0, 0, 0)), (26, .getfield 7, 3, (8, 0, 657, 0)), (29, .iload_n 3, 1, (0, 0, 0, 0)), (30, .iaload, 1, (0, 0, 0, 0)), (31, .goto 4, 3, (0, 0, 0, 0)),
  (34, .iconst 0, 1, (0, 0, 0, 0)), (35, .iastore, 1, (0, 0, 0, 0)), (36, .iinc 3 1, 3, (0, 0, 0, 0)), (39, .goto (-37), 3, (0, 0, 0, 0)), (42, .aload_n 0, 1, (0, 0, 0, 0)), (43, .getfield 7, 3, (8, 0, 657, 0)),
  (46, .iconst 0, 1, (0, 0, 0, 0)), (47, .iload_n 1, 1, (0, 0, 0, 0)), (48, .iastore, 1, (0, 0, 0, 0)), (49, .iconst 0, 1, (0, 0, 0, 0)), (50, .istore_n 3, 1, (0, 0, 0, 0)), (51, .iload_n 3, 1, (0, 0, 0, 0)),
  (52, .iconst 4, 1, (0, 0, 0, 0)), (53, .if_icmp .ge 48, 3, (0, 0, 0, 0)), (56, .aload_n 0, 1, (0, 0, 0, 0)), (57, .getfield 7, 3, (8, 0, 657, 0)), (60, .bipush 126, 2, (0, 0, 0, 0)), (62, .bipush 6, 2, (0, 0, 0, 0)),
  (64, .iload_n 3, 1, (0, 0, 0, 0)), (65, .imul, 1, (0, 0, 0, 0)), (66, .iadd, 1, (0, 0, 0, 0)), (67, .iconst 0, 1, (0, 0, 0, 0)), (68, .iadd, 1, (0, 0, 0, 0)), (69, .iload_n 3, 1, (0, 0, 0, 0)),
  (70, .iload_n 1, 1, (0, 0, 0, 0)), (71, .if_icmp .ge 7, 3, (0, 0, 0, 0)), (74, .iload_n 2, 1, (0, 0, 0, 0)), (75, .goto 4, 3, (0, 0, 0, 0)), (78, .iconst 0, 1, (0, 0, 0, 0)), (79, .iastore, 1, (0, 0, 0, 0)),
  (80, .aload_n 0, 1, (0, 0, 0, 0)), (81, .getfield 7, 3, (8, 0, 657, 0)), (84, .bipush 126, 2, (0, 0, 0, 0)), (86, .bipush 6, 2, (0, 0, 0, 0)), (88, .iload_n 3, 1, (0, 0, 0, 0)), (89, .imul, 1, (0, 0, 0, 0)),
  (90, .iadd, 1, (0, 0, 0, 0)), (91, .iconst 2, 1, (0, 0, 0, 0)), (92, .iadd, 1, (0, 0, 0, 0)), (93, .iconst (-1), 1, (0, 0, 0, 0)), (94, .iastore, 1, (0, 0, 0, 0)), (95, .iinc 3 1, 3, (0, 0, 0, 0)),
  (98, .goto (-47), 3, (0, 0, 0, 0)), (101, .return_, 1, (0, 0, 0, 0))]
def mX8_begins : ME := (yX8_begins, cX8_begins, 4, none, 0, 2, 8, tX8_begins)
def tX8_begin : List CI := [(0, .iload_n 1, 1, (0, 0, 0, 0)), (1, .iconst 2, 1, (0, 0, 0, 0)), (2, .iconst 4, 1, (0, 0, 0, 0)), (3, .invokestatic 43, 3, (88, 0, 654, 0)), (6, .ifCond .eq 13, 3, (0, 0, 0, 0)), (9, .iload_n 2, 1, (0, 0, 0, 0)),
  (10, .iconst 0, 1, (0, 0, 0, 0)), (11, .bipush 30, 2, (0, 0, 0, 0)), (13, .invokestatic 43, 3, (88, 0, 654, 0)), (16, .ifCond .ne 6, 3, (0, 0, 0, 0)), (19, .ldc 47, 2, (728, 0, 0, -1000001)), (21, .ireturn, 1, (0, 0, 0, 0)),
  (22, .aload_n 0, 1, (0, 0, 0, 0)), (23, .invokevirtual 48, 3, (90, 0, 729, 0)), (26, .aload_n 0, 1, (0, 0, 0, 0)), (27, .iload_n 1, 1, (0, 0, 0, 0)), (28, .iload_n 2, 1, (0, 0, 0, 0)), (29, .invokevirtual 31, 3, (93, 0, 650, 0)),
  (32, .iload_n 1, 1, (0, 0, 0, 0)), (33, .iload_n 2, 1, (0, 0, 0, 0)), (34, .imul, 1, (0, 0, 0, 0)), (35, .ireturn, 1, (0, 0, 0, 0))]
def mX8_begin : ME := (yX8_begin, cX8_begin, 3, (some .int), 0, 2, 8, tX8_begin)
def tX8_lot : List CI := [(0, .iload_n 1, 1, (0, 0, 0, 0)), (1, .bipush (-9), 2, (0, 0, 0, 0)), (3, .bipush 20, 2, (0, 0, 0, 0)), (5, .invokestatic 43, 3, (88, 0, 654, 0)), (8, .ifCond .ne 6, 3, (0, 0, 0, 0)), (11, .ldc 47, 2, (728, 0, 0, -1000001)),
  (13, .ireturn, 1, (0, 0, 0, 0)), (14, .aload_n 0, 1, (0, 0, 0, 0)), (15, .getfield 7, 3, (8, 0, 657, 0)), (18, .iconst 4, 1, (0, 0, 0, 0)), (19, .iaload, 1, (0, 0, 0, 0)), (20, .aload_n 0, 1, (0, 0, 0, 0)),
  (21, .getfield 7, 3, (8, 0, 657, 0)), (24, .bipush 25, 2, (0, 0, 0, 0)), (26, .iaload, 1, (0, 0, 0, 0)), (27, .iadd, 1, (0, 0, 0, 0)), (28, .bipush 20, 2, (0, 0, 0, 0)), (30, .if_icmp .ne 6, 3, (0, 0, 0, 0)),
  (33, .ldc 51, 2, (737, 0, 0, -1000003)), (35, .ireturn, 1, (0, 0, 0, 0)), (36, .aload_n 0, 1, (0, 0, 0, 0)), (37, .invokevirtual 48, 3, (90, 0, 729, 0)), (40, .aload_n 0, 1, (0, 0, 0, 0)), (41, .getfield 7, 3, (8, 0, 657, 0)),
  (44, .iconst 5, 1, (0, 0, 0, 0)), (45, .aload_n 0, 1, (0, 0, 0, 0)), (46, .getfield 7, 3, (8, 0, 657, 0)), (49, .iconst 4, 1, (0, 0, 0, 0)), (50, .iaload, 1, (0, 0, 0, 0)), (51, .iadd, 1, (0, 0, 0, 0)),
  (52, .iload_n 1, 1, (0, 0, 0, 0)), (53, .iastore, 1, (0, 0, 0, 0)), (54, .aload_n 0, 1, (0, 0, 0, 0)), (55, .getfield 7, 3, (8, 0, 657, 0)), (58, .iconst 4, 1, (0, 0, 0, 0)), (59, .dup2, 1, (0, 0, 0, 0)),
  (60, .iaload, 1, (0, 0, 0, 0)), (61, .iconst 1, 1, (0, 0, 0, 0)), (62, .iadd, 1, (0, 0, 0, 0)), (63, .iastore, 1, (0, 0, 0, 0)), (64, .aload_n 0, 1, (0, 0, 0, 0)), (65, .getfield 7, 3, (8, 0, 657, 0)),
  (68, .iconst 4, 1, (0, 0, 0, 0)), (69, .iaload, 1, (0, 0, 0, 0)), (70, .ireturn, 1, (0, 0, 0, 0))]
def mX8_lot : ME := (yX8_lot, cX8_lot, 2, (some .int), 0, 1, 8, tX8_lot)
def tX8_bids : List CI := [(0, .iconst 0, 1, (0, 0, 0, 0)), (1, .istore_n 1, 1, (0, 0, 0, 0)), (2, .iconst 0, 1, (0, 0, 0, 0)), (3, .istore_n 2, 1, (0, 0, 0, 0)), (4, .iload_n 2, 1, (0, 0, 0, 0)), (5, .aload_n 0, 1, (0, 0, 0, 0)),
  (6, .getfield 7, 3, (8, 0, 657, 0)), (9, .iconst 0, 1, (0, 0, 0, 0)), (10, .iaload, 1, (0, 0, 0, 0)), (11, .if_icmp .ge 26, 3, (0, 0, 0, 0)), (14, .iload_n 1, 1, (0, 0, 0, 0)), (15, .aload_n 0, 1, (0, 0, 0, 0)),
  (16, .iload_n 2, 1, (0, 0, 0, 0)), (17, .iconst 2, 1, (0, 0, 0, 0)), (18, .invokevirtual 52, 3, (92, 0, 746, 0)), (21, .ifCond .lt 7, 3, (0, 0, 0, 0)), (24, .iconst 1, 1, (0, 0, 0, 0)), (25, .goto 4, 3, (0, 0, 0, 0)),
  (28, .iconst 0, 1, (0, 0, 0, 0)), (29, .iadd, 1, (0, 0, 0, 0)), (30, .istore_n 1, 1, (0, 0, 0, 0)), (31, .iinc 2 1, 3, (0, 0, 0, 0)), (34, .goto (-30), 3, (0, 0, 0, 0)), (37, .iload_n 1, 1, (0, 0, 0, 0)),
  (38, .ireturn, 1, (0, 0, 0, 0))]
def mX8_bids : ME := (yX8_bids, cX8_bids, 3, (some .int), 0, 0, 8, tX8_bids)
def tX8_bid : List CI := [(0, .aload_n 0, 1, (0, 0, 0, 0)), (1, .iload_n 1, 1, (0, 0, 0, 0)), (2, .invokevirtual 56, 3, (91, 0, 742, 0)), (5, .ifCond .eq 7, 3, (0, 0, 0, 0)), (8, .iload_n 2, 1, (0, 0, 0, 0)), (9, .ifCond .ge 6, 3, (0, 0, 0, 0)),
  (12, .ldc 47, 2, (728, 0, 0, -1000001)), (14, .ireturn, 1, (0, 0, 0, 0)), (15, .aload_n 0, 1, (0, 0, 0, 0)), (16, .getfield 7, 3, (8, 0, 657, 0)), (19, .iconst 4, 1, (0, 0, 0, 0)), (20, .iaload, 1, (0, 0, 0, 0)),
  (21, .ifCond .eq 13, 3, (0, 0, 0, 0)), (24, .iload_n 2, 1, (0, 0, 0, 0)), (25, .aload_n 0, 1, (0, 0, 0, 0)), (26, .iload_n 1, 1, (0, 0, 0, 0)), (27, .iconst 0, 1, (0, 0, 0, 0)), (28, .invokevirtual 52, 3, (92, 0, 746, 0)),
  (31, .if_icmp .le 6, 3, (0, 0, 0, 0)), (34, .ldc 60, 2, (750, 0, 0, -1000002)), (36, .ireturn, 1, (0, 0, 0, 0)), (37, .aload_n 0, 1, (0, 0, 0, 0)), (38, .invokevirtual 48, 3, (90, 0, 729, 0)), (41, .aload_n 0, 1, (0, 0, 0, 0)),
  (42, .getfield 7, 3, (8, 0, 657, 0)), (45, .bipush 126, 2, (0, 0, 0, 0)), (47, .bipush 6, 2, (0, 0, 0, 0)), (49, .iload_n 1, 1, (0, 0, 0, 0)), (50, .imul, 1, (0, 0, 0, 0)), (51, .iadd, 1, (0, 0, 0, 0)),
  (52, .iconst 2, 1, (0, 0, 0, 0)), (53, .iadd, 1, (0, 0, 0, 0)), (54, .iload_n 2, 1, (0, 0, 0, 0)), (55, .iastore, 1, (0, 0, 0, 0)), (56, .aload_n 0, 1, (0, 0, 0, 0)), (57, .invokevirtual 61, 3, (96, 0, 751, 0)),
  (60, .ireturn, 1, (0, 0, 0, 0))]
def mX8_bid : ME := (yX8_bid, cX8_bid, 3, (some .int), 0, 2, 8, tX8_bid)
def tX8_onTable : List CI := [(0, .iconst 0, 1, (0, 0, 0, 0)), (1, .istore_n 1, 1, (0, 0, 0, 0)), (2, .iconst 0, 1, (0, 0, 0, 0)), (3, .istore_n 2, 1, (0, 0, 0, 0)), (4, .iload_n 2, 1, (0, 0, 0, 0)), (5, .aload_n 0, 1, (0, 0, 0, 0)),
  (6, .getfield 7, 3, (8, 0, 657, 0)), (9, .bipush 25, 2, (0, 0, 0, 0)), (11, .iaload, 1, (0, 0, 0, 0)), (12, .if_icmp .ge 22, 3, (0, 0, 0, 0)), (15, .iload_n 1, 1, (0, 0, 0, 0)), (16, .aload_n 0, 1, (0, 0, 0, 0)),
  (17, .getfield 7, 3, (8, 0, 657, 0)), (20, .sipush 2087, 3, (0, 0, 0, 0)), (23, .iload_n 2, 1, (0, 0, 0, 0)), (24, .iadd, 1, (0, 0, 0, 0)), (25, .iaload, 1, (0, 0, 0, 0)), (26, .iadd, 1, (0, 0, 0, 0)),
  (27, .istore_n 1, 1, (0, 0, 0, 0)), (28, .iinc 2 1, 3, (0, 0, 0, 0)), (31, .goto (-27), 3, (0, 0, 0, 0)), (34, .iload_n 1, 1, (0, 0, 0, 0)), (35, .ireturn, 1, (0, 0, 0, 0))]
def mX8_onTable : ME := (yX8_onTable, cX8_onTable, 3, (some .int), 0, 0, 8, tX8_onTable)
def tX8_greatest : List CI := [(0, .iconst (-1), 1, (0, 0, 0, 0)), (1, .istore_n 1, 1, (0, 0, 0, 0)), (2, .iconst 0, 1, (0, 0, 0, 0)), (3, .istore_n 2, 1, (0, 0, 0, 0)), (4, .iload_n 2, 1, (0, 0, 0, 0)), (5, .aload_n 0, 1, (0, 0, 0, 0)),
  (6, .getfield 7, 3, (8, 0, 657, 0)), (9, .iconst 0, 1, (0, 0, 0, 0)), (10, .iaload, 1, (0, 0, 0, 0)), (11, .if_icmp .ge 30, 3, (0, 0, 0, 0)), (14, .aload_n 0, 1, (0, 0, 0, 0)), (15, .iload_n 2, 1, (0, 0, 0, 0)),
  (16, .iconst 2, 1, (0, 0, 0, 0)), (17, .invokevirtual 52, 3, (92, 0, 746, 0)), (20, .iload_n 1, 1, (0, 0, 0, 0)), (21, .if_icmp .le 12, 3, (0, 0, 0, 0)), (24, .aload_n 0, 1, (0, 0, 0, 0)), (25, .iload_n 2, 1, (0, 0, 0, 0)),
  (26, .iconst 2, 1, (0, 0, 0, 0)), (27, .invokevirtual 52, 3, (92, 0, 746, 0)), (30, .goto 4, 3, (0, 0, 0, 0)), (33, .iload_n 1, 1, (0, 0, 0, 0)), (34, .istore_n 1, 1, (0, 0, 0, 0)), (35, .iinc 2 1, 3, (0, 0, 0, 0)),
  (38, .goto (-34), 3, (0, 0, 0, 0)), (41, .iload_n 1, 1, (0, 0, 0, 0)), (42, .ireturn, 1, (0, 0, 0, 0))]
def mX8_greatest : ME := (yX8_greatest, cX8_greatest, 3, (some .int), 0, 0, 8, tX8_greatest)
def tX8_lays : List CI := [(0, .aload_n 0, 1, (0, 0, 0, 0)), (1, .getfield 7, 3, (8, 0, 657, 0)), (4, .sipush 2087, 3, (0, 0, 0, 0)), (7, .aload_n 0, 1, (0, 0, 0, 0)), (8, .getfield 7, 3, (8, 0, 657, 0)), (11, .bipush 25, 2, (0, 0, 0, 0)),
  (13, .iaload, 1, (0, 0, 0, 0)), (14, .iadd, 1, (0, 0, 0, 0)), (15, .aload_n 0, 1, (0, 0, 0, 0)), (16, .getfield 7, 3, (8, 0, 657, 0)), (19, .iconst 5, 1, (0, 0, 0, 0)), (20, .iaload, 1, (0, 0, 0, 0)),
  (21, .iastore, 1, (0, 0, 0, 0)), (22, .aload_n 0, 1, (0, 0, 0, 0)), (23, .getfield 7, 3, (8, 0, 657, 0)), (26, .bipush 25, 2, (0, 0, 0, 0)), (28, .dup2, 1, (0, 0, 0, 0)), (29, .iaload, 1, (0, 0, 0, 0)),
  (30, .iconst 1, 1, (0, 0, 0, 0)), (31, .iadd, 1, (0, 0, 0, 0)), (32, .iastore, 1, (0, 0, 0, 0)), (33, .aload_n 0, 1, (0, 0, 0, 0)), (34, .getfield 7, 3, (8, 0, 657, 0)), (37, .iconst 4, 1, (0, 0, 0, 0)),
  (38, .dup2, 1, (0, 0, 0, 0)), (39, .iaload, 1, (0, 0, 0, 0)), (40, .iconst 1, 1, (0, 0, 0, 0)), (41, .isub, 1, (0, 0, 0, 0)), (42, .iastore, 1, (0, 0, 0, 0)), (43, .iconst 0, 1, (0, 0, 0, 0)),
  (44, .istore_n 1, 1, (0, 0, 0, 0)), (45, .iload_n 1, 1, (0, 0, 0, 0)), (46, .aload_n 0, 1, (0, 0, 0, 0)), (47, .getfield 7, 3, (8, 0, 657, 0)), (50, .iconst 4, 1, (0, 0, 0, 0)), (51, .iaload, 1, (0, 0, 0, 0)),
  (52, .if_icmp .ge 27, 3, (0, 0, 0, 0)), (55, .aload_n 0, 1, (0, 0, 0, 0)), (56, .getfield 7, 3, (8, 0, 657, 0)), (59, .iconst 5, 1, (0, 0, 0, 0)), (60, .iload_n 1, 1, (0, 0, 0, 0)), (61, .iadd, 1, (0, 0, 0, 0)),
  (62, .aload_n 0, 1, (0, 0, 0, 0)), (63, .getfield 7, 3, (8, 0, 657, 0)), (66, .iconst 5, 1, (0, 0, 0, 0)), (67, .iload_n 1, 1, (0, 0, 0, 0)), (68, .iadd, 1, (0, 0, 0, 0)), (69, .iconst 1, 1, (0, 0, 0, 0)),
  (70, .iadd, 1, (0, 0, 0, 0)), (71, .iaload, 1, (0, 0, 0, 0)), (72, .iastore, 1, (0, 0, 0, 0)), (73, .iinc 1 1, 3, (0, 0, 0, 0)), (76, .goto (-31), 3, (0, 0, 0, 0)), (79, .return_, 1, (0, 0, 0, 0))]
def mX8_lays : ME := (yX8_lays, cX8_lays, 2, none, 0, 0, 8, tX8_lays)
def tX8_pays : List CI := [(0, .aload_n 0, 1, (0, 0, 0, 0)), (1, .getfield 7, 3, (8, 0, 657, 0)), (4, .bipush 126, 2, (0, 0, 0, 0)), (6, .bipush 6, 2, (0, 0, 0, 0)), (8, .iload_n 1, 1, (0, 0, 0, 0)), (9, .imul, 1, (0, 0, 0, 0)),
  (10, .iadd, 1, (0, 0, 0, 0)), (11, .iconst 0, 1, (0, 0, 0, 0)), (12, .iadd, 1, (0, 0, 0, 0)), (13, .dup2, 1, (0, 0, 0, 0)), (14, .iaload, 1, (0, 0, 0, 0)), (15, .iload_n 2, 1, (0, 0, 0, 0)),
  (16, .isub, 1, (0, 0, 0, 0)), (17, .iastore, 1, (0, 0, 0, 0)), (18, .aload_n 0, 1, (0, 0, 0, 0)), (19, .getfield 7, 3, (8, 0, 657, 0)), (22, .bipush 126, 2, (0, 0, 0, 0)), (24, .bipush 6, 2, (0, 0, 0, 0)),
  (26, .iload_n 1, 1, (0, 0, 0, 0)), (27, .imul, 1, (0, 0, 0, 0)), (28, .iadd, 1, (0, 0, 0, 0)), (29, .iconst 4, 1, (0, 0, 0, 0)), (30, .iadd, 1, (0, 0, 0, 0)), (31, .dup2, 1, (0, 0, 0, 0)),
  (32, .iaload, 1, (0, 0, 0, 0)), (33, .iload_n 2, 1, (0, 0, 0, 0)), (34, .iadd, 1, (0, 0, 0, 0)), (35, .iastore, 1, (0, 0, 0, 0)), (36, .aload_n 0, 1, (0, 0, 0, 0)), (37, .getfield 7, 3, (8, 0, 657, 0)),
  (40, .iconst 1, 1, (0, 0, 0, 0)), (41, .dup2, 1, (0, 0, 0, 0)), (42, .iaload, 1, (0, 0, 0, 0)), (43, .iload_n 2, 1, (0, 0, 0, 0)), (44, .iadd, 1, (0, 0, 0, 0)), (45, .iastore, 1, (0, 0, 0, 0)),
  (46, .return_, 1, (0, 0, 0, 0))]
def mX8_pays : ME := (yX8_pays, cX8_pays, 3, none, 0, 2, 8, tX8_pays)
def tX8_least : List CI := [(0, .iload_n 0, 1, (0, 0, 0, 0)), (1, .iload_n 1, 1, (0, 0, 0, 0)), (2, .if_icmp .ge 7, 3, (0, 0, 0, 0)), (5, .iload_n 0, 1, (0, 0, 0, 0)), (6, .goto 4, 3, (0, 0, 0, 0)), (9, .iload_n 1, 1, (0, 0, 0, 0)),
  (10, .ireturn, 1, (0, 0, 0, 0))]
def mX8_least : ME := (yX8_least, cX8_least, 2, (some .int), 1, 2, 8, tX8_least)
def tX8_notes : List CI := [(0, .sipush 151, 3, (0, 0, 0, 0)), (3, .istore_n 3, 1, (0, 0, 0, 0)), (4, .iload_n 3, 1, (0, 0, 0, 0)), (5, .sipush 151, 3, (0, 0, 0, 0)), (8, .iconst 4, 1, (0, 0, 0, 0)), (9, .aload_n 0, 1, (0, 0, 0, 0)),
  (10, .getfield 7, 3, (8, 0, 657, 0)), (13, .sipush 150, 3, (0, 0, 0, 0)), (16, .iaload, 1, (0, 0, 0, 0)), (17, .imul, 1, (0, 0, 0, 0)), (18, .iadd, 1, (0, 0, 0, 0)), (19, .if_icmp .ge 36, 3, (0, 0, 0, 0)),
  (22, .aload_n 0, 1, (0, 0, 0, 0)), (23, .getfield 7, 3, (8, 0, 657, 0)), (26, .iload_n 3, 1, (0, 0, 0, 0)), (27, .iaload, 1, (0, 0, 0, 0)), (28, .iload_n 1, 1, (0, 0, 0, 0)), (29, .if_icmp .ne 20, 3, (0, 0, 0, 0)),
  (32, .aload_n 0, 1, (0, 0, 0, 0)), (33, .getfield 7, 3, (8, 0, 657, 0)), (36, .iload_n 3, 1, (0, 0, 0, 0)), (37, .iconst 1, 1, (0, 0, 0, 0)), (38, .iadd, 1, (0, 0, 0, 0)), (39, .iaload, 1, (0, 0, 0, 0)),
  (40, .aload_n 0, 1, (0, 0, 0, 0)), (41, .iload_n 1, 1, (0, 0, 0, 0)), (42, .iconst 2, 1, (0, 0, 0, 0)), (43, .invokevirtual 52, 3, (92, 0, 746, 0)), (46, .if_icmp .eq 9, 3, (0, 0, 0, 0)), (49, .iinc 3 4, 3, (0, 0, 0, 0)),
  (52, .goto (-48), 3, (0, 0, 0, 0)), (55, .iload_n 3, 1, (0, 0, 0, 0)), (56, .sipush 151, 3, (0, 0, 0, 0)), (59, .iconst 4, 1, (0, 0, 0, 0)), (60, .aload_n 0, 1, (0, 0, 0, 0)), (61, .getfield 7, 3, (8, 0, 657, 0)),
  (64, .sipush 150, 3, (0, 0, 0, 0)), (67, .iaload, 1, (0, 0, 0, 0)), (68, .imul, 1, (0, 0, 0, 0)), (69, .iadd, 1, (0, 0, 0, 0)), (70, .if_icmp .ne 54, 3, (0, 0, 0, 0)), (73, .aload_n 0, 1, (0, 0, 0, 0)),
  (74, .getfield 7, 3, (8, 0, 657, 0)), (77, .iload_n 3, 1, (0, 0, 0, 0)), (78, .iload_n 1, 1, (0, 0, 0, 0)), (79, .iastore, 1, (0, 0, 0, 0)), (80, .aload_n 0, 1, (0, 0, 0, 0)), (81, .getfield 7, 3, (8, 0, 657, 0)),
  (84, .iload_n 3, 1, (0, 0, 0, 0)), (85, .iconst 1, 1, (0, 0, 0, 0)), (86, .iadd, 1, (0, 0, 0, 0)), (87, .aload_n 0, 1, (0, 0, 0, 0)), (88, .iload_n 1, 1, (0, 0, 0, 0)), (89, .iconst 2, 1, (0, 0, 0, 0)),
  (90, .invokevirtual 52, 3, (92, 0, 746, 0)), (93, .iastore, 1, (0, 0, 0, 0)), (94, .aload_n 0, 1, (0, 0, 0, 0)), (95, .getfield 7, 3, (8, 0, 657, 0)), (98, .iload_n 3, 1, (0, 0, 0, 0)), (99, .iconst 2, 1, (0, 0, 0, 0)),
  (100, .iadd, 1, (0, 0, 0, 0)), (101, .iconst 0, 1, (0, 0, 0, 0)), (102, .iastore, 1, (0, 0, 0, 0)), (103, .aload_n 0, 1, (0, 0, 0, 0)), (104, .getfield 7, 3, (8, 0, 657, 0)), (107, .iload_n 3, 1, (0, 0, 0, 0)),
  (108, .iconst 3, 1, (0, 0, 0, 0)), (109, .iadd, 1, (0, 0, 0, 0)), (110, .iconst 0, 1, (0, 0, 0, 0)), (111, .iastore, 1, (0, 0, 0, 0)), (112, .aload_n 0, 1, (0, 0, 0, 0)), (113, .getfield 7, 3, (8, 0, 657, 0)),
  (116, .sipush 150, 3, (0, 0, 0, 0)), (119, .dup2, 1, (0, 0, 0, 0)), (120, .iaload, 1, (0, 0, 0, 0)), (121, .iconst 1, 1, (0, 0, 0, 0)), (122, .iadd, 1, (0, 0, 0, 0)), (123, .iastore, 1, (0, 0, 0, 0)),
  (124, .aload_n 0, 1, (0, 0, 0, 0)), (125, .getfield 7, 3, (8, 0, 657, 0)), (128, .iload_n 3, 1, (0, 0, 0, 0)), (129, .iconst 2, 1, (0, 0, 0, 0)), (130, .iadd, 1, (0, 0, 0, 0)), (131, .dup2, 1, (0, 0, 0, 0)),
  (132, .iaload, 1, (0, 0, 0, 0)), (133, .iconst 1, 1, (0, 0, 0, 0)), (134, .iadd, 1, (0, 0, 0, 0)), (135, .iastore, 1, (0, 0, 0, 0)), (136, .aload_n 0, 1, (0, 0, 0, 0)), (137, .getfield 7, 3, (8, 0, 657, 0)),
  (140, .iload_n 3, 1, (0, 0, 0, 0)), (141, .iconst 3, 1, (0, 0, 0, 0)), (142, .iadd, 1, (0, 0, 0, 0)), (143, .dup2, 1, (0, 0, 0, 0)), (144, .iaload, 1, (0, 0, 0, 0)), (145, .iload_n 2, 1, (0, 0, 0, 0)),
  (146, .ifCond .eq 7, 3, (0, 0, 0, 0)), (149, .iconst 1, 1, (0, 0, 0, 0)), (150, .goto 4, 3, (0, 0, 0, 0)), (153, .iconst 0, 1, (0, 0, 0, 0)), (154, .iadd, 1, (0, 0, 0, 0)), (155, .iastore, 1, (0, 0, 0, 0)),
  (156, .return_, 1, (0, 0, 0, 0))]
def mX8_notes : ME := (yX8_notes, cX8_notes, 4, none, 0, 2, 8, tX8_notes)
def tX8_keeps : List CI := [(0, .bipush 95, 2, (0, 0, 0, 0)), (2, .istore 5, 2, (0, 0, 0, 0)), (4, .iload 5, 2, (0, 0, 0, 0)), (6, .bipush 8, 2, (0, 0, 0, 0)), (8, .if_icmp .lt 32, 3, (0, 0, 0, 0)), (11, .aload_n 0, 1, (0, 0, 0, 0)),
  (12, .getfield 7, 3, (8, 0, 657, 0)), (15, .bipush 30, 2, (0, 0, 0, 0)), (17, .iload 5, 2, (0, 0, 0, 0)), (19, .iadd, 1, (0, 0, 0, 0)), (20, .aload_n 0, 1, (0, 0, 0, 0)), (21, .getfield 7, 3, (8, 0, 657, 0)),
  (24, .bipush 30, 2, (0, 0, 0, 0)), (26, .iload 5, 2, (0, 0, 0, 0)), (28, .iadd, 1, (0, 0, 0, 0)), (29, .bipush 8, 2, (0, 0, 0, 0)), (31, .isub, 1, (0, 0, 0, 0)), (32, .iaload, 1, (0, 0, 0, 0)),
  (33, .iastore, 1, (0, 0, 0, 0)), (34, .iinc 5 (-1), 3, (0, 0, 0, 0)), (37, .goto (-33), 3, (0, 0, 0, 0)), (40, .aload_n 0, 1, (0, 0, 0, 0)), (41, .getfield 7, 3, (8, 0, 657, 0)), (44, .bipush 30, 2, (0, 0, 0, 0)),
  (46, .iload_n 1, 1, (0, 0, 0, 0)), (47, .iastore, 1, (0, 0, 0, 0)), (48, .aload_n 0, 1, (0, 0, 0, 0)), (49, .getfield 7, 3, (8, 0, 657, 0)), (52, .bipush 31, 2, (0, 0, 0, 0)), (54, .iload_n 2, 1, (0, 0, 0, 0)),
  (55, .iastore, 1, (0, 0, 0, 0)), (56, .aload_n 0, 1, (0, 0, 0, 0)), (57, .getfield 7, 3, (8, 0, 657, 0)), (60, .bipush 32, 2, (0, 0, 0, 0)), (62, .iload_n 3, 1, (0, 0, 0, 0)), (63, .iastore, 1, (0, 0, 0, 0)),
  (64, .aload_n 0, 1, (0, 0, 0, 0)), (65, .getfield 7, 3, (8, 0, 657, 0)), (68, .bipush 33, 2, (0, 0, 0, 0)), (70, .iload 4, 2, (0, 0, 0, 0)), (72, .iastore, 1, (0, 0, 0, 0)), (73, .iconst 0, 1, (0, 0, 0, 0)),
  (74, .istore 5, 2, (0, 0, 0, 0)), (76, .iload 5, 2, (0, 0, 0, 0)), (78, .iconst 4, 1, (0, 0, 0, 0)), (79, .if_icmp .ge 26, 3, (0, 0, 0, 0)), (82, .aload_n 0, 1, (0, 0, 0, 0)), (83, .getfield 7, 3, (8, 0, 657, 0)),
  (86, .bipush 34, 2, (0, 0, 0, 0)), (88, .iload 5, 2, (0, 0, 0, 0)), (90, .iadd, 1, (0, 0, 0, 0)), (91, .aload_n 0, 1, (0, 0, 0, 0)), (92, .iload 5, 2, (0, 0, 0, 0)), (94, .iconst 2, 1, (0, 0, 0, 0)),
  (95, .invokevirtual 52, 3, (92, 0, 746, 0)), (98, .iastore, 1, (0, 0, 0, 0)), (99, .iinc 5 1, 3, (0, 0, 0, 0)), (102, .goto (-26), 3, (0, 0, 0, 0)), (105, .aload_n 0, 1, (0, 0, 0, 0)), (106, .getfield 7, 3, (8, 0, 657, 0)),
  (109, .bipush 29, 2, (0, 0, 0, 0)), (111, .aload_n 0, 1, (0, 0, 0, 0)), (112, .getfield 7, 3, (8, 0, 657, 0)), (115, .bipush 29, 2, (0, 0, 0, 0)), (117, .iaload, 1, (0, 0, 0, 0)), (118, .iconst 1, 1, (0, 0, 0, 0)),
  (119, .iadd, 1, (0, 0, 0, 0)), (120, .bipush 12, 2, (0, 0, 0, 0)), (122, .invokestatic 65, 3, (102, 0, 779, 0)), (125, .iastore, 1, (0, 0, 0, 0)), (126, .aload_n 0, 1, (0, 0, 0, 0)), (127, .getfield 7, 3, (8, 0, 657, 0)),
  (130, .iconst 2, 1, (0, 0, 0, 0)), (131, .dup2, 1, (0, 0, 0, 0)), (132, .iaload, 1, (0, 0, 0, 0)), (133, .iconst 1, 1, (0, 0, 0, 0)), (134, .iadd, 1, (0, 0, 0, 0)), (135, .iastore, 1, (0, 0, 0, 0)),
  (136, .aload_n 0, 1, (0, 0, 0, 0)), (137, .getfield 7, 3, (8, 0, 657, 0)), (140, .iconst 3, 1, (0, 0, 0, 0)), (141, .dup2, 1, (0, 0, 0, 0)), (142, .iaload, 1, (0, 0, 0, 0)), (143, .iload_n 1, 1, (0, 0, 0, 0)),
  (144, .ifCond .ge 7, 3, (0, 0, 0, 0)), (147, .iconst 1, 1, (0, 0, 0, 0)), (148, .goto 4, 3, (0, 0, 0, 0)), (151, .iconst 0, 1, (0, 0, 0, 0)), (152, .iadd, 1, (0, 0, 0, 0)), (153, .iastore, 1, (0, 0, 0, 0)),
  (154, .return_, 1, (0, 0, 0, 0))]
def mX8_keeps : ME := (yX8_keeps, cX8_keeps, 6, none, 0, 4, 8, tX8_keeps)
def tX8_shares : List CI := [(0, .aload_n 0, 1, (0, 0, 0, 0)), (1, .getfield 7, 3, (8, 0, 657, 0)), (4, .iconst 1, 1, (0, 0, 0, 0)), (5, .iaload, 1, (0, 0, 0, 0)), (6, .aload_n 0, 1, (0, 0, 0, 0)), (7, .getfield 7, 3, (8, 0, 657, 0)),
  (10, .iconst 0, 1, (0, 0, 0, 0)), (11, .iaload, 1, (0, 0, 0, 0)), (12, .iconst 1, 1, (0, 0, 0, 0)), (13, .isub, 1, (0, 0, 0, 0)), (14, .idiv, 1, (0, 0, 0, 0)), (15, .istore_n 2, 1, (0, 0, 0, 0)),
  (16, .iconst 0, 1, (0, 0, 0, 0)), (17, .istore_n 3, 1, (0, 0, 0, 0)), (18, .iload_n 3, 1, (0, 0, 0, 0)), (19, .aload_n 0, 1, (0, 0, 0, 0)), (20, .getfield 7, 3, (8, 0, 657, 0)), (23, .iconst 0, 1, (0, 0, 0, 0)),
  (24, .iaload, 1, (0, 0, 0, 0)), (25, .if_icmp .ge 70, 3, (0, 0, 0, 0)), (28, .iload_n 3, 1, (0, 0, 0, 0)), (29, .iload_n 1, 1, (0, 0, 0, 0)), (30, .if_icmp .ne 7, 3, (0, 0, 0, 0)), (33, .iconst 0, 1, (0, 0, 0, 0)),
  (34, .goto 4, 3, (0, 0, 0, 0)), (37, .iload_n 2, 1, (0, 0, 0, 0)), (38, .istore 4, 2, (0, 0, 0, 0)), (40, .aload_n 0, 1, (0, 0, 0, 0)), (41, .getfield 7, 3, (8, 0, 657, 0)), (44, .bipush 126, 2, (0, 0, 0, 0)),
  (46, .bipush 6, 2, (0, 0, 0, 0)), (48, .iload_n 3, 1, (0, 0, 0, 0)), (49, .imul, 1, (0, 0, 0, 0)), (50, .iadd, 1, (0, 0, 0, 0)), (51, .iconst 0, 1, (0, 0, 0, 0)), (52, .iadd, 1, (0, 0, 0, 0)),
  (53, .dup2, 1, (0, 0, 0, 0)), (54, .iaload, 1, (0, 0, 0, 0)), (55, .iload 4, 2, (0, 0, 0, 0)), (57, .iadd, 1, (0, 0, 0, 0)), (58, .iastore, 1, (0, 0, 0, 0)), (59, .aload_n 0, 1, (0, 0, 0, 0)),
  (60, .getfield 7, 3, (8, 0, 657, 0)), (63, .bipush 126, 2, (0, 0, 0, 0)), (65, .bipush 6, 2, (0, 0, 0, 0)), (67, .iload_n 3, 1, (0, 0, 0, 0)), (68, .imul, 1, (0, 0, 0, 0)), (69, .iadd, 1, (0, 0, 0, 0)),
  (70, .iconst 5, 1, (0, 0, 0, 0)), (71, .iadd, 1, (0, 0, 0, 0)), (72, .dup2, 1, (0, 0, 0, 0)), (73, .iaload, 1, (0, 0, 0, 0)), (74, .iload 4, 2, (0, 0, 0, 0)), (76, .iadd, 1, (0, 0, 0, 0)),
  (77, .iastore, 1, (0, 0, 0, 0)), (78, .aload_n 0, 1, (0, 0, 0, 0)), (79, .getfield 7, 3, (8, 0, 657, 0)), (82, .iconst 1, 1, (0, 0, 0, 0)), (83, .dup2, 1, (0, 0, 0, 0)), (84, .iaload, 1, (0, 0, 0, 0)),
  (85, .iload 4, 2, (0, 0, 0, 0)), (87, .isub, 1, (0, 0, 0, 0)), (88, .iastore, 1, (0, 0, 0, 0)), (89, .iinc 3 1, 3, (0, 0, 0, 0)), (92, .goto (-74), 3, (0, 0, 0, 0)), (95, .return_, 1, (0, 0, 0, 0))]
def mX8_shares : ME := (yX8_shares, cX8_shares, 5, none, 0, 1, 8, tX8_shares)
def tX8_resolves : List CI := [(0, .aload_n 0, 1, (0, 0, 0, 0)), (1, .invokevirtual 68, 3, (99, 0, 763, 0)), (4, .istore_n 1, 1, (0, 0, 0, 0)), (5, .iconst 0, 1, (0, 0, 0, 0)), (6, .istore_n 2, 1, (0, 0, 0, 0)), (7, .iconst (-1), 1, (0, 0, 0, 0)),
  (8, .istore_n 3, 1, (0, 0, 0, 0)), (9, .iconst 0, 1, (0, 0, 0, 0)), (10, .istore 4, 2, (0, 0, 0, 0)), (12, .iload 4, 2, (0, 0, 0, 0)), (14, .aload_n 0, 1, (0, 0, 0, 0)), (15, .getfield 7, 3, (8, 0, 657, 0)),
  (18, .iconst 0, 1, (0, 0, 0, 0)), (19, .iaload, 1, (0, 0, 0, 0)), (20, .if_icmp .ge 46, 3, (0, 0, 0, 0)), (23, .iload_n 2, 1, (0, 0, 0, 0)), (24, .aload_n 0, 1, (0, 0, 0, 0)), (25, .iload 4, 2, (0, 0, 0, 0)),
  (27, .iconst 2, 1, (0, 0, 0, 0)), (28, .invokevirtual 52, 3, (92, 0, 746, 0)), (31, .iload_n 1, 1, (0, 0, 0, 0)), (32, .if_icmp .ne 7, 3, (0, 0, 0, 0)), (35, .iconst 1, 1, (0, 0, 0, 0)), (36, .goto 4, 3, (0, 0, 0, 0)),
  (39, .iconst 0, 1, (0, 0, 0, 0)), (40, .iadd, 1, (0, 0, 0, 0)), (41, .istore_n 2, 1, (0, 0, 0, 0)), (42, .aload_n 0, 1, (0, 0, 0, 0)), (43, .iload 4, 2, (0, 0, 0, 0)), (45, .iconst 2, 1, (0, 0, 0, 0)),
  (46, .invokevirtual 52, 3, (92, 0, 746, 0)), (49, .iload_n 1, 1, (0, 0, 0, 0)), (50, .if_icmp .ne 8, 3, (0, 0, 0, 0)), (53, .iload 4, 2, (0, 0, 0, 0)), (55, .goto 4, 3, (0, 0, 0, 0)), (58, .iload_n 3, 1, (0, 0, 0, 0)),
  (59, .istore_n 3, 1, (0, 0, 0, 0)), (60, .iinc 4 1, 3, (0, 0, 0, 0)), (63, .goto (-51), 3, (0, 0, 0, 0)), (66, .iload_n 2, 1, (0, 0, 0, 0)), (67, .iconst 1, 1, (0, 0, 0, 0)), (68, .if_icmp .ne 7, 3, (0, 0, 0, 0)),
  (71, .iload_n 3, 1, (0, 0, 0, 0)), (72, .goto 4, 3, (0, 0, 0, 0)), (75, .iconst (-1), 1, (0, 0, 0, 0)), (76, .istore_n 3, 1, (0, 0, 0, 0)), (77, .aload_n 0, 1, (0, 0, 0, 0)), (78, .invokevirtual 71, 3, (98, 0, 767, 0)),
  (81, .aload_n 0, 1, (0, 0, 0, 0)), (82, .getfield 7, 3, (8, 0, 657, 0)), (85, .iconst 5, 1, (0, 0, 0, 0)), (86, .iaload, 1, (0, 0, 0, 0)), (87, .iadd, 1, (0, 0, 0, 0)), (88, .istore 4, 2, (0, 0, 0, 0)),
  (90, .aload_n 0, 1, (0, 0, 0, 0)), (91, .invokevirtual 74, 3, (100, 0, 771, 0)), (94, .aload_n 0, 1, (0, 0, 0, 0)), (95, .iload_n 3, 1, (0, 0, 0, 0)), (96, .iload_n 1, 1, (0, 0, 0, 0)), (97, .iload 4, 2, (0, 0, 0, 0)),
  (99, .iload_n 2, 1, (0, 0, 0, 0)), (100, .invokevirtual 77, 3, (104, 0, 775, 0)), (103, .iconst 0, 1, (0, 0, 0, 0)), (104, .istore 5, 2, (0, 0, 0, 0)), (106, .iload 5, 2, (0, 0, 0, 0)), (108, .aload_n 0, 1, (0, 0, 0, 0)),
  (109, .getfield 7, 3, (8, 0, 657, 0)), (112, .iconst 0, 1, (0, 0, 0, 0)), (113, .iaload, 1, (0, 0, 0, 0)), (114, .if_icmp .ge 94, 3, (0, 0, 0, 0)), (117, .aload_n 0, 1, (0, 0, 0, 0)), (118, .iload 5, 2, (0, 0, 0, 0)),
  (120, .iconst 2, 1, (0, 0, 0, 0)), (121, .invokevirtual 52, 3, (92, 0, 746, 0)), (124, .istore 6, 2, (0, 0, 0, 0)), (126, .aload_n 0, 1, (0, 0, 0, 0)), (127, .iload 5, 2, (0, 0, 0, 0)), (129, .iload 5, 2, (0, 0, 0, 0)),
  (131, .iload_n 3, 1, (0, 0, 0, 0)), (132, .if_icmp .ne 7, 3, (0, 0, 0, 0)), (135, .iconst 1, 1, (0, 0, 0, 0)), (136, .goto 4, 3, (0, 0, 0, 0)), (139, .iconst 0, 1, (0, 0, 0, 0)), (140, .invokevirtual 81, 3, (103, 0, 782, 0)),
  (143, .aload_n 0, 1, (0, 0, 0, 0)), (144, .iload 5, 2, (0, 0, 0, 0)), (146, .iload_n 2, 1, (0, 0, 0, 0)), (147, .iconst 1, 1, (0, 0, 0, 0)), (148, .if_icmp .le 28, 3, (0, 0, 0, 0)), (151, .iload 6, 2, (0, 0, 0, 0)),
  (153, .iload_n 1, 1, (0, 0, 0, 0)), (154, .if_icmp .ne 18, 3, (0, 0, 0, 0)), (157, .iload 6, 2, (0, 0, 0, 0)), (159, .aload_n 0, 1, (0, 0, 0, 0)), (160, .getfield 7, 3, (8, 0, 657, 0)), (163, .bipush 26, 2, (0, 0, 0, 0)),
  (165, .iaload, 1, (0, 0, 0, 0)), (166, .invokestatic 65, 3, (102, 0, 779, 0)), (169, .goto 30, 3, (0, 0, 0, 0)), (172, .iconst 0, 1, (0, 0, 0, 0)), (173, .goto 26, 3, (0, 0, 0, 0)), (176, .iload 5, 2, (0, 0, 0, 0)),
  (178, .iload_n 3, 1, (0, 0, 0, 0)), (179, .if_icmp .ne 8, 3, (0, 0, 0, 0)), (182, .iload 6, 2, (0, 0, 0, 0)), (184, .goto 15, 3, (0, 0, 0, 0)), (187, .iload 6, 2, (0, 0, 0, 0)), (189, .aload_n 0, 1, (0, 0, 0, 0)),
  (190, .getfield 7, 3, (8, 0, 657, 0)), (193, .bipush 27, 2, (0, 0, 0, 0)), (195, .iaload, 1, (0, 0, 0, 0)), (196, .invokestatic 65, 3, (102, 0, 779, 0)), (199, .invokevirtual 85, 3, (101, 0, 786, 0)), (202, .iinc 5 1, 3, (0, 0, 0, 0)),
  (205, .goto (-99), 3, (0, 0, 0, 0)), (208, .iload_n 3, 1, (0, 0, 0, 0)), (209, .ifCond .lt 48, 3, (0, 0, 0, 0)), (212, .aload_n 0, 1, (0, 0, 0, 0)), (213, .getfield 7, 3, (8, 0, 657, 0)), (216, .bipush 126, 2, (0, 0, 0, 0)),
  (218, .bipush 6, 2, (0, 0, 0, 0)), (220, .iload_n 3, 1, (0, 0, 0, 0)), (221, .imul, 1, (0, 0, 0, 0)), (222, .iadd, 1, (0, 0, 0, 0)), (223, .iconst 1, 1, (0, 0, 0, 0)), (224, .iadd, 1, (0, 0, 0, 0)),
  (225, .dup2, 1, (0, 0, 0, 0)), (226, .iaload, 1, (0, 0, 0, 0)), (227, .iload 4, 2, (0, 0, 0, 0)), (229, .iadd, 1, (0, 0, 0, 0)), (230, .iastore, 1, (0, 0, 0, 0)), (231, .aload_n 0, 1, (0, 0, 0, 0)),
  (232, .getfield 7, 3, (8, 0, 657, 0)), (235, .bipush 126, 2, (0, 0, 0, 0)), (237, .bipush 6, 2, (0, 0, 0, 0)), (239, .iload_n 3, 1, (0, 0, 0, 0)), (240, .imul, 1, (0, 0, 0, 0)), (241, .iadd, 1, (0, 0, 0, 0)),
  (242, .iconst 3, 1, (0, 0, 0, 0)), (243, .iadd, 1, (0, 0, 0, 0)), (244, .dup2, 1, (0, 0, 0, 0)), (245, .iaload, 1, (0, 0, 0, 0)), (246, .iconst 1, 1, (0, 0, 0, 0)), (247, .iadd, 1, (0, 0, 0, 0)),
  (248, .iastore, 1, (0, 0, 0, 0)), (249, .aload_n 0, 1, (0, 0, 0, 0)), (250, .getfield 7, 3, (8, 0, 657, 0)), (253, .bipush 25, 2, (0, 0, 0, 0)), (255, .iconst 0, 1, (0, 0, 0, 0)), (256, .iastore, 1, (0, 0, 0, 0)),
  (257, .iload_n 3, 1, (0, 0, 0, 0)), (258, .ifCond .lt 19, 3, (0, 0, 0, 0)), (261, .aload_n 0, 1, (0, 0, 0, 0)), (262, .getfield 7, 3, (8, 0, 657, 0)), (265, .bipush 28, 2, (0, 0, 0, 0)), (267, .iaload, 1, (0, 0, 0, 0)),
  (268, .iconst 1, 1, (0, 0, 0, 0)), (269, .if_icmp .ne 8, 3, (0, 0, 0, 0)), (272, .aload_n 0, 1, (0, 0, 0, 0)), (273, .iload_n 3, 1, (0, 0, 0, 0)), (274, .invokevirtual 88, 3, (105, 0, 790, 0)), (277, .iconst 0, 1, (0, 0, 0, 0)),
  (278, .istore 5, 2, (0, 0, 0, 0)), (280, .iload 5, 2, (0, 0, 0, 0)), (282, .aload_n 0, 1, (0, 0, 0, 0)), (283, .getfield 7, 3, (8, 0, 657, 0)), (286, .iconst 0, 1, (0, 0, 0, 0)), (287, .iaload, 1, (0, 0, 0, 0)),
  (288, .if_icmp .ge 25, 3, (0, 0, 0, 0)), (291, .aload_n 0, 1, (0, 0, 0, 0)), (292, .getfield 7, 3, (8, 0, 657, 0)), (295, .bipush 126, 2, (0, 0, 0, 0)), (297, .bipush 6, 2, (0, 0, 0, 0)), (299, .iload 5, 2, (0, 0, 0, 0)),
  (301, .imul, 1, (0, 0, 0, 0)), (302, .iadd, 1, (0, 0, 0, 0)), (303, .iconst 2, 1, (0, 0, 0, 0)), (304, .iadd, 1, (0, 0, 0, 0)), (305, .iconst (-1), 1, (0, 0, 0, 0)), (306, .iastore, 1, (0, 0, 0, 0)),
  (307, .iinc 5 1, 3, (0, 0, 0, 0)), (310, .goto (-30), 3, (0, 0, 0, 0)), (313, .iload_n 3, 1, (0, 0, 0, 0)), (314, .ireturn, 1, (0, 0, 0, 0))]
def mX8_resolves : ME := (yX8_resolves, cX8_resolves, 7, (some .int), 0, 0, 8, tX8_resolves)
def tX8_resolve : List CI := [(0, .aload_n 0, 1, (0, 0, 0, 0)), (1, .getfield 7, 3, (8, 0, 657, 0)), (4, .iconst 4, 1, (0, 0, 0, 0)), (5, .iaload, 1, (0, 0, 0, 0)), (6, .ifCond .eq 16, 3, (0, 0, 0, 0)), (9, .aload_n 0, 1, (0, 0, 0, 0)),
  (10, .invokevirtual 61, 3, (96, 0, 751, 0)), (13, .aload_n 0, 1, (0, 0, 0, 0)), (14, .getfield 7, 3, (8, 0, 657, 0)), (17, .iconst 0, 1, (0, 0, 0, 0)), (18, .iaload, 1, (0, 0, 0, 0)), (19, .if_icmp .ge 6, 3, (0, 0, 0, 0)),
  (22, .ldc 60, 2, (750, 0, 0, -1000002)), (24, .ireturn, 1, (0, 0, 0, 0)), (25, .aload_n 0, 1, (0, 0, 0, 0)), (26, .invokevirtual 48, 3, (90, 0, 729, 0)), (29, .aload_n 0, 1, (0, 0, 0, 0)), (30, .invokevirtual 92, 3, (106, 0, 759, 0)),
  (33, .ireturn, 1, (0, 0, 0, 0))]
def mX8_resolve : ME := (yX8_resolve, cX8_resolve, 1, (some .int), 0, 0, 8, tX8_resolve)
def tX8_set : List CI := [(0, .iload_n 1, 1, (0, 0, 0, 0)), (1, .iconst 0, 1, (0, 0, 0, 0)), (2, .iconst 2, 1, (0, 0, 0, 0)), (3, .invokestatic 43, 3, (88, 0, 654, 0)), (6, .ifCond .eq 21, 3, (0, 0, 0, 0)), (9, .iload_n 2, 1, (0, 0, 0, 0)),
  (10, .iconst 0, 1, (0, 0, 0, 0)), (11, .iload_n 1, 1, (0, 0, 0, 0)), (12, .iconst 2, 1, (0, 0, 0, 0)), (13, .if_icmp .ne 7, 3, (0, 0, 0, 0)), (16, .iconst 1, 1, (0, 0, 0, 0)), (17, .goto 4, 3, (0, 0, 0, 0)),
  (20, .iconst 5, 1, (0, 0, 0, 0)), (21, .invokestatic 43, 3, (88, 0, 654, 0)), (24, .ifCond .ne 6, 3, (0, 0, 0, 0)), (27, .ldc 47, 2, (728, 0, 0, -1000001)), (29, .ireturn, 1, (0, 0, 0, 0)), (30, .aload_n 0, 1, (0, 0, 0, 0)),
  (31, .invokevirtual 48, 3, (90, 0, 729, 0)), (34, .aload_n 0, 1, (0, 0, 0, 0)), (35, .getfield 7, 3, (8, 0, 657, 0)), (38, .bipush 26, 2, (0, 0, 0, 0)), (40, .iload_n 1, 1, (0, 0, 0, 0)), (41, .iadd, 1, (0, 0, 0, 0)),
  (42, .iaload, 1, (0, 0, 0, 0)), (43, .istore_n 3, 1, (0, 0, 0, 0)), (44, .aload_n 0, 1, (0, 0, 0, 0)), (45, .getfield 7, 3, (8, 0, 657, 0)), (48, .bipush 26, 2, (0, 0, 0, 0)), (50, .iload_n 1, 1, (0, 0, 0, 0)),
  (51, .iadd, 1, (0, 0, 0, 0)), (52, .iload_n 2, 1, (0, 0, 0, 0)), (53, .iastore, 1, (0, 0, 0, 0)), (54, .iload_n 3, 1, (0, 0, 0, 0)), (55, .ireturn, 1, (0, 0, 0, 0))]
def mX8_set : ME := (yX8_set, cX8_set, 4, (some .int), 0, 2, 8, tX8_set)
def tX8_playerOf : List CI := [(0, .aload_n 0, 1, (0, 0, 0, 0)), (1, .iload_n 1, 1, (0, 0, 0, 0)), (2, .invokevirtual 56, 3, (91, 0, 742, 0)), (5, .ifCond .eq 12, 3, (0, 0, 0, 0)), (8, .iload_n 2, 1, (0, 0, 0, 0)), (9, .iconst 0, 1, (0, 0, 0, 0)),
  (10, .iconst 5, 1, (0, 0, 0, 0)), (11, .invokestatic 43, 3, (88, 0, 654, 0)), (14, .ifCond .ne 6, 3, (0, 0, 0, 0)), (17, .ldc 47, 2, (728, 0, 0, -1000001)), (19, .ireturn, 1, (0, 0, 0, 0)), (20, .iload_n 2, 1, (0, 0, 0, 0)),
  (21, .iconst 2, 1, (0, 0, 0, 0)), (22, .if_icmp .ne 20, 3, (0, 0, 0, 0)), (25, .aload_n 0, 1, (0, 0, 0, 0)), (26, .iload_n 1, 1, (0, 0, 0, 0)), (27, .iconst 2, 1, (0, 0, 0, 0)), (28, .invokevirtual 52, 3, (92, 0, 746, 0)),
  (31, .ifCond .lt 7, 3, (0, 0, 0, 0)), (34, .iconst 1, 1, (0, 0, 0, 0)), (35, .goto 13, 3, (0, 0, 0, 0)), (38, .iconst 0, 1, (0, 0, 0, 0)), (39, .goto 9, 3, (0, 0, 0, 0)), (42, .aload_n 0, 1, (0, 0, 0, 0)),
  (43, .iload_n 1, 1, (0, 0, 0, 0)), (44, .iload_n 2, 1, (0, 0, 0, 0)), (45, .invokevirtual 52, 3, (92, 0, 746, 0)), (48, .ireturn, 1, (0, 0, 0, 0))]
def mX8_playerOf : ME := (yX8_playerOf, cX8_playerOf, 3, (some .int), 0, 2, 8, tX8_playerOf)
def tX8_lotOf : List CI := [(0, .iload_n 1, 1, (0, 0, 0, 0)), (1, .iconst 0, 1, (0, 0, 0, 0)), (2, .iconst 1, 1, (0, 0, 0, 0)), (3, .invokestatic 43, 3, (88, 0, 654, 0)), (6, .ifCond .eq 7, 3, (0, 0, 0, 0)), (9, .iload_n 2, 1, (0, 0, 0, 0)),
  (10, .ifCond .ge 6, 3, (0, 0, 0, 0)), (13, .ldc 47, 2, (728, 0, 0, -1000001)), (15, .ireturn, 1, (0, 0, 0, 0)), (16, .iload_n 2, 1, (0, 0, 0, 0)), (17, .aload_n 0, 1, (0, 0, 0, 0)), (18, .getfield 7, 3, (8, 0, 657, 0)),
  (21, .iload_n 1, 1, (0, 0, 0, 0)), (22, .ifCond .ne 7, 3, (0, 0, 0, 0)), (25, .iconst 4, 1, (0, 0, 0, 0)), (26, .goto 5, 3, (0, 0, 0, 0)), (29, .bipush 25, 2, (0, 0, 0, 0)), (31, .iaload, 1, (0, 0, 0, 0)),
  (32, .if_icmp .lt 8, 3, (0, 0, 0, 0)), (35, .ldc 95, 2, (806, 0, 0, -1000004)), (37, .goto 21, 3, (0, 0, 0, 0)), (40, .aload_n 0, 1, (0, 0, 0, 0)), (41, .getfield 7, 3, (8, 0, 657, 0)), (44, .iload_n 1, 1, (0, 0, 0, 0)),
  (45, .ifCond .ne 7, 3, (0, 0, 0, 0)), (48, .iconst 5, 1, (0, 0, 0, 0)), (49, .goto 6, 3, (0, 0, 0, 0)), (52, .sipush 2087, 3, (0, 0, 0, 0)), (55, .iload_n 2, 1, (0, 0, 0, 0)), (56, .iadd, 1, (0, 0, 0, 0)),
  (57, .iaload, 1, (0, 0, 0, 0)), (58, .ireturn, 1, (0, 0, 0, 0))]
def mX8_lotOf : ME := (yX8_lotOf, cX8_lotOf, 3, (some .int), 0, 2, 8, tX8_lotOf)
def tX8_roundOf : List CI := [(0, .iload_n 2, 1, (0, 0, 0, 0)), (1, .bipush 10, 2, (0, 0, 0, 0)), (3, .if_icmp .lt 18, 3, (0, 0, 0, 0)), (6, .aload_n 0, 1, (0, 0, 0, 0)), (7, .iload_n 2, 1, (0, 0, 0, 0)), (8, .bipush 10, 2, (0, 0, 0, 0)),
  (10, .isub, 1, (0, 0, 0, 0)), (11, .invokevirtual 56, 3, (91, 0, 742, 0)), (14, .ifCond .eq 7, 3, (0, 0, 0, 0)), (17, .iconst 1, 1, (0, 0, 0, 0)), (18, .goto 4, 3, (0, 0, 0, 0)), (21, .iconst 0, 1, (0, 0, 0, 0)),
  (22, .istore_n 3, 1, (0, 0, 0, 0)), (23, .iload_n 1, 1, (0, 0, 0, 0)), (24, .ifCond .lt 16, 3, (0, 0, 0, 0)), (27, .iload_n 2, 1, (0, 0, 0, 0)), (28, .iconst 0, 1, (0, 0, 0, 0)), (29, .iconst 3, 1, (0, 0, 0, 0)),
  (30, .invokestatic 43, 3, (88, 0, 654, 0)), (33, .ifCond .ne 10, 3, (0, 0, 0, 0)), (36, .iload_n 3, 1, (0, 0, 0, 0)), (37, .ifCond .ne 6, 3, (0, 0, 0, 0)), (40, .ldc 47, 2, (728, 0, 0, -1000001)), (42, .ireturn, 1, (0, 0, 0, 0)),
  (43, .iload_n 1, 1, (0, 0, 0, 0)), (44, .aload_n 0, 1, (0, 0, 0, 0)), (45, .getfield 7, 3, (8, 0, 657, 0)), (48, .bipush 29, 2, (0, 0, 0, 0)), (50, .iaload, 1, (0, 0, 0, 0)), (51, .if_icmp .lt 8, 3, (0, 0, 0, 0)),
  (54, .ldc 95, 2, (806, 0, 0, -1000004)), (56, .goto 28, 3, (0, 0, 0, 0)), (59, .aload_n 0, 1, (0, 0, 0, 0)), (60, .getfield 7, 3, (8, 0, 657, 0)), (63, .bipush 30, 2, (0, 0, 0, 0)), (65, .bipush 8, 2, (0, 0, 0, 0)),
  (67, .iload_n 1, 1, (0, 0, 0, 0)), (68, .imul, 1, (0, 0, 0, 0)), (69, .iadd, 1, (0, 0, 0, 0)), (70, .iload_n 3, 1, (0, 0, 0, 0)), (71, .ifCond .eq 10, 3, (0, 0, 0, 0)), (74, .iload_n 2, 1, (0, 0, 0, 0)),
  (75, .bipush 6, 2, (0, 0, 0, 0)), (77, .isub, 1, (0, 0, 0, 0)), (78, .goto 4, 3, (0, 0, 0, 0)), (81, .iload_n 2, 1, (0, 0, 0, 0)), (82, .iadd, 1, (0, 0, 0, 0)), (83, .iaload, 1, (0, 0, 0, 0)),
  (84, .ireturn, 1, (0, 0, 0, 0))]
def mX8_roundOf : ME := (yX8_roundOf, cX8_roundOf, 4, (some .int), 0, 2, 8, tX8_roundOf)
def tX8_record : List CI := [(0, .iload_n 1, 1, (0, 0, 0, 0)), (1, .ifCond .lt 12, 3, (0, 0, 0, 0)), (4, .iload_n 2, 1, (0, 0, 0, 0)), (5, .iconst 0, 1, (0, 0, 0, 0)), (6, .iconst 3, 1, (0, 0, 0, 0)), (7, .invokestatic 43, 3, (88, 0, 654, 0)),
  (10, .ifCond .ne 6, 3, (0, 0, 0, 0)), (13, .ldc 47, 2, (728, 0, 0, -1000001)), (15, .ireturn, 1, (0, 0, 0, 0)), (16, .iload_n 1, 1, (0, 0, 0, 0)), (17, .aload_n 0, 1, (0, 0, 0, 0)), (18, .getfield 7, 3, (8, 0, 657, 0)),
  (21, .sipush 150, 3, (0, 0, 0, 0)), (24, .iaload, 1, (0, 0, 0, 0)), (25, .if_icmp .lt 8, 3, (0, 0, 0, 0)), (28, .ldc 95, 2, (806, 0, 0, -1000004)), (30, .goto 17, 3, (0, 0, 0, 0)), (33, .aload_n 0, 1, (0, 0, 0, 0)),
  (34, .getfield 7, 3, (8, 0, 657, 0)), (37, .sipush 151, 3, (0, 0, 0, 0)), (40, .iconst 4, 1, (0, 0, 0, 0)), (41, .iload_n 1, 1, (0, 0, 0, 0)), (42, .imul, 1, (0, 0, 0, 0)), (43, .iadd, 1, (0, 0, 0, 0)),
  (44, .iload_n 2, 1, (0, 0, 0, 0)), (45, .iadd, 1, (0, 0, 0, 0)), (46, .iaload, 1, (0, 0, 0, 0)), (47, .ireturn, 1, (0, 0, 0, 0))]
def mX8_record : ME := (yX8_record, cX8_record, 3, (some .int), 0, 2, 8, tX8_record)
def tX8_coinsAll : List CI := [(0, .aload_n 0, 1, (0, 0, 0, 0)), (1, .getfield 7, 3, (8, 0, 657, 0)), (4, .iconst 1, 1, (0, 0, 0, 0)), (5, .iaload, 1, (0, 0, 0, 0)), (6, .istore_n 1, 1, (0, 0, 0, 0)), (7, .iconst 0, 1, (0, 0, 0, 0)),
  (8, .istore_n 2, 1, (0, 0, 0, 0)), (9, .iload_n 2, 1, (0, 0, 0, 0)), (10, .aload_n 0, 1, (0, 0, 0, 0)), (11, .getfield 7, 3, (8, 0, 657, 0)), (14, .iconst 0, 1, (0, 0, 0, 0)), (15, .iaload, 1, (0, 0, 0, 0)),
  (16, .if_icmp .ge 18, 3, (0, 0, 0, 0)), (19, .iload_n 1, 1, (0, 0, 0, 0)), (20, .aload_n 0, 1, (0, 0, 0, 0)), (21, .iload_n 2, 1, (0, 0, 0, 0)), (22, .iconst 0, 1, (0, 0, 0, 0)), (23, .invokevirtual 52, 3, (92, 0, 746, 0)),
  (26, .iadd, 1, (0, 0, 0, 0)), (27, .istore_n 1, 1, (0, 0, 0, 0)), (28, .iinc 2 1, 3, (0, 0, 0, 0)), (31, .goto (-22), 3, (0, 0, 0, 0)), (34, .iload_n 1, 1, (0, 0, 0, 0)), (35, .ireturn, 1, (0, 0, 0, 0))]
def mX8_coinsAll : ME := (yX8_coinsAll, cX8_coinsAll, 3, (some .int), 0, 0, 8, tX8_coinsAll)
def tX8_count : List CI := [(0, .iload_n 1, 1, (0, 0, 0, 0)), (1, .tableswitch 157 0 12 #[67, 74, 81, 89, 94, 101, 108, 115, 120, 125, 134, 139, 144], 67, (0, 0, 0, 0)), (68, .aload_n 0, 1, (0, 0, 0, 0)), (69, .getfield 7, 3, (8, 0, 657, 0)), (72, .iconst 0, 1, (0, 0, 0, 0)), (73, .iaload, 1, (0, 0, 0, 0)),
  (74, .ireturn, 1, (0, 0, 0, 0)), (75, .aload_n 0, 1, (0, 0, 0, 0)), (76, .getfield 7, 3, (8, 0, 657, 0)), (79, .iconst 4, 1, (0, 0, 0, 0)), (80, .iaload, 1, (0, 0, 0, 0)), (81, .ireturn, 1, (0, 0, 0, 0)),
  (82, .aload_n 0, 1, (0, 0, 0, 0)), (83, .getfield 7, 3, (8, 0, 657, 0)), (86, .bipush 25, 2, (0, 0, 0, 0)), (88, .iaload, 1, (0, 0, 0, 0)), (89, .ireturn, 1, (0, 0, 0, 0)), (90, .aload_n 0, 1, (0, 0, 0, 0)),
  (91, .invokevirtual 71, 3, (98, 0, 767, 0)), (94, .ireturn, 1, (0, 0, 0, 0)), (95, .aload_n 0, 1, (0, 0, 0, 0)), (96, .getfield 7, 3, (8, 0, 657, 0)), (99, .iconst 1, 1, (0, 0, 0, 0)), (100, .iaload, 1, (0, 0, 0, 0)),
  (101, .ireturn, 1, (0, 0, 0, 0)), (102, .aload_n 0, 1, (0, 0, 0, 0)), (103, .getfield 7, 3, (8, 0, 657, 0)), (106, .iconst 2, 1, (0, 0, 0, 0)), (107, .iaload, 1, (0, 0, 0, 0)), (108, .ireturn, 1, (0, 0, 0, 0)),
  (109, .aload_n 0, 1, (0, 0, 0, 0)), (110, .getfield 7, 3, (8, 0, 657, 0)), (113, .iconst 3, 1, (0, 0, 0, 0)), (114, .iaload, 1, (0, 0, 0, 0)), (115, .ireturn, 1, (0, 0, 0, 0)), (116, .aload_n 0, 1, (0, 0, 0, 0)),
  (117, .invokevirtual 61, 3, (96, 0, 751, 0)), (120, .ireturn, 1, (0, 0, 0, 0)), (121, .aload_n 0, 1, (0, 0, 0, 0)), (122, .invokevirtual 96, 3, (113, 0, 819, 0)), (125, .ireturn, 1, (0, 0, 0, 0)), (126, .aload_n 0, 1, (0, 0, 0, 0)),
  (127, .getfield 7, 3, (8, 0, 657, 0)), (130, .sipush 150, 3, (0, 0, 0, 0)), (133, .iaload, 1, (0, 0, 0, 0)), (134, .ireturn, 1, (0, 0, 0, 0)), (135, .aload_n 0, 1, (0, 0, 0, 0)), (136, .getfield 39, 3, (8, 6, 663, 0)),
  (139, .ireturn, 1, (0, 0, 0, 0)), (140, .aload_n 0, 1, (0, 0, 0, 0)), (141, .getfield 99, 3, (8, 9, 666, 0)), (144, .ireturn, 1, (0, 0, 0, 0)), (145, .aload_n 0, 1, (0, 0, 0, 0)), (146, .getfield 102, 3, (8, 5, 662, 0)),
  (149, .ifCond .eq 7, 3, (0, 0, 0, 0)), (152, .iconst 1, 1, (0, 0, 0, 0)), (153, .goto 4, 3, (0, 0, 0, 0)), (156, .iconst 0, 1, (0, 0, 0, 0)), (157, .ireturn, 1, (0, 0, 0, 0)), (158, .iload_n 1, 1, (0, 0, 0, 0)),
  (159, .bipush 20, 2, (0, 0, 0, 0)), (161, .bipush 22, 2, (0, 0, 0, 0)), (163, .invokestatic 43, 3, (88, 0, 654, 0)), (166, .ifCond .eq 18, 3, (0, 0, 0, 0)), (169, .aload_n 0, 1, (0, 0, 0, 0)), (170, .getfield 7, 3, (8, 0, 657, 0)),
  (173, .bipush 26, 2, (0, 0, 0, 0)), (175, .iload_n 1, 1, (0, 0, 0, 0)), (176, .iadd, 1, (0, 0, 0, 0)), (177, .bipush 20, 2, (0, 0, 0, 0)), (179, .isub, 1, (0, 0, 0, 0)), (180, .iaload, 1, (0, 0, 0, 0)),
  (181, .goto 5, 3, (0, 0, 0, 0)), (184, .ldc 47, 2, (728, 0, 0, -1000001)), (186, .ireturn, 1, (0, 0, 0, 0))]
def mX8_count : ME := (yX8_count, cX8_count, 2, (some .int), 0, 1, 8, tX8_count)
def tX8_winner : List CI := [(0, .iconst 0, 1, (0, 0, 0, 0)), (1, .istore_n 1, 1, (0, 0, 0, 0)), (2, .iconst 1, 1, (0, 0, 0, 0)), (3, .istore_n 2, 1, (0, 0, 0, 0)), (4, .iload_n 2, 1, (0, 0, 0, 0)), (5, .aload_n 0, 1, (0, 0, 0, 0)),
  (6, .getfield 7, 3, (8, 0, 657, 0)), (9, .iconst 0, 1, (0, 0, 0, 0)), (10, .iaload, 1, (0, 0, 0, 0)), (11, .if_icmp .ge 52, 3, (0, 0, 0, 0)), (14, .aload_n 0, 1, (0, 0, 0, 0)), (15, .iload_n 2, 1, (0, 0, 0, 0)),
  (16, .iconst 1, 1, (0, 0, 0, 0)), (17, .invokevirtual 52, 3, (92, 0, 746, 0)), (20, .aload_n 0, 1, (0, 0, 0, 0)), (21, .iload_n 1, 1, (0, 0, 0, 0)), (22, .iconst 1, 1, (0, 0, 0, 0)), (23, .invokevirtual 52, 3, (92, 0, 746, 0)),
  (26, .isub, 1, (0, 0, 0, 0)), (27, .istore_n 3, 1, (0, 0, 0, 0)), (28, .iload_n 3, 1, (0, 0, 0, 0)), (29, .ifCond .gt 22, 3, (0, 0, 0, 0)), (32, .iload_n 3, 1, (0, 0, 0, 0)), (33, .ifCond .ne 22, 3, (0, 0, 0, 0)),
  (36, .aload_n 0, 1, (0, 0, 0, 0)), (37, .iload_n 2, 1, (0, 0, 0, 0)), (38, .iconst 0, 1, (0, 0, 0, 0)), (39, .invokevirtual 52, 3, (92, 0, 746, 0)), (42, .aload_n 0, 1, (0, 0, 0, 0)), (43, .iload_n 1, 1, (0, 0, 0, 0)),
  (44, .iconst 0, 1, (0, 0, 0, 0)), (45, .invokevirtual 52, 3, (92, 0, 746, 0)), (48, .if_icmp .le 7, 3, (0, 0, 0, 0)), (51, .iload_n 2, 1, (0, 0, 0, 0)), (52, .goto 4, 3, (0, 0, 0, 0)), (55, .iload_n 1, 1, (0, 0, 0, 0)),
  (56, .istore_n 1, 1, (0, 0, 0, 0)), (57, .iinc 2 1, 3, (0, 0, 0, 0)), (60, .goto (-56), 3, (0, 0, 0, 0)), (63, .iload_n 1, 1, (0, 0, 0, 0)), (64, .ireturn, 1, (0, 0, 0, 0))]
def mX8_winner : ME := (yX8_winner, cX8_winner, 4, (some .int), 0, 0, 8, tX8_winner)
def tX8_sure : List CI := [(0, .aload_n 0, 1, (0, 0, 0, 0)), (1, .iload_n 1, 1, (0, 0, 0, 0)), (2, .invokevirtual 56, 3, (91, 0, 742, 0)), (5, .ifCond .ne 6, 3, (0, 0, 0, 0)), (8, .ldc 47, 2, (728, 0, 0, -1000001)), (10, .ireturn, 1, (0, 0, 0, 0)),
  (11, .aload_n 0, 1, (0, 0, 0, 0)), (12, .getfield 7, 3, (8, 0, 657, 0)), (15, .iconst 4, 1, (0, 0, 0, 0)), (16, .iaload, 1, (0, 0, 0, 0)), (17, .ifCond .ne 6, 3, (0, 0, 0, 0)), (20, .ldc 60, 2, (750, 0, 0, -1000002)),
  (22, .ireturn, 1, (0, 0, 0, 0)), (23, .iconst 0, 1, (0, 0, 0, 0)), (24, .istore_n 2, 1, (0, 0, 0, 0)), (25, .iconst 0, 1, (0, 0, 0, 0)), (26, .istore_n 3, 1, (0, 0, 0, 0)), (27, .iload_n 3, 1, (0, 0, 0, 0)),
  (28, .aload_n 0, 1, (0, 0, 0, 0)), (29, .getfield 7, 3, (8, 0, 657, 0)), (32, .iconst 0, 1, (0, 0, 0, 0)), (33, .iaload, 1, (0, 0, 0, 0)), (34, .if_icmp .ge 35, 3, (0, 0, 0, 0)), (37, .iload_n 3, 1, (0, 0, 0, 0)),
  (38, .iload_n 1, 1, (0, 0, 0, 0)), (39, .if_icmp .eq 22, 3, (0, 0, 0, 0)), (42, .aload_n 0, 1, (0, 0, 0, 0)), (43, .iload_n 3, 1, (0, 0, 0, 0)), (44, .iconst 0, 1, (0, 0, 0, 0)), (45, .invokevirtual 52, 3, (92, 0, 746, 0)),
  (48, .iload_n 2, 1, (0, 0, 0, 0)), (49, .if_icmp .le 12, 3, (0, 0, 0, 0)), (52, .aload_n 0, 1, (0, 0, 0, 0)), (53, .iload_n 3, 1, (0, 0, 0, 0)), (54, .iconst 0, 1, (0, 0, 0, 0)), (55, .invokevirtual 52, 3, (92, 0, 746, 0)),
  (58, .goto 4, 3, (0, 0, 0, 0)), (61, .iload_n 2, 1, (0, 0, 0, 0)), (62, .istore_n 2, 1, (0, 0, 0, 0)), (63, .iinc 3 1, 3, (0, 0, 0, 0)), (66, .goto (-39), 3, (0, 0, 0, 0)), (69, .iload_n 2, 1, (0, 0, 0, 0)),
  (70, .aload_n 0, 1, (0, 0, 0, 0)), (71, .iload_n 1, 1, (0, 0, 0, 0)), (72, .iconst 0, 1, (0, 0, 0, 0)), (73, .invokevirtual 52, 3, (92, 0, 746, 0)), (76, .if_icmp .ge 9, 3, (0, 0, 0, 0)), (79, .iload_n 2, 1, (0, 0, 0, 0)),
  (80, .iconst 1, 1, (0, 0, 0, 0)), (81, .iadd, 1, (0, 0, 0, 0)), (82, .goto 5, 3, (0, 0, 0, 0)), (85, .ldc 95, 2, (806, 0, 0, -1000004)), (87, .ireturn, 1, (0, 0, 0, 0))]
def mX8_sure : ME := (yX8_sure, cX8_sure, 4, (some .int), 0, 1, 8, tX8_sure)
def tX8_reply : List CI := [(0, .aload_n 0, 1, (0, 0, 0, 0)), (1, .iload_n 1, 1, (0, 0, 0, 0)), (2, .invokevirtual 56, 3, (91, 0, 742, 0)), (5, .ifCond .ne 6, 3, (0, 0, 0, 0)), (8, .ldc 47, 2, (728, 0, 0, -1000001)), (10, .ireturn, 1, (0, 0, 0, 0)),
  (11, .iconst 0, 1, (0, 0, 0, 0)), (12, .istore_n 2, 1, (0, 0, 0, 0)), (13, .iconst 0, 1, (0, 0, 0, 0)), (14, .istore_n 3, 1, (0, 0, 0, 0)), (15, .iload_n 3, 1, (0, 0, 0, 0)), (16, .aload_n 0, 1, (0, 0, 0, 0)),
  (17, .getfield 7, 3, (8, 0, 657, 0)), (20, .iconst 0, 1, (0, 0, 0, 0)), (21, .iaload, 1, (0, 0, 0, 0)), (22, .if_icmp .ge 31, 3, (0, 0, 0, 0)), (25, .iload_n 2, 1, (0, 0, 0, 0)), (26, .iload_n 3, 1, (0, 0, 0, 0)),
  (27, .iload_n 1, 1, (0, 0, 0, 0)), (28, .if_icmp .eq 16, 3, (0, 0, 0, 0)), (31, .aload_n 0, 1, (0, 0, 0, 0)), (32, .iload_n 3, 1, (0, 0, 0, 0)), (33, .iconst 2, 1, (0, 0, 0, 0)), (34, .invokevirtual 52, 3, (92, 0, 746, 0)),
  (37, .ifCond .lt 7, 3, (0, 0, 0, 0)), (40, .iconst 1, 1, (0, 0, 0, 0)), (41, .goto 4, 3, (0, 0, 0, 0)), (44, .iconst 0, 1, (0, 0, 0, 0)), (45, .iadd, 1, (0, 0, 0, 0)), (46, .istore_n 2, 1, (0, 0, 0, 0)),
  (47, .iinc 3 1, 3, (0, 0, 0, 0)), (50, .goto (-35), 3, (0, 0, 0, 0)), (53, .aload_n 0, 1, (0, 0, 0, 0)), (54, .getfield 7, 3, (8, 0, 657, 0)), (57, .iconst 4, 1, (0, 0, 0, 0)), (58, .iaload, 1, (0, 0, 0, 0)),
  (59, .ifCond .eq 15, 3, (0, 0, 0, 0)), (62, .iload_n 2, 1, (0, 0, 0, 0)), (63, .aload_n 0, 1, (0, 0, 0, 0)), (64, .getfield 7, 3, (8, 0, 657, 0)), (67, .iconst 0, 1, (0, 0, 0, 0)), (68, .iaload, 1, (0, 0, 0, 0)),
  (69, .iconst 1, 1, (0, 0, 0, 0)), (70, .isub, 1, (0, 0, 0, 0)), (71, .if_icmp .ge 6, 3, (0, 0, 0, 0)), (74, .ldc 60, 2, (750, 0, 0, -1000002)), (76, .ireturn, 1, (0, 0, 0, 0)), (77, .aload_n 0, 1, (0, 0, 0, 0)),
  (78, .getfield 7, 3, (8, 0, 657, 0)), (81, .aload_n 0, 1, (0, 0, 0, 0)), (82, .getfield 19, 3, (8, 3, 660, 0)), (85, .invokestatic 105, 3, (89, 0, 835, 0)), (88, .iconst 0, 1, (0, 0, 0, 0)), (89, .istore_n 3, 1, (0, 0, 0, 0)),
  (90, .iconst 0, 1, (0, 0, 0, 0)), (91, .istore 4, 2, (0, 0, 0, 0)), (93, .iconst (-1), 1, (0, 0, 0, 0)), (94, .istore 5, 2, (0, 0, 0, 0)), (96, .iconst 0, 1, (0, 0, 0, 0)), (97, .istore 6, 2, (0, 0, 0, 0)),
  (99, .iload 6, 2, (0, 0, 0, 0)), (101, .aload_n 0, 1, (0, 0, 0, 0)), (102, .getfield 19, 3, (8, 3, 660, 0)), (105, .bipush 126, 2, (0, 0, 0, 0)), (107, .bipush 6, 2, (0, 0, 0, 0)), (109, .iload_n 1, 1, (0, 0, 0, 0)),
  (110, .imul, 1, (0, 0, 0, 0)), (111, .iadd, 1, (0, 0, 0, 0)), (112, .iconst 0, 1, (0, 0, 0, 0)), (113, .iadd, 1, (0, 0, 0, 0)), (114, .iaload, 1, (0, 0, 0, 0)), (115, .if_icmp .gt 104, 3, (0, 0, 0, 0)),
  (118, .aload_n 0, 1, (0, 0, 0, 0)), (119, .getfield 19, 3, (8, 3, 660, 0)), (122, .aload_n 0, 1, (0, 0, 0, 0)), (123, .getfield 7, 3, (8, 0, 657, 0)), (126, .invokestatic 105, 3, (89, 0, 835, 0)), (129, .aload_n 0, 1, (0, 0, 0, 0)),
  (130, .getfield 7, 3, (8, 0, 657, 0)), (133, .bipush 126, 2, (0, 0, 0, 0)), (135, .bipush 6, 2, (0, 0, 0, 0)), (137, .iload_n 1, 1, (0, 0, 0, 0)), (138, .imul, 1, (0, 0, 0, 0)), (139, .iadd, 1, (0, 0, 0, 0)),
  (140, .iconst 2, 1, (0, 0, 0, 0)), (141, .iadd, 1, (0, 0, 0, 0)), (142, .iload 6, 2, (0, 0, 0, 0)), (144, .iastore, 1, (0, 0, 0, 0)), (145, .aload_n 0, 1, (0, 0, 0, 0)), (146, .invokevirtual 92, 3, (106, 0, 759, 0)),
  (149, .istore 7, 2, (0, 0, 0, 0)), (151, .aload_n 0, 1, (0, 0, 0, 0)), (152, .iload_n 1, 1, (0, 0, 0, 0)), (153, .iconst 1, 1, (0, 0, 0, 0)), (154, .invokevirtual 52, 3, (92, 0, 746, 0)), (157, .iload 4, 2, (0, 0, 0, 0)),
  (159, .isub, 1, (0, 0, 0, 0)), (160, .istore 8, 2, (0, 0, 0, 0)), (162, .iload 7, 2, (0, 0, 0, 0)), (164, .iconst 4, 1, (0, 0, 0, 0)), (165, .if_icmp .ge 48, 3, (0, 0, 0, 0)), (168, .iload 5, 2, (0, 0, 0, 0)),
  (170, .ifCond .lt 24, 3, (0, 0, 0, 0)), (173, .iload 8, 2, (0, 0, 0, 0)), (175, .ifCond .gt 19, 3, (0, 0, 0, 0)), (178, .iload 8, 2, (0, 0, 0, 0)), (180, .ifCond .ne 33, 3, (0, 0, 0, 0)), (183, .aload_n 0, 1, (0, 0, 0, 0)),
  (184, .iload_n 1, 1, (0, 0, 0, 0)), (185, .iconst 0, 1, (0, 0, 0, 0)), (186, .invokevirtual 52, 3, (92, 0, 746, 0)), (189, .iload 5, 2, (0, 0, 0, 0)), (191, .if_icmp .le 22, 3, (0, 0, 0, 0)), (194, .iload 6, 2, (0, 0, 0, 0)),
  (196, .istore_n 3, 1, (0, 0, 0, 0)), (197, .aload_n 0, 1, (0, 0, 0, 0)), (198, .iload_n 1, 1, (0, 0, 0, 0)), (199, .iconst 1, 1, (0, 0, 0, 0)), (200, .invokevirtual 52, 3, (92, 0, 746, 0)), (203, .istore 4, 2, (0, 0, 0, 0)),
  (205, .aload_n 0, 1, (0, 0, 0, 0)), (206, .iload_n 1, 1, (0, 0, 0, 0)), (207, .iconst 0, 1, (0, 0, 0, 0)), (208, .invokevirtual 52, 3, (92, 0, 746, 0)), (211, .istore 5, 2, (0, 0, 0, 0)), (213, .iinc 6 1, 3, (0, 0, 0, 0)),
  (216, .goto (-117), 3, (0, 0, 0, 0)), (219, .aload_n 0, 1, (0, 0, 0, 0)), (220, .getfield 19, 3, (8, 3, 660, 0)), (223, .aload_n 0, 1, (0, 0, 0, 0)), (224, .getfield 7, 3, (8, 0, 657, 0)), (227, .invokestatic 105, 3, (89, 0, 835, 0)),
  (230, .iload_n 3, 1, (0, 0, 0, 0)), (231, .ireturn, 1, (0, 0, 0, 0))]
def mX8_reply : ME := (yX8_reply, cX8_reply, 9, (some .int), 0, 1, 8, tX8_reply)
def tX8_tries : List CI := [(0, .aload_n 0, 1, (0, 0, 0, 0)), (1, .iload_n 1, 1, (0, 0, 0, 0)), (2, .putfield 109, 3, (8, 10, 667, 0)), (5, .aload_n 0, 1, (0, 0, 0, 0)), (6, .iload_n 2, 1, (0, 0, 0, 0)), (7, .putfield 112, 3, (8, 11, 668, 0)),
  (10, .aload_n 0, 1, (0, 0, 0, 0)), (11, .iload_n 3, 1, (0, 0, 0, 0)), (12, .putfield 115, 3, (8, 12, 669, 0)), (15, .aload_n 0, 1, (0, 0, 0, 0)), (16, .iload 5, 2, (0, 0, 0, 0)), (18, .putfield 118, 3, (8, 14, 671, 0)),
  (21, .iload 6, 2, (0, 0, 0, 0)), (23, .iload 7, 2, (0, 0, 0, 0)), (25, .if_icmp .le 8, 3, (0, 0, 0, 0)), (28, .iload 6, 2, (0, 0, 0, 0)), (30, .goto 37, 3, (0, 0, 0, 0)), (33, .iload 6, 2, (0, 0, 0, 0)),
  (35, .iload 7, 2, (0, 0, 0, 0)), (37, .if_icmp .ne 18, 3, (0, 0, 0, 0)), (40, .iload 6, 2, (0, 0, 0, 0)), (42, .aload_n 0, 1, (0, 0, 0, 0)), (43, .getfield 7, 3, (8, 0, 657, 0)), (46, .bipush 26, 2, (0, 0, 0, 0)),
  (48, .iaload, 1, (0, 0, 0, 0)), (49, .invokestatic 65, 3, (102, 0, 779, 0)), (52, .goto 15, 3, (0, 0, 0, 0)), (55, .iload 6, 2, (0, 0, 0, 0)), (57, .aload_n 0, 1, (0, 0, 0, 0)), (58, .getfield 7, 3, (8, 0, 657, 0)),
  (61, .bipush 27, 2, (0, 0, 0, 0)), (63, .iaload, 1, (0, 0, 0, 0)), (64, .invokestatic 65, 3, (102, 0, 779, 0)), (67, .istore 8, 2, (0, 0, 0, 0)), (69, .iload 7, 2, (0, 0, 0, 0)), (71, .iload 6, 2, (0, 0, 0, 0)),
  (73, .if_icmp .le 8, 3, (0, 0, 0, 0)), (76, .iload 7, 2, (0, 0, 0, 0)), (78, .goto 37, 3, (0, 0, 0, 0)), (81, .iload 6, 2, (0, 0, 0, 0)), (83, .iload 7, 2, (0, 0, 0, 0)), (85, .if_icmp .ne 18, 3, (0, 0, 0, 0)),
  (88, .iload 6, 2, (0, 0, 0, 0)), (90, .aload_n 0, 1, (0, 0, 0, 0)), (91, .getfield 7, 3, (8, 0, 657, 0)), (94, .bipush 26, 2, (0, 0, 0, 0)), (96, .iaload, 1, (0, 0, 0, 0)), (97, .invokestatic 65, 3, (102, 0, 779, 0)),
  (100, .goto 15, 3, (0, 0, 0, 0)), (103, .iload 7, 2, (0, 0, 0, 0)), (105, .aload_n 0, 1, (0, 0, 0, 0)), (106, .getfield 7, 3, (8, 0, 657, 0)), (109, .bipush 27, 2, (0, 0, 0, 0)), (111, .iaload, 1, (0, 0, 0, 0)),
  (112, .invokestatic 65, 3, (102, 0, 779, 0)), (115, .istore 9, 2, (0, 0, 0, 0)), (117, .aload_n 0, 1, (0, 0, 0, 0)), (118, .dup, 1, (0, 0, 0, 0)), (119, .getfield 109, 3, (8, 10, 667, 0)), (122, .iload 8, 2, (0, 0, 0, 0)),
  (124, .isub, 1, (0, 0, 0, 0)), (125, .putfield 109, 3, (8, 10, 667, 0)), (128, .aload_n 0, 1, (0, 0, 0, 0)), (129, .dup, 1, (0, 0, 0, 0)), (130, .getfield 112, 3, (8, 11, 668, 0)), (133, .iload 9, 2, (0, 0, 0, 0)),
  (135, .isub, 1, (0, 0, 0, 0)), (136, .putfield 112, 3, (8, 11, 668, 0)), (139, .aload_n 0, 1, (0, 0, 0, 0)), (140, .iload 4, 2, (0, 0, 0, 0)), (142, .iload 8, 2, (0, 0, 0, 0)), (144, .iadd, 1, (0, 0, 0, 0)),
  (145, .iload 9, 2, (0, 0, 0, 0)), (147, .iadd, 1, (0, 0, 0, 0)), (148, .putfield 121, 3, (8, 13, 670, 0)), (151, .iload 6, 2, (0, 0, 0, 0)), (153, .iload 7, 2, (0, 0, 0, 0)), (155, .if_icmp .ne 4, 3, (0, 0, 0, 0)),
  (158, .return_, 1, (0, 0, 0, 0)), (159, .aload_n 0, 1, (0, 0, 0, 0)), (160, .dup, 1, (0, 0, 0, 0)), (161, .getfield 115, 3, (8, 12, 669, 0)), (164, .iload 6, 2, (0, 0, 0, 0)), (166, .iload 7, 2, (0, 0, 0, 0)),
  (168, .if_icmp .le 8, 3, (0, 0, 0, 0)), (171, .iload 5, 2, (0, 0, 0, 0)), (173, .goto 6, 3, (0, 0, 0, 0)), (176, .iload 5, 2, (0, 0, 0, 0)), (178, .ineg, 1, (0, 0, 0, 0)), (179, .iadd, 1, (0, 0, 0, 0)),
  (180, .putfield 115, 3, (8, 12, 669, 0)), (183, .aload_n 0, 1, (0, 0, 0, 0)), (184, .iconst 0, 1, (0, 0, 0, 0)), (185, .putfield 118, 3, (8, 14, 671, 0)), (188, .aload_n 0, 1, (0, 0, 0, 0)), (189, .getfield 7, 3, (8, 0, 657, 0)),
  (192, .bipush 28, 2, (0, 0, 0, 0)), (194, .iaload, 1, (0, 0, 0, 0)), (195, .iconst 1, 1, (0, 0, 0, 0)), (196, .if_icmp .ne 56, 3, (0, 0, 0, 0)), (199, .aload_n 0, 1, (0, 0, 0, 0)), (200, .dup, 1, (0, 0, 0, 0)),
  (201, .getfield 109, 3, (8, 10, 667, 0)), (204, .iload 6, 2, (0, 0, 0, 0)), (206, .iload 7, 2, (0, 0, 0, 0)), (208, .if_icmp .le 7, 3, (0, 0, 0, 0)), (211, .iconst 0, 1, (0, 0, 0, 0)), (212, .goto 7, 3, (0, 0, 0, 0)),
  (215, .aload_n 0, 1, (0, 0, 0, 0)), (216, .getfield 121, 3, (8, 13, 670, 0)), (219, .iadd, 1, (0, 0, 0, 0)), (220, .putfield 109, 3, (8, 10, 667, 0)), (223, .aload_n 0, 1, (0, 0, 0, 0)), (224, .dup, 1, (0, 0, 0, 0)),
  (225, .getfield 112, 3, (8, 11, 668, 0)), (228, .iload 6, 2, (0, 0, 0, 0)), (230, .iload 7, 2, (0, 0, 0, 0)), (232, .if_icmp .le 10, 3, (0, 0, 0, 0)), (235, .aload_n 0, 1, (0, 0, 0, 0)), (236, .getfield 121, 3, (8, 13, 670, 0)),
  (239, .goto 4, 3, (0, 0, 0, 0)), (242, .iconst 0, 1, (0, 0, 0, 0)), (243, .iadd, 1, (0, 0, 0, 0)), (244, .putfield 112, 3, (8, 11, 668, 0)), (247, .aload_n 0, 1, (0, 0, 0, 0)), (248, .iconst 0, 1, (0, 0, 0, 0)),
  (249, .putfield 121, 3, (8, 13, 670, 0)), (252, .return_, 1, (0, 0, 0, 0))]
def mX8_tries : ME := (yX8_tries, cX8_tries, 10, none, 0, 7, 8, tX8_tries)
def tX8_holdsOne : List CI := [(0, .iload 6, 2, (0, 0, 0, 0)), (2, .aload_n 0, 1, (0, 0, 0, 0)), (3, .getfield 7, 3, (8, 0, 657, 0)), (6, .iconst 4, 1, (0, 0, 0, 0)), (7, .iaload, 1, (0, 0, 0, 0)), (8, .if_icmp .lt 5, 3, (0, 0, 0, 0)),
  (11, .iload_n 3, 1, (0, 0, 0, 0)), (12, .ireturn, 1, (0, 0, 0, 0)), (13, .iconst 0, 1, (0, 0, 0, 0)), (14, .istore 7, 2, (0, 0, 0, 0)), (16, .aload_n 0, 1, (0, 0, 0, 0)), (17, .iconst (-1), 1, (0, 0, 0, 0)),
  (18, .putfield 124, 3, (8, 15, 672, 0)), (21, .iconst 0, 1, (0, 0, 0, 0)), (22, .istore 8, 2, (0, 0, 0, 0)), (24, .iload 8, 2, (0, 0, 0, 0)), (26, .iload_n 1, 1, (0, 0, 0, 0)), (27, .if_icmp .gt 101, 3, (0, 0, 0, 0)),
  (30, .iconst 0, 1, (0, 0, 0, 0)), (31, .istore 9, 2, (0, 0, 0, 0)), (33, .iconst 0, 1, (0, 0, 0, 0)), (34, .istore 10, 2, (0, 0, 0, 0)), (36, .iload 10, 2, (0, 0, 0, 0)), (38, .iload_n 2, 1, (0, 0, 0, 0)),
  (39, .if_icmp .gt 59, 3, (0, 0, 0, 0)), (42, .aload_n 0, 1, (0, 0, 0, 0)), (43, .iload_n 1, 1, (0, 0, 0, 0)), (44, .iload_n 2, 1, (0, 0, 0, 0)), (45, .iload_n 3, 1, (0, 0, 0, 0)), (46, .iload 4, 2, (0, 0, 0, 0)),
  (48, .iload 5, 2, (0, 0, 0, 0)), (50, .aload_n 0, 1, (0, 0, 0, 0)), (51, .getfield 7, 3, (8, 0, 657, 0)), (54, .iconst 5, 1, (0, 0, 0, 0)), (55, .iload 6, 2, (0, 0, 0, 0)), (57, .iadd, 1, (0, 0, 0, 0)),
  (58, .iaload, 1, (0, 0, 0, 0)), (59, .iadd, 1, (0, 0, 0, 0)), (60, .iload 8, 2, (0, 0, 0, 0)), (62, .iload 10, 2, (0, 0, 0, 0)), (64, .invokevirtual 127, 3, (118, 0, 850, 0)), (67, .iload 10, 2, (0, 0, 0, 0)),
  (69, .ifCond .eq 12, 3, (0, 0, 0, 0)), (72, .aload_n 0, 1, (0, 0, 0, 0)), (73, .getfield 115, 3, (8, 12, 669, 0)), (76, .iload 9, 2, (0, 0, 0, 0)), (78, .if_icmp .ge 10, 3, (0, 0, 0, 0)), (81, .aload_n 0, 1, (0, 0, 0, 0)),
  (82, .getfield 115, 3, (8, 12, 669, 0)), (85, .goto 5, 3, (0, 0, 0, 0)), (88, .iload 9, 2, (0, 0, 0, 0)), (90, .istore 9, 2, (0, 0, 0, 0)), (92, .iinc 10 1, 3, (0, 0, 0, 0)), (95, .goto (-59), 3, (0, 0, 0, 0)),
  (98, .aload_n 0, 1, (0, 0, 0, 0)), (99, .getfield 124, 3, (8, 15, 672, 0)), (102, .ifCond .lt 10, 3, (0, 0, 0, 0)), (105, .iload 9, 2, (0, 0, 0, 0)), (107, .iload 7, 2, (0, 0, 0, 0)), (109, .if_icmp .le 13, 3, (0, 0, 0, 0)),
  (112, .iload 9, 2, (0, 0, 0, 0)), (114, .istore 7, 2, (0, 0, 0, 0)), (116, .aload_n 0, 1, (0, 0, 0, 0)), (117, .iload 8, 2, (0, 0, 0, 0)), (119, .putfield 124, 3, (8, 15, 672, 0)), (122, .iinc 8 1, 3, (0, 0, 0, 0)),
  (125, .goto (-101), 3, (0, 0, 0, 0)), (128, .iload 7, 2, (0, 0, 0, 0)), (130, .ireturn, 1, (0, 0, 0, 0))]
def mX8_holdsOne : ME := (yX8_holdsOne, cX8_holdsOne, 11, (some .int), 0, 6, 8, tX8_holdsOne)
def tX8_holdsTwo : List CI := [(0, .aload_n 0, 1, (0, 0, 0, 0)), (1, .getfield 7, 3, (8, 0, 657, 0)), (4, .iconst 4, 1, (0, 0, 0, 0)), (5, .iaload, 1, (0, 0, 0, 0)), (6, .ifCond .ne 5, 3, (0, 0, 0, 0)), (9, .iload_n 3, 1, (0, 0, 0, 0)),
  (10, .ireturn, 1, (0, 0, 0, 0)), (11, .iconst 0, 1, (0, 0, 0, 0)), (12, .istore 4, 2, (0, 0, 0, 0)), (14, .iconst (-1), 1, (0, 0, 0, 0)), (15, .istore 5, 2, (0, 0, 0, 0)), (17, .iconst 0, 1, (0, 0, 0, 0)),
  (18, .istore 6, 2, (0, 0, 0, 0)), (20, .iload 6, 2, (0, 0, 0, 0)), (22, .iload_n 1, 1, (0, 0, 0, 0)), (23, .if_icmp .gt 123, 3, (0, 0, 0, 0)), (26, .iconst 0, 1, (0, 0, 0, 0)), (27, .istore 7, 2, (0, 0, 0, 0)),
  (29, .iconst 0, 1, (0, 0, 0, 0)), (30, .istore 8, 2, (0, 0, 0, 0)), (32, .iload 8, 2, (0, 0, 0, 0)), (34, .iload_n 2, 1, (0, 0, 0, 0)), (35, .if_icmp .gt 85, 3, (0, 0, 0, 0)), (38, .aload_n 0, 1, (0, 0, 0, 0)),
  (39, .iload_n 1, 1, (0, 0, 0, 0)), (40, .iload_n 2, 1, (0, 0, 0, 0)), (41, .iload_n 3, 1, (0, 0, 0, 0)), (42, .aload_n 0, 1, (0, 0, 0, 0)), (43, .getfield 7, 3, (8, 0, 657, 0)), (46, .iconst 1, 1, (0, 0, 0, 0)),
  (47, .iaload, 1, (0, 0, 0, 0)), (48, .aload_n 0, 1, (0, 0, 0, 0)), (49, .invokevirtual 71, 3, (98, 0, 767, 0)), (52, .aload_n 0, 1, (0, 0, 0, 0)), (53, .getfield 7, 3, (8, 0, 657, 0)), (56, .iconst 5, 1, (0, 0, 0, 0)),
  (57, .iaload, 1, (0, 0, 0, 0)), (58, .iadd, 1, (0, 0, 0, 0)), (59, .iload 6, 2, (0, 0, 0, 0)), (61, .iload 8, 2, (0, 0, 0, 0)), (63, .invokevirtual 127, 3, (118, 0, 850, 0)), (66, .aload_n 0, 1, (0, 0, 0, 0)),
  (67, .aload_n 0, 1, (0, 0, 0, 0)), (68, .getfield 109, 3, (8, 10, 667, 0)), (71, .aload_n 0, 1, (0, 0, 0, 0)), (72, .getfield 112, 3, (8, 11, 668, 0)), (75, .aload_n 0, 1, (0, 0, 0, 0)), (76, .getfield 115, 3, (8, 12, 669, 0)),
  (79, .aload_n 0, 1, (0, 0, 0, 0)), (80, .getfield 121, 3, (8, 13, 670, 0)), (83, .aload_n 0, 1, (0, 0, 0, 0)), (84, .getfield 118, 3, (8, 14, 671, 0)), (87, .iconst 1, 1, (0, 0, 0, 0)), (88, .invokevirtual 131, 3, (119, 0, 846, 0)),
  (91, .istore 9, 2, (0, 0, 0, 0)), (93, .iload 8, 2, (0, 0, 0, 0)), (95, .ifCond .eq 10, 3, (0, 0, 0, 0)), (98, .iload 9, 2, (0, 0, 0, 0)), (100, .iload 7, 2, (0, 0, 0, 0)), (102, .if_icmp .ge 8, 3, (0, 0, 0, 0)),
  (105, .iload 9, 2, (0, 0, 0, 0)), (107, .goto 5, 3, (0, 0, 0, 0)), (110, .iload 7, 2, (0, 0, 0, 0)), (112, .istore 7, 2, (0, 0, 0, 0)), (114, .iinc 8 1, 3, (0, 0, 0, 0)), (117, .goto (-85), 3, (0, 0, 0, 0)),
  (120, .iload 5, 2, (0, 0, 0, 0)), (122, .ifCond .lt 10, 3, (0, 0, 0, 0)), (125, .iload 7, 2, (0, 0, 0, 0)), (127, .iload 4, 2, (0, 0, 0, 0)), (129, .if_icmp .le 11, 3, (0, 0, 0, 0)), (132, .iload 7, 2, (0, 0, 0, 0)),
  (134, .istore 4, 2, (0, 0, 0, 0)), (136, .iload 6, 2, (0, 0, 0, 0)), (138, .istore 5, 2, (0, 0, 0, 0)), (140, .iinc 6 1, 3, (0, 0, 0, 0)), (143, .goto (-123), 3, (0, 0, 0, 0)), (146, .aload_n 0, 1, (0, 0, 0, 0)),
  (147, .iload 5, 2, (0, 0, 0, 0)), (149, .putfield 124, 3, (8, 15, 672, 0)), (152, .iload 4, 2, (0, 0, 0, 0)), (154, .ireturn, 1, (0, 0, 0, 0))]
def mX8_holdsTwo : ME := (yX8_holdsTwo, cX8_holdsTwo, 10, (some .int), 0, 3, 8, tX8_holdsTwo)
def tX8_looks : List CI := [(0, .aload_n 0, 1, (0, 0, 0, 0)), (1, .iload_n 1, 1, (0, 0, 0, 0)), (2, .iconst 0, 1, (0, 0, 0, 0)), (3, .invokevirtual 52, 3, (92, 0, 746, 0)), (6, .istore_n 3, 1, (0, 0, 0, 0)), (7, .aload_n 0, 1, (0, 0, 0, 0)),
  (8, .iconst 1, 1, (0, 0, 0, 0)), (9, .iload_n 1, 1, (0, 0, 0, 0)), (10, .isub, 1, (0, 0, 0, 0)), (11, .iconst 0, 1, (0, 0, 0, 0)), (12, .invokevirtual 52, 3, (92, 0, 746, 0)), (15, .istore 4, 2, (0, 0, 0, 0)),
  (17, .aload_n 0, 1, (0, 0, 0, 0)), (18, .iload_n 1, 1, (0, 0, 0, 0)), (19, .iconst 1, 1, (0, 0, 0, 0)), (20, .invokevirtual 52, 3, (92, 0, 746, 0)), (23, .aload_n 0, 1, (0, 0, 0, 0)), (24, .iconst 1, 1, (0, 0, 0, 0)),
  (25, .iload_n 1, 1, (0, 0, 0, 0)), (26, .isub, 1, (0, 0, 0, 0)), (27, .iconst 1, 1, (0, 0, 0, 0)), (28, .invokevirtual 52, 3, (92, 0, 746, 0)), (31, .isub, 1, (0, 0, 0, 0)), (32, .istore 5, 2, (0, 0, 0, 0)),
  (34, .aload_n 0, 1, (0, 0, 0, 0)), (35, .iload_n 2, 1, (0, 0, 0, 0)), (36, .iconst 1, 1, (0, 0, 0, 0)), (37, .if_icmp .ne 26, 3, (0, 0, 0, 0)), (40, .aload_n 0, 1, (0, 0, 0, 0)), (41, .iload_n 3, 1, (0, 0, 0, 0)),
  (42, .iload 4, 2, (0, 0, 0, 0)), (44, .iload 5, 2, (0, 0, 0, 0)), (46, .aload_n 0, 1, (0, 0, 0, 0)), (47, .getfield 7, 3, (8, 0, 657, 0)), (50, .iconst 1, 1, (0, 0, 0, 0)), (51, .iaload, 1, (0, 0, 0, 0)),
  (52, .aload_n 0, 1, (0, 0, 0, 0)), (53, .invokevirtual 71, 3, (98, 0, 767, 0)), (56, .iconst 0, 1, (0, 0, 0, 0)), (57, .invokevirtual 131, 3, (119, 0, 846, 0)), (60, .goto 12, 3, (0, 0, 0, 0)), (63, .aload_n 0, 1, (0, 0, 0, 0)),
  (64, .iload_n 3, 1, (0, 0, 0, 0)), (65, .iload 4, 2, (0, 0, 0, 0)), (67, .iload 5, 2, (0, 0, 0, 0)), (69, .invokevirtual 135, 3, (120, 0, 854, 0)), (72, .putfield 139, 3, (8, 16, 673, 0)), (75, .aload_n 0, 1, (0, 0, 0, 0)),
  (76, .getfield 124, 3, (8, 15, 672, 0)), (79, .ifCond .lt 7, 3, (0, 0, 0, 0)), (82, .iconst 1, 1, (0, 0, 0, 0)), (83, .goto 4, 3, (0, 0, 0, 0)), (86, .iconst 0, 1, (0, 0, 0, 0)), (87, .ireturn, 1, (0, 0, 0, 0))]
def mX8_looks : ME := (yX8_looks, cX8_looks, 6, (some .boolean), 0, 2, 8, tX8_looks)
def tX8_holds : List CI := [(0, .aload_n 0, 1, (0, 0, 0, 0)), (1, .iload_n 1, 1, (0, 0, 0, 0)), (2, .invokevirtual 56, 3, (91, 0, 742, 0)), (5, .ifCond .eq 12, 3, (0, 0, 0, 0)), (8, .iload_n 2, 1, (0, 0, 0, 0)), (9, .iconst 0, 1, (0, 0, 0, 0)),
  (10, .iconst 2, 1, (0, 0, 0, 0)), (11, .invokestatic 43, 3, (88, 0, 654, 0)), (14, .ifCond .ne 6, 3, (0, 0, 0, 0)), (17, .ldc 47, 2, (728, 0, 0, -1000001)), (19, .ireturn, 1, (0, 0, 0, 0)), (20, .aload_n 0, 1, (0, 0, 0, 0)),
  (21, .getfield 7, 3, (8, 0, 657, 0)), (24, .iconst 0, 1, (0, 0, 0, 0)), (25, .iaload, 1, (0, 0, 0, 0)), (26, .iconst 2, 1, (0, 0, 0, 0)), (27, .if_icmp .le 6, 3, (0, 0, 0, 0)), (30, .ldc 60, 2, (750, 0, 0, -1000002)),
  (32, .ireturn, 1, (0, 0, 0, 0)), (33, .iload_n 2, 1, (0, 0, 0, 0)), (34, .ifCond .eq 12, 3, (0, 0, 0, 0)), (37, .aload_n 0, 1, (0, 0, 0, 0)), (38, .getfield 7, 3, (8, 0, 657, 0)), (41, .iconst 4, 1, (0, 0, 0, 0)),
  (42, .iaload, 1, (0, 0, 0, 0)), (43, .ifCond .ne 7, 3, (0, 0, 0, 0)), (46, .iconst 1, 1, (0, 0, 0, 0)), (47, .goto 4, 3, (0, 0, 0, 0)), (50, .iconst 0, 1, (0, 0, 0, 0)), (51, .istore_n 3, 1, (0, 0, 0, 0)),
  (52, .iload_n 3, 1, (0, 0, 0, 0)), (53, .ifCond .ne 12, 3, (0, 0, 0, 0)), (56, .aload_n 0, 1, (0, 0, 0, 0)), (57, .iload_n 1, 1, (0, 0, 0, 0)), (58, .iload_n 2, 1, (0, 0, 0, 0)), (59, .invokevirtual 142, 3, (121, 0, 842, 0)),
  (62, .ifCond .ne 21, 3, (0, 0, 0, 0)), (65, .aload_n 0, 1, (0, 0, 0, 0)), (66, .iload_n 1, 1, (0, 0, 0, 0)), (67, .iconst 1, 1, (0, 0, 0, 0)), (68, .invokevirtual 52, 3, (92, 0, 746, 0)), (71, .aload_n 0, 1, (0, 0, 0, 0)),
  (72, .iconst 1, 1, (0, 0, 0, 0)), (73, .iload_n 1, 1, (0, 0, 0, 0)), (74, .isub, 1, (0, 0, 0, 0)), (75, .iconst 1, 1, (0, 0, 0, 0)), (76, .invokevirtual 52, 3, (92, 0, 746, 0)), (79, .isub, 1, (0, 0, 0, 0)),
  (80, .goto 7, 3, (0, 0, 0, 0)), (83, .aload_n 0, 1, (0, 0, 0, 0)), (84, .getfield 139, 3, (8, 16, 673, 0)), (87, .ireturn, 1, (0, 0, 0, 0))]
def mX8_holds : ME := (yX8_holds, cX8_holds, 4, (some .int), 0, 2, 8, tX8_holds)
def tX8_holding : List CI := [(0, .aload_n 0, 1, (0, 0, 0, 0)), (1, .iload_n 1, 1, (0, 0, 0, 0)), (2, .invokevirtual 56, 3, (91, 0, 742, 0)), (5, .ifCond .eq 12, 3, (0, 0, 0, 0)), (8, .iload_n 2, 1, (0, 0, 0, 0)), (9, .iconst 1, 1, (0, 0, 0, 0)),
  (10, .iconst 2, 1, (0, 0, 0, 0)), (11, .invokestatic 43, 3, (88, 0, 654, 0)), (14, .ifCond .ne 6, 3, (0, 0, 0, 0)), (17, .ldc 47, 2, (728, 0, 0, -1000001)), (19, .ireturn, 1, (0, 0, 0, 0)), (20, .aload_n 0, 1, (0, 0, 0, 0)),
  (21, .getfield 7, 3, (8, 0, 657, 0)), (24, .iconst 0, 1, (0, 0, 0, 0)), (25, .iaload, 1, (0, 0, 0, 0)), (26, .iconst 2, 1, (0, 0, 0, 0)), (27, .if_icmp .gt 12, 3, (0, 0, 0, 0)), (30, .aload_n 0, 1, (0, 0, 0, 0)),
  (31, .getfield 7, 3, (8, 0, 657, 0)), (34, .iconst 4, 1, (0, 0, 0, 0)), (35, .iaload, 1, (0, 0, 0, 0)), (36, .ifCond .ne 6, 3, (0, 0, 0, 0)), (39, .ldc 60, 2, (750, 0, 0, -1000002)), (41, .ireturn, 1, (0, 0, 0, 0)),
  (42, .aload_n 0, 1, (0, 0, 0, 0)), (43, .iload_n 1, 1, (0, 0, 0, 0)), (44, .iload_n 2, 1, (0, 0, 0, 0)), (45, .invokevirtual 142, 3, (121, 0, 842, 0)), (48, .ifCond .eq 10, 3, (0, 0, 0, 0)), (51, .aload_n 0, 1, (0, 0, 0, 0)),
  (52, .getfield 124, 3, (8, 15, 672, 0)), (55, .goto 5, 3, (0, 0, 0, 0)), (58, .ldc 95, 2, (806, 0, 0, -1000004)), (60, .ireturn, 1, (0, 0, 0, 0))]
def mX8_holding : ME := (yX8_holding, cX8_holding, 3, (some .int), 0, 2, 8, tX8_holding)
def tX8_chance : List CI := [(0, .aload_n 0, 1, (0, 0, 0, 0)), (1, .iload_n 1, 1, (0, 0, 0, 0)), (2, .invokevirtual 56, 3, (91, 0, 742, 0)), (5, .ifCond .ne 6, 3, (0, 0, 0, 0)), (8, .ldc 47, 2, (728, 0, 0, -1000001)), (10, .ireturn, 1, (0, 0, 0, 0)),
  (11, .aload_n 0, 1, (0, 0, 0, 0)), (12, .iload_n 1, 1, (0, 0, 0, 0)), (13, .iconst 1, 1, (0, 0, 0, 0)), (14, .invokevirtual 52, 3, (92, 0, 746, 0)), (17, .istore_n 2, 1, (0, 0, 0, 0)), (18, .iconst 0, 1, (0, 0, 0, 0)),
  (19, .istore_n 3, 1, (0, 0, 0, 0)), (20, .iload_n 3, 1, (0, 0, 0, 0)), (21, .aload_n 0, 1, (0, 0, 0, 0)), (22, .getfield 7, 3, (8, 0, 657, 0)), (25, .iconst 4, 1, (0, 0, 0, 0)), (26, .iaload, 1, (0, 0, 0, 0)),
  (27, .if_icmp .ge 35, 3, (0, 0, 0, 0)), (30, .iload_n 2, 1, (0, 0, 0, 0)), (31, .aload_n 0, 1, (0, 0, 0, 0)), (32, .getfield 7, 3, (8, 0, 657, 0)), (35, .iconst 5, 1, (0, 0, 0, 0)), (36, .iload_n 3, 1, (0, 0, 0, 0)),
  (37, .iadd, 1, (0, 0, 0, 0)), (38, .iaload, 1, (0, 0, 0, 0)), (39, .ifCond .le 14, 3, (0, 0, 0, 0)), (42, .aload_n 0, 1, (0, 0, 0, 0)), (43, .getfield 7, 3, (8, 0, 657, 0)), (46, .iconst 5, 1, (0, 0, 0, 0)),
  (47, .iload_n 3, 1, (0, 0, 0, 0)), (48, .iadd, 1, (0, 0, 0, 0)), (49, .iaload, 1, (0, 0, 0, 0)), (50, .goto 4, 3, (0, 0, 0, 0)), (53, .iconst 0, 1, (0, 0, 0, 0)), (54, .iadd, 1, (0, 0, 0, 0)),
  (55, .istore_n 2, 1, (0, 0, 0, 0)), (56, .iinc 3 1, 3, (0, 0, 0, 0)), (59, .goto (-39), 3, (0, 0, 0, 0)), (62, .iconst 0, 1, (0, 0, 0, 0)), (63, .istore_n 3, 1, (0, 0, 0, 0)), (64, .iload_n 3, 1, (0, 0, 0, 0)),
  (65, .aload_n 0, 1, (0, 0, 0, 0)), (66, .getfield 7, 3, (8, 0, 657, 0)), (69, .bipush 25, 2, (0, 0, 0, 0)), (71, .iaload, 1, (0, 0, 0, 0)), (72, .if_icmp .ge 39, 3, (0, 0, 0, 0)), (75, .iload_n 2, 1, (0, 0, 0, 0)),
  (76, .aload_n 0, 1, (0, 0, 0, 0)), (77, .getfield 7, 3, (8, 0, 657, 0)), (80, .sipush 2087, 3, (0, 0, 0, 0)), (83, .iload_n 3, 1, (0, 0, 0, 0)), (84, .iadd, 1, (0, 0, 0, 0)), (85, .iaload, 1, (0, 0, 0, 0)),
  (86, .ifCond .le 16, 3, (0, 0, 0, 0)), (89, .aload_n 0, 1, (0, 0, 0, 0)), (90, .getfield 7, 3, (8, 0, 657, 0)), (93, .sipush 2087, 3, (0, 0, 0, 0)), (96, .iload_n 3, 1, (0, 0, 0, 0)), (97, .iadd, 1, (0, 0, 0, 0)),
  (98, .iaload, 1, (0, 0, 0, 0)), (99, .goto 4, 3, (0, 0, 0, 0)), (102, .iconst 0, 1, (0, 0, 0, 0)), (103, .iadd, 1, (0, 0, 0, 0)), (104, .istore_n 2, 1, (0, 0, 0, 0)), (105, .iinc 3 1, 3, (0, 0, 0, 0)),
  (108, .goto (-44), 3, (0, 0, 0, 0)), (111, .iconst 1, 1, (0, 0, 0, 0)), (112, .istore_n 3, 1, (0, 0, 0, 0)), (113, .iconst 0, 1, (0, 0, 0, 0)), (114, .istore 4, 2, (0, 0, 0, 0)), (116, .iload 4, 2, (0, 0, 0, 0)),
  (118, .aload_n 0, 1, (0, 0, 0, 0)), (119, .getfield 7, 3, (8, 0, 657, 0)), (122, .iconst 0, 1, (0, 0, 0, 0)), (123, .iaload, 1, (0, 0, 0, 0)), (124, .if_icmp .ge 36, 3, (0, 0, 0, 0)), (127, .iload_n 3, 1, (0, 0, 0, 0)),
  (128, .ifCond .eq 24, 3, (0, 0, 0, 0)), (131, .iload 4, 2, (0, 0, 0, 0)), (133, .iload_n 1, 1, (0, 0, 0, 0)), (134, .if_icmp .eq 14, 3, (0, 0, 0, 0)), (137, .iload_n 2, 1, (0, 0, 0, 0)), (138, .aload_n 0, 1, (0, 0, 0, 0)),
  (139, .iload 4, 2, (0, 0, 0, 0)), (141, .iconst 1, 1, (0, 0, 0, 0)), (142, .invokevirtual 52, 3, (92, 0, 746, 0)), (145, .if_icmp .le 7, 3, (0, 0, 0, 0)), (148, .iconst 1, 1, (0, 0, 0, 0)), (149, .goto 4, 3, (0, 0, 0, 0)),
  (152, .iconst 0, 1, (0, 0, 0, 0)), (153, .istore_n 3, 1, (0, 0, 0, 0)), (154, .iinc 4 1, 3, (0, 0, 0, 0)), (157, .goto (-41), 3, (0, 0, 0, 0)), (160, .iload_n 3, 1, (0, 0, 0, 0)), (161, .ifCond .eq 7, 3, (0, 0, 0, 0)),
  (164, .iconst 1, 1, (0, 0, 0, 0)), (165, .goto 4, 3, (0, 0, 0, 0)), (168, .iconst 0, 1, (0, 0, 0, 0)), (169, .ireturn, 1, (0, 0, 0, 0))]
def mX8_chance : ME := (yX8_chance, cX8_chance, 5, (some .int), 0, 1, 8, tX8_chance)
def tX8_keep : List CI := [(0, .aload_n 0, 1, (0, 0, 0, 0)), (1, .getfield 7, 3, (8, 0, 657, 0)), (4, .aload_n 0, 1, (0, 0, 0, 0)), (5, .getfield 22, 3, (8, 4, 661, 0)), (8, .invokestatic 105, 3, (89, 0, 835, 0)), (11, .aload_n 0, 1, (0, 0, 0, 0)),
  (12, .iconst 1, 1, (0, 0, 0, 0)), (13, .putfield 102, 3, (8, 5, 662, 0)), (16, .aload_n 0, 1, (0, 0, 0, 0)), (17, .getfield 7, 3, (8, 0, 657, 0)), (20, .iconst 2, 1, (0, 0, 0, 0)), (21, .iaload, 1, (0, 0, 0, 0)),
  (22, .ireturn, 1, (0, 0, 0, 0))]
def mX8_keep : ME := (yX8_keep, cX8_keep, 1, (some .int), 0, 0, 8, tX8_keep)
def tX8_restore : List CI := [(0, .aload_n 0, 1, (0, 0, 0, 0)), (1, .getfield 102, 3, (8, 5, 662, 0)), (4, .ifCond .ne 6, 3, (0, 0, 0, 0)), (7, .ldc 60, 2, (750, 0, 0, -1000002)), (9, .ireturn, 1, (0, 0, 0, 0)), (10, .aload_n 0, 1, (0, 0, 0, 0)),
  (11, .invokevirtual 48, 3, (90, 0, 729, 0)), (14, .aload_n 0, 1, (0, 0, 0, 0)), (15, .getfield 22, 3, (8, 4, 661, 0)), (18, .aload_n 0, 1, (0, 0, 0, 0)), (19, .getfield 7, 3, (8, 0, 657, 0)), (22, .invokestatic 105, 3, (89, 0, 835, 0)),
  (25, .aload_n 0, 1, (0, 0, 0, 0)), (26, .getfield 7, 3, (8, 0, 657, 0)), (29, .iconst 2, 1, (0, 0, 0, 0)), (30, .iaload, 1, (0, 0, 0, 0)), (31, .ireturn, 1, (0, 0, 0, 0))]
def mX8_restore : ME := (yX8_restore, cX8_restore, 1, (some .int), 0, 0, 8, tX8_restore)
def tX8_undo : List CI := [(0, .aload_n 0, 1, (0, 0, 0, 0)), (1, .getfield 39, 3, (8, 6, 663, 0)), (4, .ifCond .ne 6, 3, (0, 0, 0, 0)), (7, .ldc 60, 2, (750, 0, 0, -1000002)), (9, .ireturn, 1, (0, 0, 0, 0)), (10, .aload_n 0, 1, (0, 0, 0, 0)),
  (11, .dup, 1, (0, 0, 0, 0)), (12, .getfield 39, 3, (8, 6, 663, 0)), (15, .iconst 1, 1, (0, 0, 0, 0)), (16, .isub, 1, (0, 0, 0, 0)), (17, .putfield 39, 3, (8, 6, 663, 0)), (20, .iconst 0, 1, (0, 0, 0, 0)),
  (21, .istore_n 1, 1, (0, 0, 0, 0)), (22, .iload_n 1, 1, (0, 0, 0, 0)), (23, .sipush 2107, 3, (0, 0, 0, 0)), (26, .if_icmp .ge 30, 3, (0, 0, 0, 0)), (29, .aload_n 0, 1, (0, 0, 0, 0)), (30, .getfield 7, 3, (8, 0, 657, 0)),
  (33, .iload_n 1, 1, (0, 0, 0, 0)), (34, .aload_n 0, 1, (0, 0, 0, 0)), (35, .getfield 13, 3, (8, 1, 658, 0)), (38, .sipush 2107, 3, (0, 0, 0, 0)), (41, .aload_n 0, 1, (0, 0, 0, 0)), (42, .getfield 39, 3, (8, 6, 663, 0)),
  (45, .imul, 1, (0, 0, 0, 0)), (46, .iload_n 1, 1, (0, 0, 0, 0)), (47, .iadd, 1, (0, 0, 0, 0)), (48, .iaload, 1, (0, 0, 0, 0)), (49, .iastore, 1, (0, 0, 0, 0)), (50, .iinc 1 1, 3, (0, 0, 0, 0)),
  (53, .goto (-31), 3, (0, 0, 0, 0)), (56, .aload_n 0, 1, (0, 0, 0, 0)), (57, .getfield 39, 3, (8, 6, 663, 0)), (60, .ireturn, 1, (0, 0, 0, 0))]
def mX8_undo : ME := (yX8_undo, cX8_undo, 2, (some .int), 0, 0, 8, tX8_undo)
def tX8_type : List CI := [(0, .iload_n 1, 1, (0, 0, 0, 0)), (1, .bipush 32, 2, (0, 0, 0, 0)), (3, .bipush 126, 2, (0, 0, 0, 0)), (5, .invokestatic 43, 3, (88, 0, 654, 0)), (8, .ifCond .ne 6, 3, (0, 0, 0, 0)), (11, .ldc 47, 2, (728, 0, 0, -1000001)),
  (13, .ireturn, 1, (0, 0, 0, 0)), (14, .aload_n 0, 1, (0, 0, 0, 0)), (15, .getfield 99, 3, (8, 9, 666, 0)), (18, .bipush 60, 2, (0, 0, 0, 0)), (20, .if_icmp .ne 6, 3, (0, 0, 0, 0)), (23, .ldc 51, 2, (737, 0, 0, -1000003)),
  (25, .ireturn, 1, (0, 0, 0, 0)), (26, .aload_n 0, 1, (0, 0, 0, 0)), (27, .getfield 25, 3, (8, 8, 665, 0)), (30, .aload_n 0, 1, (0, 0, 0, 0)), (31, .getfield 99, 3, (8, 9, 666, 0)), (34, .iload_n 1, 1, (0, 0, 0, 0)),
  (35, .iastore, 1, (0, 0, 0, 0)), (36, .aload_n 0, 1, (0, 0, 0, 0)), (37, .dup, 1, (0, 0, 0, 0)), (38, .getfield 99, 3, (8, 9, 666, 0)), (41, .iconst 1, 1, (0, 0, 0, 0)), (42, .iadd, 1, (0, 0, 0, 0)),
  (43, .putfield 99, 3, (8, 9, 666, 0)), (46, .aload_n 0, 1, (0, 0, 0, 0)), (47, .getfield 99, 3, (8, 9, 666, 0)), (50, .ireturn, 1, (0, 0, 0, 0))]
def mX8_type : ME := (yX8_type, cX8_type, 2, (some .int), 0, 1, 8, tX8_type)
def tX8_clearText : List CI := [(0, .aload_n 0, 1, (0, 0, 0, 0)), (1, .getfield 99, 3, (8, 9, 666, 0)), (4, .istore_n 1, 1, (0, 0, 0, 0)), (5, .aload_n 0, 1, (0, 0, 0, 0)), (6, .iconst 0, 1, (0, 0, 0, 0)), (7, .putfield 99, 3, (8, 9, 666, 0)),
  (10, .iload_n 1, 1, (0, 0, 0, 0)), (11, .ireturn, 1, (0, 0, 0, 0))]
def mX8_clearText : ME := (yX8_clearText, cX8_clearText, 2, (some .int), 0, 0, 8, tX8_clearText)
def tX8_isAt : List CI := [(0, .aload_n 0, 1, (0, 0, 0, 0)), (1, .getfield 146, 3, (8, 17, 674, 0)), (4, .aload_n 0, 1, (0, 0, 0, 0)), (5, .getfield 99, 3, (8, 9, 666, 0)), (8, .if_icmp .ge 24, 3, (0, 0, 0, 0)), (11, .aload_n 0, 1, (0, 0, 0, 0)),
  (12, .getfield 25, 3, (8, 8, 665, 0)), (15, .aload_n 0, 1, (0, 0, 0, 0)), (16, .getfield 146, 3, (8, 17, 674, 0)), (19, .iaload, 1, (0, 0, 0, 0)), (20, .iload_n 1, 1, (0, 0, 0, 0)), (21, .iload_n 2, 1, (0, 0, 0, 0)),
  (22, .invokestatic 43, 3, (88, 0, 654, 0)), (25, .ifCond .eq 7, 3, (0, 0, 0, 0)), (28, .iconst 1, 1, (0, 0, 0, 0)), (29, .goto 4, 3, (0, 0, 0, 0)), (32, .iconst 0, 1, (0, 0, 0, 0)), (33, .ireturn, 1, (0, 0, 0, 0))]
def mX8_isAt : ME := (yX8_isAt, cX8_isAt, 3, (some .boolean), 0, 2, 8, tX8_isAt)
def tX8_sign : List CI := [(0, .aload_n 0, 1, (0, 0, 0, 0)), (1, .iload_n 1, 1, (0, 0, 0, 0)), (2, .iload_n 1, 1, (0, 0, 0, 0)), (3, .invokevirtual 149, 3, (130, 0, 906, 0)), (6, .istore_n 2, 1, (0, 0, 0, 0)), (7, .aload_n 0, 1, (0, 0, 0, 0)),
  (8, .dup, 1, (0, 0, 0, 0)), (9, .getfield 146, 3, (8, 17, 674, 0)), (12, .iload_n 2, 1, (0, 0, 0, 0)), (13, .ifCond .eq 7, 3, (0, 0, 0, 0)), (16, .iconst 1, 1, (0, 0, 0, 0)), (17, .goto 4, 3, (0, 0, 0, 0)),
  (20, .iconst 0, 1, (0, 0, 0, 0)), (21, .iadd, 1, (0, 0, 0, 0)), (22, .putfield 146, 3, (8, 17, 674, 0)), (25, .iload_n 2, 1, (0, 0, 0, 0)), (26, .ireturn, 1, (0, 0, 0, 0))]
def mX8_sign : ME := (yX8_sign, cX8_sign, 3, (some .boolean), 0, 1, 8, tX8_sign)
def tX8_number : List CI := [(0, .iload_n 2, 1, (0, 0, 0, 0)), (1, .ifCond .eq 16, 3, (0, 0, 0, 0)), (4, .aload_n 0, 1, (0, 0, 0, 0)), (5, .bipush 45, 2, (0, 0, 0, 0)), (7, .invokevirtual 152, 3, (131, 0, 902, 0)), (10, .ifCond .eq 7, 3, (0, 0, 0, 0)),
  (13, .iconst 1, 1, (0, 0, 0, 0)), (14, .goto 4, 3, (0, 0, 0, 0)), (17, .iconst 0, 1, (0, 0, 0, 0)), (18, .istore_n 3, 1, (0, 0, 0, 0)), (19, .aload_n 0, 1, (0, 0, 0, 0)), (20, .getfield 146, 3, (8, 17, 674, 0)),
  (23, .istore 4, 2, (0, 0, 0, 0)), (25, .iconst 0, 1, (0, 0, 0, 0)), (26, .istore 5, 2, (0, 0, 0, 0)), (28, .aload_n 0, 1, (0, 0, 0, 0)), (29, .bipush 48, 2, (0, 0, 0, 0)), (31, .bipush 57, 2, (0, 0, 0, 0)),
  (33, .invokevirtual 149, 3, (130, 0, 906, 0)), (36, .ifCond .eq 47, 3, (0, 0, 0, 0)), (39, .aload_n 0, 1, (0, 0, 0, 0)), (40, .getfield 146, 3, (8, 17, 674, 0)), (43, .iload 4, 2, (0, 0, 0, 0)), (45, .isub, 1, (0, 0, 0, 0)),
  (46, .iconst 2, 1, (0, 0, 0, 0)), (47, .if_icmp .ge 36, 3, (0, 0, 0, 0)), (50, .bipush 10, 2, (0, 0, 0, 0)), (52, .iload 5, 2, (0, 0, 0, 0)), (54, .imul, 1, (0, 0, 0, 0)), (55, .aload_n 0, 1, (0, 0, 0, 0)),
  (56, .getfield 25, 3, (8, 8, 665, 0)), (59, .aload_n 0, 1, (0, 0, 0, 0)), (60, .getfield 146, 3, (8, 17, 674, 0)), (63, .iaload, 1, (0, 0, 0, 0)), (64, .iadd, 1, (0, 0, 0, 0)), (65, .bipush 48, 2, (0, 0, 0, 0)),
  (67, .isub, 1, (0, 0, 0, 0)), (68, .istore 5, 2, (0, 0, 0, 0)), (70, .aload_n 0, 1, (0, 0, 0, 0)), (71, .dup, 1, (0, 0, 0, 0)), (72, .getfield 146, 3, (8, 17, 674, 0)), (75, .iconst 1, 1, (0, 0, 0, 0)),
  (76, .iadd, 1, (0, 0, 0, 0)), (77, .putfield 146, 3, (8, 17, 674, 0)), (80, .goto (-52), 3, (0, 0, 0, 0)), (83, .aload_n 0, 1, (0, 0, 0, 0)), (84, .getfield 28, 3, (8, 21, 678, 0)), (87, .iload_n 1, 1, (0, 0, 0, 0)),
  (88, .iload_n 3, 1, (0, 0, 0, 0)), (89, .ifCond .eq 9, 3, (0, 0, 0, 0)), (92, .iload 5, 2, (0, 0, 0, 0)), (94, .ineg, 1, (0, 0, 0, 0)), (95, .goto 5, 3, (0, 0, 0, 0)), (98, .iload 5, 2, (0, 0, 0, 0)),
  (100, .iastore, 1, (0, 0, 0, 0)), (101, .aload_n 0, 1, (0, 0, 0, 0)), (102, .getfield 146, 3, (8, 17, 674, 0)), (105, .iload 4, 2, (0, 0, 0, 0)), (107, .if_icmp .le 7, 3, (0, 0, 0, 0)), (110, .iconst 1, 1, (0, 0, 0, 0)),
  (111, .goto 4, 3, (0, 0, 0, 0)), (114, .iconst 0, 1, (0, 0, 0, 0)), (115, .ireturn, 1, (0, 0, 0, 0))]
def mX8_number : ME := (yX8_number, cX8_number, 6, (some .boolean), 0, 2, 8, tX8_number)
def tX8_reads : List CI := [(0, .aload_n 0, 1, (0, 0, 0, 0)), (1, .aload_n 0, 1, (0, 0, 0, 0)), (2, .getfield 25, 3, (8, 8, 665, 0)), (5, .aload_n 0, 1, (0, 0, 0, 0)), (6, .getfield 146, 3, (8, 17, 674, 0)), (9, .iaload, 1, (0, 0, 0, 0)),
  (10, .putfield 155, 3, (8, 20, 677, 0)), (13, .aload_n 0, 1, (0, 0, 0, 0)), (14, .dup, 1, (0, 0, 0, 0)), (15, .getfield 146, 3, (8, 17, 674, 0)), (18, .iconst 1, 1, (0, 0, 0, 0)), (19, .iadd, 1, (0, 0, 0, 0)),
  (20, .putfield 146, 3, (8, 17, 674, 0)), (23, .aload_n 0, 1, (0, 0, 0, 0)), (24, .getfield 155, 3, (8, 20, 677, 0)), (27, .lookupswitch 106 #[(98, 57), (108, 33), (114, 99)], 33, (0, 0, 0, 0)), (60, .aload_n 0, 1, (0, 0, 0, 0)), (61, .iconst 0, 1, (0, 0, 0, 0)),
  (62, .iconst 1, 1, (0, 0, 0, 0)), (63, .invokevirtual 158, 3, (132, 0, 898, 0)), (66, .ifCond .eq 16, 3, (0, 0, 0, 0)), (69, .aload_n 0, 1, (0, 0, 0, 0)), (70, .bipush 59, 2, (0, 0, 0, 0)), (72, .invokevirtual 152, 3, (131, 0, 902, 0)),
  (75, .ifCond .eq 7, 3, (0, 0, 0, 0)), (78, .iconst 1, 1, (0, 0, 0, 0)), (79, .goto 4, 3, (0, 0, 0, 0)), (82, .iconst 0, 1, (0, 0, 0, 0)), (83, .ireturn, 1, (0, 0, 0, 0)), (84, .aload_n 0, 1, (0, 0, 0, 0)),
  (85, .iconst 0, 1, (0, 0, 0, 0)), (86, .iconst 0, 1, (0, 0, 0, 0)), (87, .invokevirtual 158, 3, (132, 0, 898, 0)), (90, .ifCond .eq 34, 3, (0, 0, 0, 0)), (93, .aload_n 0, 1, (0, 0, 0, 0)), (94, .bipush 44, 2, (0, 0, 0, 0)),
  (96, .invokevirtual 152, 3, (131, 0, 902, 0)), (99, .ifCond .eq 25, 3, (0, 0, 0, 0)), (102, .aload_n 0, 1, (0, 0, 0, 0)), (103, .iconst 1, 1, (0, 0, 0, 0)), (104, .iconst 0, 1, (0, 0, 0, 0)), (105, .invokevirtual 158, 3, (132, 0, 898, 0)),
  (108, .ifCond .eq 16, 3, (0, 0, 0, 0)), (111, .aload_n 0, 1, (0, 0, 0, 0)), (112, .bipush 59, 2, (0, 0, 0, 0)), (114, .invokevirtual 152, 3, (131, 0, 902, 0)), (117, .ifCond .eq 7, 3, (0, 0, 0, 0)), (120, .iconst 1, 1, (0, 0, 0, 0)),
  (121, .goto 4, 3, (0, 0, 0, 0)), (124, .iconst 0, 1, (0, 0, 0, 0)), (125, .ireturn, 1, (0, 0, 0, 0)), (126, .aload_n 0, 1, (0, 0, 0, 0)), (127, .bipush 59, 2, (0, 0, 0, 0)), (129, .invokevirtual 152, 3, (131, 0, 902, 0)),
  (132, .ireturn, 1, (0, 0, 0, 0)), (133, .iconst 0, 1, (0, 0, 0, 0)), (134, .ireturn, 1, (0, 0, 0, 0))]
def mX8_reads : ME := (yX8_reads, cX8_reads, 1, (some .boolean), 0, 0, 8, tX8_reads)
def tX8_calls : List CI := [(0, .aload_n 0, 1, (0, 0, 0, 0)), (1, .getfield 155, 3, (8, 20, 677, 0)), (4, .bipush 108, 2, (0, 0, 0, 0)), (6, .if_icmp .ne 16, 3, (0, 0, 0, 0)), (9, .aload_n 0, 1, (0, 0, 0, 0)), (10, .aload_n 0, 1, (0, 0, 0, 0)),
  (11, .getfield 28, 3, (8, 21, 678, 0)), (14, .iconst 0, 1, (0, 0, 0, 0)), (15, .iaload, 1, (0, 0, 0, 0)), (16, .invokevirtual 162, 3, (95, 0, 914, 0)), (19, .goto 35, 3, (0, 0, 0, 0)), (22, .aload_n 0, 1, (0, 0, 0, 0)),
  (23, .getfield 155, 3, (8, 20, 677, 0)), (26, .bipush 98, 2, (0, 0, 0, 0)), (28, .if_icmp .ne 22, 3, (0, 0, 0, 0)), (31, .aload_n 0, 1, (0, 0, 0, 0)), (32, .aload_n 0, 1, (0, 0, 0, 0)), (33, .getfield 28, 3, (8, 21, 678, 0)),
  (36, .iconst 0, 1, (0, 0, 0, 0)), (37, .iaload, 1, (0, 0, 0, 0)), (38, .aload_n 0, 1, (0, 0, 0, 0)), (39, .getfield 28, 3, (8, 21, 678, 0)), (42, .iconst 1, 1, (0, 0, 0, 0)), (43, .iaload, 1, (0, 0, 0, 0)),
  (44, .invokevirtual 166, 3, (97, 0, 915, 0)), (47, .goto 7, 3, (0, 0, 0, 0)), (50, .aload_n 0, 1, (0, 0, 0, 0)), (51, .invokevirtual 169, 3, (107, 0, 916, 0)), (54, .ireturn, 1, (0, 0, 0, 0))]
def mX8_calls : ME := (yX8_calls, cX8_calls, 1, (some .int), 0, 0, 8, tX8_calls)
def tX8_plays : List CI := [(0, .aload_n 0, 1, (0, 0, 0, 0)), (1, .iconst 1, 1, (0, 0, 0, 0)), (2, .putfield 35, 3, (8, 7, 664, 0)), (5, .aload_n 0, 1, (0, 0, 0, 0)), (6, .iconst 0, 1, (0, 0, 0, 0)), (7, .putfield 146, 3, (8, 17, 674, 0)),
  (10, .aload_n 0, 1, (0, 0, 0, 0)), (11, .iconst 0, 1, (0, 0, 0, 0)), (12, .putfield 172, 3, (8, 19, 676, 0)), (15, .iconst 0, 1, (0, 0, 0, 0)), (16, .istore_n 1, 1, (0, 0, 0, 0)), (17, .iconst 1, 1, (0, 0, 0, 0)),
  (18, .istore_n 2, 1, (0, 0, 0, 0)), (19, .aload_n 0, 1, (0, 0, 0, 0)), (20, .getfield 146, 3, (8, 17, 674, 0)), (23, .aload_n 0, 1, (0, 0, 0, 0)), (24, .getfield 99, 3, (8, 9, 666, 0)), (27, .if_icmp .ge 64, 3, (0, 0, 0, 0)),
  (30, .iload_n 2, 1, (0, 0, 0, 0)), (31, .ifCond .eq 60, 3, (0, 0, 0, 0)), (34, .aload_n 0, 1, (0, 0, 0, 0)), (35, .getfield 146, 3, (8, 17, 674, 0)), (38, .istore_n 1, 1, (0, 0, 0, 0)), (39, .aload_n 0, 1, (0, 0, 0, 0)),
  (40, .invokevirtual 175, 3, (133, 0, 894, 0)), (43, .istore_n 3, 1, (0, 0, 0, 0)), (44, .aload_n 0, 1, (0, 0, 0, 0)), (45, .iload_n 3, 1, (0, 0, 0, 0)), (46, .ifCond .eq 10, 3, (0, 0, 0, 0)), (49, .aload_n 0, 1, (0, 0, 0, 0)),
  (50, .invokevirtual 179, 3, (134, 0, 910, 0)), (53, .goto 4, 3, (0, 0, 0, 0)), (56, .iconst 0, 1, (0, 0, 0, 0)), (57, .putfield 182, 3, (8, 18, 675, 0)), (60, .iload_n 3, 1, (0, 0, 0, 0)), (61, .ifCond .eq 15, 3, (0, 0, 0, 0)),
  (64, .aload_n 0, 1, (0, 0, 0, 0)), (65, .getfield 182, 3, (8, 18, 675, 0)), (68, .iconst (-1), 1, (0, 0, 0, 0)), (69, .if_icmp .lt 7, 3, (0, 0, 0, 0)), (72, .iconst 1, 1, (0, 0, 0, 0)), (73, .goto 4, 3, (0, 0, 0, 0)),
  (76, .iconst 0, 1, (0, 0, 0, 0)), (77, .istore_n 2, 1, (0, 0, 0, 0)), (78, .aload_n 0, 1, (0, 0, 0, 0)), (79, .dup, 1, (0, 0, 0, 0)), (80, .getfield 172, 3, (8, 19, 676, 0)), (83, .iconst 1, 1, (0, 0, 0, 0)),
  (84, .iadd, 1, (0, 0, 0, 0)), (85, .putfield 172, 3, (8, 19, 676, 0)), (88, .goto (-69), 3, (0, 0, 0, 0)), (91, .aload_n 0, 1, (0, 0, 0, 0)), (92, .iconst 0, 1, (0, 0, 0, 0)), (93, .putfield 35, 3, (8, 7, 664, 0)),
  (96, .iload_n 2, 1, (0, 0, 0, 0)), (97, .ifCond .eq 8, 3, (0, 0, 0, 0)), (100, .ldc 95, 2, (806, 0, 0, -1000004)), (102, .goto 4, 3, (0, 0, 0, 0)), (105, .iload_n 1, 1, (0, 0, 0, 0)), (106, .ireturn, 1, (0, 0, 0, 0))]
def mX8_plays : ME := (yX8_plays, cX8_plays, 4, (some .int), 0, 0, 8, tX8_plays)
def tX8_fault : List CI := [(0, .iload_n 1, 1, (0, 0, 0, 0)), (1, .iconst 0, 1, (0, 0, 0, 0)), (2, .iconst 2, 1, (0, 0, 0, 0)), (3, .invokestatic 43, 3, (88, 0, 654, 0)), (6, .ifCond .ne 6, 3, (0, 0, 0, 0)), (9, .ldc 47, 2, (728, 0, 0, -1000001)),
  (11, .ireturn, 1, (0, 0, 0, 0)), (12, .aload_n 0, 1, (0, 0, 0, 0)), (13, .getfield 7, 3, (8, 0, 657, 0)), (16, .aload_n 0, 1, (0, 0, 0, 0)), (17, .getfield 16, 3, (8, 2, 659, 0)), (20, .invokestatic 105, 3, (89, 0, 835, 0)),
  (23, .aload_n 0, 1, (0, 0, 0, 0)), (24, .invokevirtual 185, 3, (135, 0, 890, 0)), (27, .istore_n 2, 1, (0, 0, 0, 0)), (28, .aload_n 0, 1, (0, 0, 0, 0)), (29, .getfield 16, 3, (8, 2, 659, 0)), (32, .aload_n 0, 1, (0, 0, 0, 0)),
  (33, .getfield 7, 3, (8, 0, 657, 0)), (36, .invokestatic 105, 3, (89, 0, 835, 0)), (39, .iload_n 2, 1, (0, 0, 0, 0)), (40, .ldc 95, 2, (806, 0, 0, -1000004)), (42, .if_icmp .eq 7, 3, (0, 0, 0, 0)), (45, .iload_n 1, 1, (0, 0, 0, 0)),
  (46, .ifCond .ne 7, 3, (0, 0, 0, 0)), (49, .iload_n 2, 1, (0, 0, 0, 0)), (50, .goto 39, 3, (0, 0, 0, 0)), (53, .iload_n 1, 1, (0, 0, 0, 0)), (54, .iconst 1, 1, (0, 0, 0, 0)), (55, .if_icmp .ne 18, 3, (0, 0, 0, 0)),
  (58, .aload_n 0, 1, (0, 0, 0, 0)), (59, .getfield 182, 3, (8, 18, 675, 0)), (62, .ifCond .ne 7, 3, (0, 0, 0, 0)), (65, .iconst 1, 1, (0, 0, 0, 0)), (66, .goto 23, 3, (0, 0, 0, 0)), (69, .iconst 2, 1, (0, 0, 0, 0)),
  (70, .goto 19, 3, (0, 0, 0, 0)), (73, .aload_n 0, 1, (0, 0, 0, 0)), (74, .getfield 182, 3, (8, 18, 675, 0)), (77, .ifCond .ne 8, 3, (0, 0, 0, 0)), (80, .ldc 95, 2, (806, 0, 0, -1000004)), (82, .goto 7, 3, (0, 0, 0, 0)),
  (85, .aload_n 0, 1, (0, 0, 0, 0)), (86, .getfield 182, 3, (8, 18, 675, 0)), (89, .ireturn, 1, (0, 0, 0, 0))]
def mX8_fault : ME := (yX8_fault, cX8_fault, 3, (some .int), 0, 1, 8, tX8_fault)
def tX8_play : List CI := [(0, .aload_n 0, 1, (0, 0, 0, 0)), (1, .getfield 7, 3, (8, 0, 657, 0)), (4, .aload_n 0, 1, (0, 0, 0, 0)), (5, .getfield 16, 3, (8, 2, 659, 0)), (8, .invokestatic 105, 3, (89, 0, 835, 0)), (11, .aload_n 0, 1, (0, 0, 0, 0)),
  (12, .invokevirtual 185, 3, (135, 0, 890, 0)), (15, .istore_n 1, 1, (0, 0, 0, 0)), (16, .aload_n 0, 1, (0, 0, 0, 0)), (17, .getfield 16, 3, (8, 2, 659, 0)), (20, .aload_n 0, 1, (0, 0, 0, 0)), (21, .getfield 7, 3, (8, 0, 657, 0)),
  (24, .invokestatic 105, 3, (89, 0, 835, 0)), (27, .iload_n 1, 1, (0, 0, 0, 0)), (28, .ldc 95, 2, (806, 0, 0, -1000004)), (30, .if_icmp .eq 6, 3, (0, 0, 0, 0)), (33, .ldc 60, 2, (750, 0, 0, -1000002)), (35, .ireturn, 1, (0, 0, 0, 0)),
  (36, .aload_n 0, 1, (0, 0, 0, 0)), (37, .invokevirtual 48, 3, (90, 0, 729, 0)), (40, .aload_n 0, 1, (0, 0, 0, 0)), (41, .invokevirtual 185, 3, (135, 0, 890, 0)), (44, .ldc 95, 2, (806, 0, 0, -1000004)), (46, .if_icmp .ne 10, 3, (0, 0, 0, 0)),
  (49, .aload_n 0, 1, (0, 0, 0, 0)), (50, .getfield 172, 3, (8, 19, 676, 0)), (53, .goto 5, 3, (0, 0, 0, 0)), (56, .ldc 95, 2, (806, 0, 0, -1000004)), (58, .ireturn, 1, (0, 0, 0, 0))]
def mX8_play : ME := (yX8_play, cX8_play, 2, (some .int), 0, 0, 8, tX8_play)
def tL_law : List CI := [(0, .new 7, 3, (7, 8, 38, 0)), (3, .dup, 1, (0, 0, 0, 0)), (4, .invokespecial 9, 3, (60, 0, 40, 0)), (7, .astore_n 1, 1, (0, 0, 0, 0)), (8, .new 10, 3, (8, 22, 644, 0)), (11, .dup, 1, (0, 0, 0, 0)),
  (12, .invokespecial 12, 3, (87, 0, 646, 0)), (15, .astore_n 2, 1, (0, 0, 0, 0)), (16, .iconst 0, 1, (0, 0, 0, 0)), (17, .istore_n 3, 1, (0, 0, 0, 0)), (18, .iload_n 3, 1, (0, 0, 0, 0)), (19, .aload_n 0, 1, (0, 0, 0, 0)),
  (20, .arraylength, 1, (0, 0, 0, 0)), (21, .iconst 3, 1, (0, 0, 0, 0)), (22, .isub, 1, (0, 0, 0, 0)), (23, .if_icmp .gt 672, 3, (0, 0, 0, 0)), (26, .aload_n 0, 1, (0, 0, 0, 0)), (27, .iload_n 3, 1, (0, 0, 0, 0)),
  (28, .iaload, 1, (0, 0, 0, 0)), (29, .bipush 31, 2, (0, 0, 0, 0)), (31, .iand, 1, (0, 0, 0, 0)), (32, .tableswitch 657 0 22 #[108, 141, 164, 197, 210, 243, 276, 309, 342, 375, 398, 411, 434, 457, 490, 523, 546, 559, 572, 585, 608, 621, 644], 108, (0, 0, 0, 0)), (140, .aload_n 1, 1, (0, 0, 0, 0)), (141, .aload_n 0, 1, (0, 0, 0, 0)),
  (142, .iload_n 3, 1, (0, 0, 0, 0)), (143, .iconst 1, 1, (0, 0, 0, 0)), (144, .iadd, 1, (0, 0, 0, 0)), (145, .iaload, 1, (0, 0, 0, 0)), (146, .aload_n 0, 1, (0, 0, 0, 0)), (147, .iload_n 3, 1, (0, 0, 0, 0)),
  (148, .iconst 2, 1, (0, 0, 0, 0)), (149, .iadd, 1, (0, 0, 0, 0)), (150, .iaload, 1, (0, 0, 0, 0)), (151, .invokevirtual 13, 3, (61, 0, 309, 0)), (154, .aload_n 2, 1, (0, 0, 0, 0)), (155, .aload_n 0, 1, (0, 0, 0, 0)),
  (156, .iload_n 3, 1, (0, 0, 0, 0)), (157, .iconst 1, 1, (0, 0, 0, 0)), (158, .iadd, 1, (0, 0, 0, 0)), (159, .iaload, 1, (0, 0, 0, 0)), (160, .aload_n 0, 1, (0, 0, 0, 0)), (161, .iload_n 3, 1, (0, 0, 0, 0)),
  (162, .iconst 2, 1, (0, 0, 0, 0)), (163, .iadd, 1, (0, 0, 0, 0)), (164, .iaload, 1, (0, 0, 0, 0)), (165, .invokevirtual 17, 3, (94, 0, 724, 0)), (168, .if_icmp .eq 521, 3, (0, 0, 0, 0)), (171, .iconst 0, 1, (0, 0, 0, 0)),
  (172, .ireturn, 1, (0, 0, 0, 0)), (173, .aload_n 1, 1, (0, 0, 0, 0)), (174, .aload_n 0, 1, (0, 0, 0, 0)), (175, .iload_n 3, 1, (0, 0, 0, 0)), (176, .iconst 1, 1, (0, 0, 0, 0)), (177, .iadd, 1, (0, 0, 0, 0)),
  (178, .iaload, 1, (0, 0, 0, 0)), (179, .invokevirtual 18, 3, (62, 0, 344, 0)), (182, .aload_n 2, 1, (0, 0, 0, 0)), (183, .aload_n 0, 1, (0, 0, 0, 0)), (184, .iload_n 3, 1, (0, 0, 0, 0)), (185, .iconst 1, 1, (0, 0, 0, 0)),
  (186, .iadd, 1, (0, 0, 0, 0)), (187, .iaload, 1, (0, 0, 0, 0)), (188, .invokevirtual 22, 3, (95, 0, 733, 0)), (191, .if_icmp .eq 498, 3, (0, 0, 0, 0)), (194, .iconst 0, 1, (0, 0, 0, 0)), (195, .ireturn, 1, (0, 0, 0, 0)),
  (196, .aload_n 1, 1, (0, 0, 0, 0)), (197, .aload_n 0, 1, (0, 0, 0, 0)), (198, .iload_n 3, 1, (0, 0, 0, 0)), (199, .iconst 1, 1, (0, 0, 0, 0)), (200, .iadd, 1, (0, 0, 0, 0)), (201, .iaload, 1, (0, 0, 0, 0)),
  (202, .aload_n 0, 1, (0, 0, 0, 0)), (203, .iload_n 3, 1, (0, 0, 0, 0)), (204, .iconst 2, 1, (0, 0, 0, 0)), (205, .iadd, 1, (0, 0, 0, 0)), (206, .iaload, 1, (0, 0, 0, 0)), (207, .invokevirtual 23, 3, (63, 0, 353, 0)),
  (210, .aload_n 2, 1, (0, 0, 0, 0)), (211, .aload_n 0, 1, (0, 0, 0, 0)), (212, .iload_n 3, 1, (0, 0, 0, 0)), (213, .iconst 1, 1, (0, 0, 0, 0)), (214, .iadd, 1, (0, 0, 0, 0)), (215, .iaload, 1, (0, 0, 0, 0)),
  (216, .aload_n 0, 1, (0, 0, 0, 0)), (217, .iload_n 3, 1, (0, 0, 0, 0)), (218, .iconst 2, 1, (0, 0, 0, 0)), (219, .iadd, 1, (0, 0, 0, 0)), (220, .iaload, 1, (0, 0, 0, 0)), (221, .invokevirtual 26, 3, (97, 0, 738, 0)),
  (224, .if_icmp .eq 465, 3, (0, 0, 0, 0)), (227, .iconst 0, 1, (0, 0, 0, 0)), (228, .ireturn, 1, (0, 0, 0, 0)), (229, .aload_n 1, 1, (0, 0, 0, 0)), (230, .invokevirtual 27, 3, (64, 0, 374, 0)), (233, .aload_n 2, 1, (0, 0, 0, 0)),
  (234, .invokevirtual 31, 3, (107, 0, 755, 0)), (237, .if_icmp .eq 452, 3, (0, 0, 0, 0)), (240, .iconst 0, 1, (0, 0, 0, 0)), (241, .ireturn, 1, (0, 0, 0, 0)), (242, .aload_n 1, 1, (0, 0, 0, 0)), (243, .aload_n 0, 1, (0, 0, 0, 0)),
  (244, .iload_n 3, 1, (0, 0, 0, 0)), (245, .iconst 1, 1, (0, 0, 0, 0)), (246, .iadd, 1, (0, 0, 0, 0)), (247, .iaload, 1, (0, 0, 0, 0)), (248, .aload_n 0, 1, (0, 0, 0, 0)), (249, .iload_n 3, 1, (0, 0, 0, 0)),
  (250, .iconst 2, 1, (0, 0, 0, 0)), (251, .iadd, 1, (0, 0, 0, 0)), (252, .iaload, 1, (0, 0, 0, 0)), (253, .invokevirtual 32, 3, (65, 0, 426, 0)), (256, .aload_n 2, 1, (0, 0, 0, 0)), (257, .aload_n 0, 1, (0, 0, 0, 0)),
  (258, .iload_n 3, 1, (0, 0, 0, 0)), (259, .iconst 1, 1, (0, 0, 0, 0)), (260, .iadd, 1, (0, 0, 0, 0)), (261, .iaload, 1, (0, 0, 0, 0)), (262, .aload_n 0, 1, (0, 0, 0, 0)), (263, .iload_n 3, 1, (0, 0, 0, 0)),
  (264, .iconst 2, 1, (0, 0, 0, 0)), (265, .iadd, 1, (0, 0, 0, 0)), (266, .iaload, 1, (0, 0, 0, 0)), (267, .invokevirtual 35, 3, (108, 0, 794, 0)), (270, .if_icmp .eq 419, 3, (0, 0, 0, 0)), (273, .iconst 0, 1, (0, 0, 0, 0)),
  (274, .ireturn, 1, (0, 0, 0, 0)), (275, .aload_n 1, 1, (0, 0, 0, 0)), (276, .aload_n 0, 1, (0, 0, 0, 0)), (277, .iload_n 3, 1, (0, 0, 0, 0)), (278, .iconst 1, 1, (0, 0, 0, 0)), (279, .iadd, 1, (0, 0, 0, 0)),
  (280, .iaload, 1, (0, 0, 0, 0)), (281, .aload_n 0, 1, (0, 0, 0, 0)), (282, .iload_n 3, 1, (0, 0, 0, 0)), (283, .iconst 2, 1, (0, 0, 0, 0)), (284, .iadd, 1, (0, 0, 0, 0)), (285, .iaload, 1, (0, 0, 0, 0)),
  (286, .invokevirtual 36, 3, (66, 0, 436, 0)), (289, .aload_n 2, 1, (0, 0, 0, 0)), (290, .aload_n 0, 1, (0, 0, 0, 0)), (291, .iload_n 3, 1, (0, 0, 0, 0)), (292, .iconst 1, 1, (0, 0, 0, 0)), (293, .iadd, 1, (0, 0, 0, 0)),
  (294, .iaload, 1, (0, 0, 0, 0)), (295, .aload_n 0, 1, (0, 0, 0, 0)), (296, .iload_n 3, 1, (0, 0, 0, 0)), (297, .iconst 2, 1, (0, 0, 0, 0)), (298, .iadd, 1, (0, 0, 0, 0)), (299, .iaload, 1, (0, 0, 0, 0)),
  (300, .invokevirtual 39, 3, (109, 0, 798, 0)), (303, .if_icmp .eq 386, 3, (0, 0, 0, 0)), (306, .iconst 0, 1, (0, 0, 0, 0)), (307, .ireturn, 1, (0, 0, 0, 0)), (308, .aload_n 1, 1, (0, 0, 0, 0)), (309, .aload_n 0, 1, (0, 0, 0, 0)),
  (310, .iload_n 3, 1, (0, 0, 0, 0)), (311, .iconst 1, 1, (0, 0, 0, 0)), (312, .iadd, 1, (0, 0, 0, 0)), (313, .iaload, 1, (0, 0, 0, 0)), (314, .aload_n 0, 1, (0, 0, 0, 0)), (315, .iload_n 3, 1, (0, 0, 0, 0)),
  (316, .iconst 2, 1, (0, 0, 0, 0)), (317, .iadd, 1, (0, 0, 0, 0)), (318, .iaload, 1, (0, 0, 0, 0)), (319, .invokevirtual 40, 3, (67, 0, 444, 0)), (322, .aload_n 2, 1, (0, 0, 0, 0)), (323, .aload_n 0, 1, (0, 0, 0, 0)),
  (324, .iload_n 3, 1, (0, 0, 0, 0)), (325, .iconst 1, 1, (0, 0, 0, 0)), (326, .iadd, 1, (0, 0, 0, 0)), (327, .iaload, 1, (0, 0, 0, 0)), (328, .aload_n 0, 1, (0, 0, 0, 0)), (329, .iload_n 3, 1, (0, 0, 0, 0)),
  (330, .iconst 2, 1, (0, 0, 0, 0)), (331, .iadd, 1, (0, 0, 0, 0)), (332, .iaload, 1, (0, 0, 0, 0)), (333, .invokevirtual 43, 3, (110, 0, 802, 0)), (336, .if_icmp .eq 353, 3, (0, 0, 0, 0)), (339, .iconst 0, 1, (0, 0, 0, 0)),
  (340, .ireturn, 1, (0, 0, 0, 0)), (341, .aload_n 1, 1, (0, 0, 0, 0)), (342, .aload_n 0, 1, (0, 0, 0, 0)), (343, .iload_n 3, 1, (0, 0, 0, 0)), (344, .iconst 1, 1, (0, 0, 0, 0)), (345, .iadd, 1, (0, 0, 0, 0)),
  (346, .iaload, 1, (0, 0, 0, 0)), (347, .aload_n 0, 1, (0, 0, 0, 0)), (348, .iload_n 3, 1, (0, 0, 0, 0)), (349, .iconst 2, 1, (0, 0, 0, 0)), (350, .iadd, 1, (0, 0, 0, 0)), (351, .iaload, 1, (0, 0, 0, 0)),
  (352, .invokevirtual 44, 3, (68, 0, 453, 0)), (355, .aload_n 2, 1, (0, 0, 0, 0)), (356, .aload_n 0, 1, (0, 0, 0, 0)), (357, .iload_n 3, 1, (0, 0, 0, 0)), (358, .iconst 1, 1, (0, 0, 0, 0)), (359, .iadd, 1, (0, 0, 0, 0)),
  (360, .iaload, 1, (0, 0, 0, 0)), (361, .aload_n 0, 1, (0, 0, 0, 0)), (362, .iload_n 3, 1, (0, 0, 0, 0)), (363, .iconst 2, 1, (0, 0, 0, 0)), (364, .iadd, 1, (0, 0, 0, 0)), (365, .iaload, 1, (0, 0, 0, 0)),
  (366, .invokevirtual 47, 3, (111, 0, 807, 0)), (369, .if_icmp .eq 320, 3, (0, 0, 0, 0)), (372, .iconst 0, 1, (0, 0, 0, 0)), (373, .ireturn, 1, (0, 0, 0, 0)), (374, .aload_n 1, 1, (0, 0, 0, 0)), (375, .aload_n 0, 1, (0, 0, 0, 0)),
  (376, .iload_n 3, 1, (0, 0, 0, 0)), (377, .iconst 1, 1, (0, 0, 0, 0)), (378, .iadd, 1, (0, 0, 0, 0)), (379, .iaload, 1, (0, 0, 0, 0)), (380, .aload_n 0, 1, (0, 0, 0, 0)), (381, .iload_n 3, 1, (0, 0, 0, 0)),
  (382, .iconst 2, 1, (0, 0, 0, 0)), (383, .iadd, 1, (0, 0, 0, 0)), (384, .iaload, 1, (0, 0, 0, 0)), (385, .invokevirtual 48, 3, (69, 0, 466, 0)), (388, .aload_n 2, 1, (0, 0, 0, 0)), (389, .aload_n 0, 1, (0, 0, 0, 0)),
  (390, .iload_n 3, 1, (0, 0, 0, 0)), (391, .iconst 1, 1, (0, 0, 0, 0)), (392, .iadd, 1, (0, 0, 0, 0)), (393, .iaload, 1, (0, 0, 0, 0)), (394, .aload_n 0, 1, (0, 0, 0, 0)), (395, .iload_n 3, 1, (0, 0, 0, 0)),
  (396, .iconst 2, 1, (0, 0, 0, 0)), (397, .iadd, 1, (0, 0, 0, 0)), (398, .iaload, 1, (0, 0, 0, 0)), (399, .invokevirtual 51, 3, (112, 0, 811, 0)), (402, .if_icmp .eq 287, 3, (0, 0, 0, 0)), (405, .iconst 0, 1, (0, 0, 0, 0)),
  (406, .ireturn, 1, (0, 0, 0, 0)), (407, .aload_n 1, 1, (0, 0, 0, 0)), (408, .aload_n 0, 1, (0, 0, 0, 0)), (409, .iload_n 3, 1, (0, 0, 0, 0)), (410, .iconst 1, 1, (0, 0, 0, 0)), (411, .iadd, 1, (0, 0, 0, 0)),
  (412, .iaload, 1, (0, 0, 0, 0)), (413, .invokevirtual 52, 3, (70, 0, 476, 0)), (416, .aload_n 2, 1, (0, 0, 0, 0)), (417, .aload_n 0, 1, (0, 0, 0, 0)), (418, .iload_n 3, 1, (0, 0, 0, 0)), (419, .iconst 1, 1, (0, 0, 0, 0)),
  (420, .iadd, 1, (0, 0, 0, 0)), (421, .iaload, 1, (0, 0, 0, 0)), (422, .invokevirtual 55, 3, (114, 0, 815, 0)), (425, .if_icmp .eq 264, 3, (0, 0, 0, 0)), (428, .iconst 0, 1, (0, 0, 0, 0)), (429, .ireturn, 1, (0, 0, 0, 0)),
  (430, .aload_n 1, 1, (0, 0, 0, 0)), (431, .invokevirtual 56, 3, (71, 0, 484, 0)), (434, .aload_n 2, 1, (0, 0, 0, 0)), (435, .invokevirtual 59, 3, (115, 0, 823, 0)), (438, .if_icmp .eq 251, 3, (0, 0, 0, 0)), (441, .iconst 0, 1, (0, 0, 0, 0)),
  (442, .ireturn, 1, (0, 0, 0, 0)), (443, .aload_n 1, 1, (0, 0, 0, 0)), (444, .aload_n 0, 1, (0, 0, 0, 0)), (445, .iload_n 3, 1, (0, 0, 0, 0)), (446, .iconst 1, 1, (0, 0, 0, 0)), (447, .iadd, 1, (0, 0, 0, 0)),
  (448, .iaload, 1, (0, 0, 0, 0)), (449, .invokevirtual 60, 3, (72, 0, 492, 0)), (452, .aload_n 2, 1, (0, 0, 0, 0)), (453, .aload_n 0, 1, (0, 0, 0, 0)), (454, .iload_n 3, 1, (0, 0, 0, 0)), (455, .iconst 1, 1, (0, 0, 0, 0)),
  (456, .iadd, 1, (0, 0, 0, 0)), (457, .iaload, 1, (0, 0, 0, 0)), (458, .invokevirtual 63, 3, (116, 0, 827, 0)), (461, .if_icmp .eq 228, 3, (0, 0, 0, 0)), (464, .iconst 0, 1, (0, 0, 0, 0)), (465, .ireturn, 1, (0, 0, 0, 0)),
  (466, .aload_n 1, 1, (0, 0, 0, 0)), (467, .aload_n 0, 1, (0, 0, 0, 0)), (468, .iload_n 3, 1, (0, 0, 0, 0)), (469, .iconst 1, 1, (0, 0, 0, 0)), (470, .iadd, 1, (0, 0, 0, 0)), (471, .iaload, 1, (0, 0, 0, 0)),
  (472, .invokevirtual 64, 3, (73, 0, 507, 0)), (475, .aload_n 2, 1, (0, 0, 0, 0)), (476, .aload_n 0, 1, (0, 0, 0, 0)), (477, .iload_n 3, 1, (0, 0, 0, 0)), (478, .iconst 1, 1, (0, 0, 0, 0)), (479, .iadd, 1, (0, 0, 0, 0)),
  (480, .iaload, 1, (0, 0, 0, 0)), (481, .invokevirtual 67, 3, (117, 0, 831, 0)), (484, .if_icmp .eq 205, 3, (0, 0, 0, 0)), (487, .iconst 0, 1, (0, 0, 0, 0)), (488, .ireturn, 1, (0, 0, 0, 0)), (489, .aload_n 1, 1, (0, 0, 0, 0)),
  (490, .aload_n 0, 1, (0, 0, 0, 0)), (491, .iload_n 3, 1, (0, 0, 0, 0)), (492, .iconst 1, 1, (0, 0, 0, 0)), (493, .iadd, 1, (0, 0, 0, 0)), (494, .iaload, 1, (0, 0, 0, 0)), (495, .aload_n 0, 1, (0, 0, 0, 0)),
  (496, .iload_n 3, 1, (0, 0, 0, 0)), (497, .iconst 2, 1, (0, 0, 0, 0)), (498, .iadd, 1, (0, 0, 0, 0)), (499, .iaload, 1, (0, 0, 0, 0)), (500, .invokevirtual 68, 3, (74, 0, 524, 0)), (503, .aload_n 2, 1, (0, 0, 0, 0)),
  (504, .aload_n 0, 1, (0, 0, 0, 0)), (505, .iload_n 3, 1, (0, 0, 0, 0)), (506, .iconst 1, 1, (0, 0, 0, 0)), (507, .iadd, 1, (0, 0, 0, 0)), (508, .iaload, 1, (0, 0, 0, 0)), (509, .aload_n 0, 1, (0, 0, 0, 0)),
  (510, .iload_n 3, 1, (0, 0, 0, 0)), (511, .iconst 2, 1, (0, 0, 0, 0)), (512, .iadd, 1, (0, 0, 0, 0)), (513, .iaload, 1, (0, 0, 0, 0)), (514, .invokevirtual 71, 3, (122, 0, 838, 0)), (517, .if_icmp .eq 172, 3, (0, 0, 0, 0)),
  (520, .iconst 0, 1, (0, 0, 0, 0)), (521, .ireturn, 1, (0, 0, 0, 0)), (522, .aload_n 1, 1, (0, 0, 0, 0)), (523, .aload_n 0, 1, (0, 0, 0, 0)), (524, .iload_n 3, 1, (0, 0, 0, 0)), (525, .iconst 1, 1, (0, 0, 0, 0)),
  (526, .iadd, 1, (0, 0, 0, 0)), (527, .iaload, 1, (0, 0, 0, 0)), (528, .aload_n 0, 1, (0, 0, 0, 0)), (529, .iload_n 3, 1, (0, 0, 0, 0)), (530, .iconst 2, 1, (0, 0, 0, 0)), (531, .iadd, 1, (0, 0, 0, 0)),
  (532, .iaload, 1, (0, 0, 0, 0)), (533, .invokevirtual 72, 3, (75, 0, 549, 0)), (536, .aload_n 2, 1, (0, 0, 0, 0)), (537, .aload_n 0, 1, (0, 0, 0, 0)), (538, .iload_n 3, 1, (0, 0, 0, 0)), (539, .iconst 1, 1, (0, 0, 0, 0)),
  (540, .iadd, 1, (0, 0, 0, 0)), (541, .iaload, 1, (0, 0, 0, 0)), (542, .aload_n 0, 1, (0, 0, 0, 0)), (543, .iload_n 3, 1, (0, 0, 0, 0)), (544, .iconst 2, 1, (0, 0, 0, 0)), (545, .iadd, 1, (0, 0, 0, 0)),
  (546, .iaload, 1, (0, 0, 0, 0)), (547, .invokevirtual 75, 3, (123, 0, 858, 0)), (550, .if_icmp .eq 139, 3, (0, 0, 0, 0)), (553, .iconst 0, 1, (0, 0, 0, 0)), (554, .ireturn, 1, (0, 0, 0, 0)), (555, .aload_n 1, 1, (0, 0, 0, 0)),
  (556, .aload_n 0, 1, (0, 0, 0, 0)), (557, .iload_n 3, 1, (0, 0, 0, 0)), (558, .iconst 1, 1, (0, 0, 0, 0)), (559, .iadd, 1, (0, 0, 0, 0)), (560, .iaload, 1, (0, 0, 0, 0)), (561, .invokevirtual 76, 3, (76, 0, 554, 0)),
  (564, .aload_n 2, 1, (0, 0, 0, 0)), (565, .aload_n 0, 1, (0, 0, 0, 0)), (566, .iload_n 3, 1, (0, 0, 0, 0)), (567, .iconst 1, 1, (0, 0, 0, 0)), (568, .iadd, 1, (0, 0, 0, 0)), (569, .iaload, 1, (0, 0, 0, 0)),
  (570, .invokevirtual 79, 3, (124, 0, 862, 0)), (573, .if_icmp .eq 116, 3, (0, 0, 0, 0)), (576, .iconst 0, 1, (0, 0, 0, 0)), (577, .ireturn, 1, (0, 0, 0, 0)), (578, .aload_n 1, 1, (0, 0, 0, 0)), (579, .invokevirtual 80, 3, (77, 0, 562, 0)),
  (582, .aload_n 2, 1, (0, 0, 0, 0)), (583, .invokevirtual 83, 3, (125, 0, 866, 0)), (586, .if_icmp .eq 103, 3, (0, 0, 0, 0)), (589, .iconst 0, 1, (0, 0, 0, 0)), (590, .ireturn, 1, (0, 0, 0, 0)), (591, .aload_n 1, 1, (0, 0, 0, 0)),
  (592, .invokevirtual 84, 3, (78, 0, 566, 0)), (595, .aload_n 2, 1, (0, 0, 0, 0)), (596, .invokevirtual 87, 3, (126, 0, 870, 0)), (599, .if_icmp .eq 90, 3, (0, 0, 0, 0)), (602, .iconst 0, 1, (0, 0, 0, 0)), (603, .ireturn, 1, (0, 0, 0, 0)),
  (604, .aload_n 1, 1, (0, 0, 0, 0)), (605, .invokevirtual 88, 3, (79, 0, 570, 0)), (608, .aload_n 2, 1, (0, 0, 0, 0)), (609, .invokevirtual 91, 3, (127, 0, 874, 0)), (612, .if_icmp .eq 77, 3, (0, 0, 0, 0)), (615, .iconst 0, 1, (0, 0, 0, 0)),
  (616, .ireturn, 1, (0, 0, 0, 0)), (617, .aload_n 1, 1, (0, 0, 0, 0)), (618, .aload_n 0, 1, (0, 0, 0, 0)), (619, .iload_n 3, 1, (0, 0, 0, 0)), (620, .iconst 1, 1, (0, 0, 0, 0)), (621, .iadd, 1, (0, 0, 0, 0)),
  (622, .iaload, 1, (0, 0, 0, 0)), (623, .invokevirtual 92, 3, (80, 0, 578, 0)), (626, .aload_n 2, 1, (0, 0, 0, 0)), (627, .aload_n 0, 1, (0, 0, 0, 0)), (628, .iload_n 3, 1, (0, 0, 0, 0)), (629, .iconst 1, 1, (0, 0, 0, 0)),
  (630, .iadd, 1, (0, 0, 0, 0)), (631, .iaload, 1, (0, 0, 0, 0)), (632, .invokevirtual 95, 3, (128, 0, 878, 0)), (635, .if_icmp .eq 54, 3, (0, 0, 0, 0)), (638, .iconst 0, 1, (0, 0, 0, 0)), (639, .ireturn, 1, (0, 0, 0, 0)),
  (640, .aload_n 1, 1, (0, 0, 0, 0)), (641, .invokevirtual 96, 3, (81, 0, 587, 0)), (644, .aload_n 2, 1, (0, 0, 0, 0)), (645, .invokevirtual 99, 3, (129, 0, 882, 0)), (648, .if_icmp .eq 41, 3, (0, 0, 0, 0)), (651, .iconst 0, 1, (0, 0, 0, 0)),
  (652, .ireturn, 1, (0, 0, 0, 0)), (653, .aload_n 1, 1, (0, 0, 0, 0)), (654, .aload_n 0, 1, (0, 0, 0, 0)), (655, .iload_n 3, 1, (0, 0, 0, 0)), (656, .iconst 1, 1, (0, 0, 0, 0)), (657, .iadd, 1, (0, 0, 0, 0)),
  (658, .iaload, 1, (0, 0, 0, 0)), (659, .invokevirtual 100, 3, (82, 0, 591, 0)), (662, .aload_n 2, 1, (0, 0, 0, 0)), (663, .aload_n 0, 1, (0, 0, 0, 0)), (664, .iload_n 3, 1, (0, 0, 0, 0)), (665, .iconst 1, 1, (0, 0, 0, 0)),
  (666, .iadd, 1, (0, 0, 0, 0)), (667, .iaload, 1, (0, 0, 0, 0)), (668, .invokevirtual 103, 3, (136, 0, 886, 0)), (671, .if_icmp .eq 18, 3, (0, 0, 0, 0)), (674, .iconst 0, 1, (0, 0, 0, 0)), (675, .ireturn, 1, (0, 0, 0, 0)),
  (676, .aload_n 1, 1, (0, 0, 0, 0)), (677, .invokevirtual 104, 3, (83, 0, 640, 0)), (680, .aload_n 2, 1, (0, 0, 0, 0)), (681, .invokevirtual 107, 3, (137, 0, 917, 0)), (684, .if_icmp .eq 5, 3, (0, 0, 0, 0)), (687, .iconst 0, 1, (0, 0, 0, 0)),
  (688, .ireturn, 1, (0, 0, 0, 0)), (689, .iinc 3 3, 3, (0, 0, 0, 0)), (692, .goto (-674), 3, (0, 0, 0, 0)), (695, .iconst 1, 1, (0, 0, 0, 0)), (696, .ireturn, 1, (0, 0, 0, 0))]
def mL_law : ME := (yL_law, cL_law, 4, (some .boolean), 1, 1, 0, tL_law)
def pgl : List ME := [mX0_init, mX0_bestReply, mX0_bestOpenBid, mX0_gainByOpenBid, mX0_leastGain, mX0_gainOfTrial, mX0_gainInLastRound, mX1_init, mX1_add, mX1_takeLatest, mX2_init, mX2_work, mX2_findWinner, mX2_payment, mX2_sharePot, mX2_coinsBehind, mX3_init, mX3_empty, mX3_copyFrom, mX3_note, mX3_indexOf, mX3_numberOfPair, mX4_init, mX4_empty, mX4_copyFrom, mX4_add, mX4_numberOfRound, mX4_columnOf, mX5_init, mX5_copyFrom, mX5_startGame, mX5_addLot, mX5_makeBid, mX5_changeSetting, mX5_settle, mX5_emptyTable, mX5_hasPlayer, mX5_isOver, mX5_nextStake, mX5_bidCount, mX5_othersHaveBids, mX5_mostCoinsOfOthers, mX5_allCoins, mX5_leader, mX5_canLead, mX5_numberOfPlayer, mX5_valueAt, mX5_number, mX6_init, mX6_append, mX6_numberOfFault, mX6_perform, mX6_call, mX6_readCommand, mX6_readValue, mX6_readBid, mX6_readNumber, mX6_passes, mX6_digitAt, mX6_characterAt, mX7_init, mX7_begin, mX7_lot, mX7_bid, mX7_resolve, mX7_set, mX7_playerOf, mX7_lotOf, mX7_roundOf, mX7_record, mX7_count, mX7_winner, mX7_sure, mX7_reply, mX7_holds, mX7_holding, mX7_chance, mX7_keep, mX7_restore, mX7_undo, mX7_type, mX7_clearText, mX7_fault, mX7_play, mX7_freshDraft, mX7_adopt, mX7_isError, mX8_init, mX8_in, mX8_copies, mX8_changes, mX8_isPlayer, mX8_of, mX8_begins, mX8_begin, mX8_lot, mX8_bids, mX8_bid, mX8_onTable, mX8_greatest, mX8_lays, mX8_pays, mX8_least, mX8_notes, mX8_keeps, mX8_shares, mX8_resolves, mX8_resolve, mX8_set, mX8_playerOf, mX8_lotOf, mX8_roundOf, mX8_record, mX8_coinsAll, mX8_count, mX8_winner, mX8_sure, mX8_reply, mX8_tries, mX8_holdsOne, mX8_holdsTwo, mX8_looks, mX8_holds, mX8_holding, mX8_chance, mX8_keep, mX8_restore, mX8_undo, mX8_type, mX8_clearText, mX8_isAt, mX8_sign, mX8_number, mX8_reads, mX8_calls, mX8_plays, mX8_fault, mX8_play]
def pg (i : Nat) : Option ME := pgl[i]?
theorem all_from {α : Type} {p : α → Bool} {l : List α} {a n : Nat} (h1 : ((l.drop a).take n).all p = true) (h2 : (l.drop (a + n)).all p = true) : (l.drop a).all p = true := by
  rw [← List.take_append_drop n (l.drop a), List.all_append, List.drop_drop, h1, h2]
  rfl
theorem WL_1 {p : Nat} {w : Jvm.Cond} (h : tables_1_1[p]? = some w) (hg : goodWord w = true) : w ∈ WL := List.mem_filter.mpr ⟨List.mem_append_right _ (show w ∈ tables_1 from List.mem_append_left _ (List.mem_of_getElem? h)), hg⟩
theorem WL_2 {p : Nat} {w : Jvm.Cond} (h : tables_1_2[p]? = some w) (hg : goodWord w = true) : w ∈ WL := List.mem_filter.mpr ⟨List.mem_append_right _ (show w ∈ tables_1 from List.mem_append_right _ (List.mem_append_left _ (List.mem_of_getElem? h))), hg⟩
theorem WL_3 {p : Nat} {w : Jvm.Cond} (h : tables_1_3[p]? = some w) (hg : goodWord w = true) : w ∈ WL := List.mem_filter.mpr ⟨List.mem_append_right _ (show w ∈ tables_1 from List.mem_append_right _ (List.mem_append_right _ (List.mem_append_left _ (List.mem_of_getElem? h)))), hg⟩
theorem WL_4 {p : Nat} {w : Jvm.Cond} (h : tables_1_4[p]? = some w) (hg : goodWord w = true) : w ∈ WL := List.mem_filter.mpr ⟨List.mem_append_right _ (show w ∈ tables_1 from List.mem_append_right _ (List.mem_append_right _ (List.mem_append_right _ ((List.mem_of_getElem? h))))), hg⟩
theorem iX0_init : ∀ e ∈ tX0_init, okI pg mX0_init e = true := List.all_eq_true.mp (by decide +kernel)
set_option maxRecDepth 30000 in
theorem oX0_init : OKM pg mX0_init := ⟨by decide +kernel, ⟨by decide +kernel, by decide +kernel⟩, by decide +kernel, WL_2 (p := 9) rfl (by decide +kernel), WL_of (p := 35) (by decide +kernel) (by decide +kernel),
  fun h => absurd h (by decide +kernel),
  fun h => absurd h (by decide +kernel),
  fun _ => ⟨WL_of (p := 274) (by decide +kernel) (by decide +kernel), by decide +kernel, by decide +kernel⟩,
  by decide +kernel, iX0_init⟩
theorem iX0_bestReply_0 : ((tX0_bestReply.drop 0).take 60).all (okI pg mX0_bestReply) = true := by decide +kernel
theorem iX0_bestReply_60 : (tX0_bestReply.drop 60).all (okI pg mX0_bestReply) = true := by decide +kernel
theorem iX0_bestReply : ∀ e ∈ tX0_bestReply, okI pg mX0_bestReply e = true := List.all_eq_true.mp (show (tX0_bestReply.drop 0).all (okI pg mX0_bestReply) = true from (all_from iX0_bestReply_0 iX0_bestReply_60))
set_option maxRecDepth 30000 in
theorem oX0_bestReply : OKM pg mX0_bestReply := ⟨by decide +kernel, ⟨by decide +kernel, by decide +kernel⟩, by decide +kernel, WL_3 (p := 12) rfl (by decide +kernel), WL_of (p := 35) (by decide +kernel) (by decide +kernel),
  fun _ => ⟨WL_of (p := 516) (by decide +kernel) (by decide +kernel), WL_of (p := 517) (by decide +kernel) (by decide +kernel), ⟨_, rfl, by decide +kernel⟩⟩,
  fun h => absurd h (by decide +kernel),
  fun h => absurd h (by decide +kernel),
  by decide +kernel, iX0_bestReply⟩
theorem iX0_bestOpenBid : ∀ e ∈ tX0_bestOpenBid, okI pg mX0_bestOpenBid e = true := List.all_eq_true.mp (by decide +kernel)
set_option maxRecDepth 30000 in
theorem oX0_bestOpenBid : OKM pg mX0_bestOpenBid := ⟨by decide +kernel, ⟨by decide +kernel, by decide +kernel⟩, by decide +kernel, WL_3 (p := 29) rfl (by decide +kernel), WL_of (p := 35) (by decide +kernel) (by decide +kernel),
  fun _ => ⟨WL_of (p := 533) (by decide +kernel) (by decide +kernel), WL_of (p := 534) (by decide +kernel) (by decide +kernel), ⟨_, rfl, by decide +kernel⟩⟩,
  fun h => absurd h (by decide +kernel),
  fun h => absurd h (by decide +kernel),
  by decide +kernel, iX0_bestOpenBid⟩
theorem iX0_gainByOpenBid : ∀ e ∈ tX0_gainByOpenBid, okI pg mX0_gainByOpenBid e = true := List.all_eq_true.mp (by decide +kernel)
set_option maxRecDepth 30000 in
theorem oX0_gainByOpenBid : OKM pg mX0_gainByOpenBid := ⟨by decide +kernel, ⟨by decide +kernel, by decide +kernel⟩, by decide +kernel, WL_3 (p := 25) rfl (by decide +kernel), WL_of (p := 35) (by decide +kernel) (by decide +kernel),
  fun _ => ⟨WL_of (p := 529) (by decide +kernel) (by decide +kernel), WL_of (p := 530) (by decide +kernel) (by decide +kernel), ⟨_, rfl, by decide +kernel⟩⟩,
  fun h => absurd h (by decide +kernel),
  fun h => absurd h (by decide +kernel),
  by decide +kernel, iX0_gainByOpenBid⟩
theorem iX0_leastGain : ∀ e ∈ tX0_leastGain, okI pg mX0_leastGain e = true := List.all_eq_true.mp (by decide +kernel)
set_option maxRecDepth 30000 in
theorem oX0_leastGain : OKM pg mX0_leastGain := ⟨by decide +kernel, ⟨by decide +kernel, by decide +kernel⟩, by decide +kernel, WL_3 (p := 33) rfl (by decide +kernel), WL_of (p := 35) (by decide +kernel) (by decide +kernel),
  fun _ => ⟨WL_of (p := 537) (by decide +kernel) (by decide +kernel), WL_of (p := 538) (by decide +kernel) (by decide +kernel), ⟨_, rfl, by decide +kernel⟩⟩,
  fun h => absurd h (by decide +kernel),
  fun h => absurd h (by decide +kernel),
  by decide +kernel, iX0_leastGain⟩
theorem iX0_gainOfTrial_0 : ((tX0_gainOfTrial.drop 0).take 60).all (okI pg mX0_gainOfTrial) = true := by decide +kernel
theorem iX0_gainOfTrial_60 : (tX0_gainOfTrial.drop 60).all (okI pg mX0_gainOfTrial) = true := by decide +kernel
theorem iX0_gainOfTrial : ∀ e ∈ tX0_gainOfTrial, okI pg mX0_gainOfTrial e = true := List.all_eq_true.mp (show (tX0_gainOfTrial.drop 0).all (okI pg mX0_gainOfTrial) = true from (all_from iX0_gainOfTrial_0 iX0_gainOfTrial_60))
set_option maxRecDepth 30000 in
theorem oX0_gainOfTrial : OKM pg mX0_gainOfTrial := ⟨by decide +kernel, ⟨by decide +kernel, by decide +kernel⟩, by decide +kernel, WL_3 (p := 38) rfl (by decide +kernel), WL_of (p := 35) (by decide +kernel) (by decide +kernel),
  fun _ => ⟨WL_of (p := 542) (by decide +kernel) (by decide +kernel), WL_of (p := 543) (by decide +kernel) (by decide +kernel), ⟨_, rfl, by decide +kernel⟩⟩,
  fun h => absurd h (by decide +kernel),
  fun h => absurd h (by decide +kernel),
  by decide +kernel, iX0_gainOfTrial⟩
theorem iX0_gainInLastRound : ∀ e ∈ tX0_gainInLastRound, okI pg mX0_gainInLastRound e = true := List.all_eq_true.mp (by decide +kernel)
set_option maxRecDepth 30000 in
theorem oX0_gainInLastRound : OKM pg mX0_gainInLastRound := ⟨by decide +kernel, ⟨by decide +kernel, by decide +kernel⟩, by decide +kernel, WL_3 (p := 41) rfl (by decide +kernel), WL_of (p := 35) (by decide +kernel) (by decide +kernel),
  fun h => absurd h (by decide +kernel),
  fun _ => WL_of (p := 546) (by decide +kernel) (by decide +kernel),
  fun h => absurd h (by decide +kernel),
  by decide +kernel, iX0_gainInLastRound⟩
theorem iX1_init : ∀ e ∈ tX1_init, okI pg mX1_init e = true := List.all_eq_true.mp (by decide +kernel)
set_option maxRecDepth 30000 in
theorem oX1_init : OKM pg mX1_init := ⟨by decide +kernel, ⟨by decide +kernel, by decide +kernel⟩, by decide +kernel, WL_1 (p := 24) rfl (by decide +kernel), WL_of (p := 28) (by decide +kernel) (by decide +kernel),
  fun h => absurd h (by decide +kernel),
  fun h => absurd h (by decide +kernel),
  fun _ => ⟨WL_of (p := 49) (by decide +kernel) (by decide +kernel), by decide +kernel, by decide +kernel⟩,
  by decide +kernel, iX1_init⟩
theorem iX1_add : ∀ e ∈ tX1_add, okI pg mX1_add e = true := List.all_eq_true.mp (by decide +kernel)
set_option maxRecDepth 30000 in
theorem oX1_add : OKM pg mX1_add := ⟨by decide +kernel, ⟨by decide +kernel, by decide +kernel⟩, by decide +kernel, WL_2 (p := 77) rfl (by decide +kernel), WL_of (p := 28) (by decide +kernel) (by decide +kernel),
  fun _ => ⟨WL_of (p := 341) (by decide +kernel) (by decide +kernel), WL_of (p := 342) (by decide +kernel) (by decide +kernel), ⟨_, rfl, by decide +kernel⟩⟩,
  fun h => absurd h (by decide +kernel),
  fun h => absurd h (by decide +kernel),
  by decide +kernel, iX1_add⟩
theorem iX1_takeLatest : ∀ e ∈ tX1_takeLatest, okI pg mX1_takeLatest e = true := List.all_eq_true.mp (by decide +kernel)
set_option maxRecDepth 30000 in
theorem oX1_takeLatest : OKM pg mX1_takeLatest := ⟨by decide +kernel, ⟨by decide +kernel, by decide +kernel⟩, by decide +kernel, WL_3 (p := 71) rfl (by decide +kernel), WL_of (p := 28) (by decide +kernel) (by decide +kernel),
  fun _ => ⟨WL_of (p := 575) (by decide +kernel) (by decide +kernel), WL_of (p := 576) (by decide +kernel) (by decide +kernel), ⟨_, rfl, by decide +kernel⟩⟩,
  fun h => absurd h (by decide +kernel),
  fun h => absurd h (by decide +kernel),
  by decide +kernel, iX1_takeLatest⟩
theorem iX2_init : ∀ e ∈ tX2_init, okI pg mX2_init e = true := List.all_eq_true.mp (by decide +kernel)
set_option maxRecDepth 30000 in
theorem oX2_init : OKM pg mX2_init := ⟨by decide +kernel, ⟨by decide +kernel, by decide +kernel⟩, by decide +kernel, WL_1 (p := 216) rfl (by decide +kernel), WL_of (p := 34) (by decide +kernel) (by decide +kernel),
  fun h => absurd h (by decide +kernel),
  fun h => absurd h (by decide +kernel),
  fun _ => ⟨WL_of (p := 241) (by decide +kernel) (by decide +kernel), by decide +kernel, by decide +kernel⟩,
  by decide +kernel, iX2_init⟩
theorem iX2_work : ∀ e ∈ tX2_work, okI pg mX2_work e = true := List.all_eq_true.mp (by decide +kernel)
set_option maxRecDepth 30000 in
theorem oX2_work : OKM pg mX2_work := ⟨by decide +kernel, ⟨by decide +kernel, by decide +kernel⟩, by decide +kernel, WL_2 (p := 119) rfl (by decide +kernel), WL_of (p := 34) (by decide +kernel) (by decide +kernel),
  fun _ => ⟨WL_of (p := 383) (by decide +kernel) (by decide +kernel), WL_of (p := 384) (by decide +kernel) (by decide +kernel), ⟨_, rfl, by decide +kernel⟩⟩,
  fun h => absurd h (by decide +kernel),
  fun h => absurd h (by decide +kernel),
  by decide +kernel, iX2_work⟩
theorem iX2_findWinner : ∀ e ∈ tX2_findWinner, okI pg mX2_findWinner e = true := List.all_eq_true.mp (by decide +kernel)
set_option maxRecDepth 30000 in
theorem oX2_findWinner : OKM pg mX2_findWinner := ⟨by decide +kernel, ⟨by decide +kernel, by decide +kernel⟩, by decide +kernel, WL_2 (p := 123) rfl (by decide +kernel), WL_of (p := 34) (by decide +kernel) (by decide +kernel),
  fun _ => ⟨WL_of (p := 387) (by decide +kernel) (by decide +kernel), WL_of (p := 388) (by decide +kernel) (by decide +kernel), ⟨_, rfl, by decide +kernel⟩⟩,
  fun h => absurd h (by decide +kernel),
  fun h => absurd h (by decide +kernel),
  by decide +kernel, iX2_findWinner⟩
theorem iX2_payment : ∀ e ∈ tX2_payment, okI pg mX2_payment e = true := List.all_eq_true.mp (by decide +kernel)
set_option maxRecDepth 30000 in
theorem oX2_payment : OKM pg mX2_payment := ⟨by decide +kernel, ⟨by decide +kernel, by decide +kernel⟩, by decide +kernel, WL_2 (p := 127) rfl (by decide +kernel), WL_of (p := 34) (by decide +kernel) (by decide +kernel),
  fun _ => ⟨WL_of (p := 391) (by decide +kernel) (by decide +kernel), WL_of (p := 392) (by decide +kernel) (by decide +kernel), ⟨_, rfl, by decide +kernel⟩⟩,
  fun h => absurd h (by decide +kernel),
  fun h => absurd h (by decide +kernel),
  by decide +kernel, iX2_payment⟩
theorem iX2_sharePot : ∀ e ∈ tX2_sharePot, okI pg mX2_sharePot e = true := List.all_eq_true.mp (by decide +kernel)
set_option maxRecDepth 30000 in
theorem oX2_sharePot : OKM pg mX2_sharePot := ⟨by decide +kernel, ⟨by decide +kernel, by decide +kernel⟩, by decide +kernel, WL_2 (p := 134) rfl (by decide +kernel), WL_of (p := 34) (by decide +kernel) (by decide +kernel),
  fun _ => ⟨WL_of (p := 398) (by decide +kernel) (by decide +kernel), WL_of (p := 399) (by decide +kernel) (by decide +kernel), ⟨_, rfl, by decide +kernel⟩⟩,
  fun h => absurd h (by decide +kernel),
  fun h => absurd h (by decide +kernel),
  by decide +kernel, iX2_sharePot⟩
theorem iX2_coinsBehind : ∀ e ∈ tX2_coinsBehind, okI pg mX2_coinsBehind e = true := List.all_eq_true.mp (by decide +kernel)
set_option maxRecDepth 30000 in
theorem oX2_coinsBehind : OKM pg mX2_coinsBehind := ⟨by decide +kernel, ⟨by decide +kernel, by decide +kernel⟩, by decide +kernel, WL_2 (p := 155) rfl (by decide +kernel), WL_of (p := 34) (by decide +kernel) (by decide +kernel),
  fun _ => ⟨WL_of (p := 419) (by decide +kernel) (by decide +kernel), WL_of (p := 420) (by decide +kernel) (by decide +kernel), ⟨_, rfl, by decide +kernel⟩⟩,
  fun h => absurd h (by decide +kernel),
  fun h => absurd h (by decide +kernel),
  by decide +kernel, iX2_coinsBehind⟩
theorem iX3_init : ∀ e ∈ tX3_init, okI pg mX3_init e = true := List.all_eq_true.mp (by decide +kernel)
set_option maxRecDepth 30000 in
theorem oX3_init : OKM pg mX3_init := ⟨by decide +kernel, ⟨by decide +kernel, by decide +kernel⟩, by decide +kernel, WL_1 (p := 54) rfl (by decide +kernel), WL_of (p := 31) (by decide +kernel) (by decide +kernel),
  fun h => absurd h (by decide +kernel),
  fun h => absurd h (by decide +kernel),
  fun _ => ⟨WL_of (p := 79) (by decide +kernel) (by decide +kernel), by decide +kernel, by decide +kernel⟩,
  by decide +kernel, iX3_init⟩
theorem iX3_empty : ∀ e ∈ tX3_empty, okI pg mX3_empty e = true := List.all_eq_true.mp (by decide +kernel)
set_option maxRecDepth 30000 in
theorem oX3_empty : OKM pg mX3_empty := ⟨by decide +kernel, ⟨by decide +kernel, by decide +kernel⟩, by decide +kernel, WL_1 (p := 90) rfl (by decide +kernel), WL_of (p := 31) (by decide +kernel) (by decide +kernel),
  fun _ => ⟨WL_of (p := 114) (by decide +kernel) (by decide +kernel), WL_of (p := 115) (by decide +kernel) (by decide +kernel), ⟨_, rfl, by decide +kernel⟩⟩,
  fun h => absurd h (by decide +kernel),
  fun h => absurd h (by decide +kernel),
  by decide +kernel, iX3_empty⟩
theorem iX3_copyFrom : ∀ e ∈ tX3_copyFrom, okI pg mX3_copyFrom e = true := List.all_eq_true.mp (by decide +kernel)
set_option maxRecDepth 30000 in
theorem oX3_copyFrom : OKM pg mX3_copyFrom := ⟨by decide +kernel, ⟨by decide +kernel, by decide +kernel⟩, by decide +kernel, WL_2 (p := 63) rfl (by decide +kernel), WL_of (p := 31) (by decide +kernel) (by decide +kernel),
  fun _ => ⟨WL_of (p := 327) (by decide +kernel) (by decide +kernel), WL_of (p := 328) (by decide +kernel) (by decide +kernel), ⟨_, rfl, by decide +kernel⟩⟩,
  fun h => absurd h (by decide +kernel),
  fun h => absurd h (by decide +kernel),
  by decide +kernel, iX3_copyFrom⟩
theorem iX3_note : ∀ e ∈ tX3_note, okI pg mX3_note e = true := List.all_eq_true.mp (by decide +kernel)
set_option maxRecDepth 30000 in
theorem oX3_note : OKM pg mX3_note := ⟨by decide +kernel, ⟨by decide +kernel, by decide +kernel⟩, by decide +kernel, WL_2 (p := 147) rfl (by decide +kernel), WL_of (p := 31) (by decide +kernel) (by decide +kernel),
  fun _ => ⟨WL_of (p := 411) (by decide +kernel) (by decide +kernel), WL_of (p := 412) (by decide +kernel) (by decide +kernel), ⟨_, rfl, by decide +kernel⟩⟩,
  fun h => absurd h (by decide +kernel),
  fun h => absurd h (by decide +kernel),
  by decide +kernel, iX3_note⟩
theorem iX3_indexOf : ∀ e ∈ tX3_indexOf, okI pg mX3_indexOf e = true := List.all_eq_true.mp (by decide +kernel)
set_option maxRecDepth 30000 in
theorem oX3_indexOf : OKM pg mX3_indexOf := ⟨by decide +kernel, ⟨by decide +kernel, by decide +kernel⟩, by decide +kernel, WL_2 (p := 151) rfl (by decide +kernel), WL_of (p := 31) (by decide +kernel) (by decide +kernel),
  fun _ => ⟨WL_of (p := 415) (by decide +kernel) (by decide +kernel), WL_of (p := 416) (by decide +kernel) (by decide +kernel), ⟨_, rfl, by decide +kernel⟩⟩,
  fun h => absurd h (by decide +kernel),
  fun h => absurd h (by decide +kernel),
  by decide +kernel, iX3_indexOf⟩
theorem iX3_numberOfPair : ∀ e ∈ tX3_numberOfPair, okI pg mX3_numberOfPair e = true := List.all_eq_true.mp (by decide +kernel)
set_option maxRecDepth 30000 in
theorem oX3_numberOfPair : OKM pg mX3_numberOfPair := ⟨by decide +kernel, ⟨by decide +kernel, by decide +kernel⟩, by decide +kernel, WL_2 (p := 207) rfl (by decide +kernel), WL_of (p := 31) (by decide +kernel) (by decide +kernel),
  fun _ => ⟨WL_of (p := 471) (by decide +kernel) (by decide +kernel), WL_of (p := 472) (by decide +kernel) (by decide +kernel), ⟨_, rfl, by decide +kernel⟩⟩,
  fun h => absurd h (by decide +kernel),
  fun h => absurd h (by decide +kernel),
  by decide +kernel, iX3_numberOfPair⟩
theorem iX4_init : ∀ e ∈ tX4_init, okI pg mX4_init e = true := List.all_eq_true.mp (by decide +kernel)
set_option maxRecDepth 30000 in
theorem oX4_init : OKM pg mX4_init := ⟨by decide +kernel, ⟨by decide +kernel, by decide +kernel⟩, by decide +kernel, WL_1 (p := 37) rfl (by decide +kernel), WL_of (p := 30) (by decide +kernel) (by decide +kernel),
  fun h => absurd h (by decide +kernel),
  fun h => absurd h (by decide +kernel),
  fun _ => ⟨WL_of (p := 62) (by decide +kernel) (by decide +kernel), by decide +kernel, by decide +kernel⟩,
  by decide +kernel, iX4_init⟩
theorem iX4_empty : ∀ e ∈ tX4_empty, okI pg mX4_empty e = true := List.all_eq_true.mp (by decide +kernel)
set_option maxRecDepth 30000 in
theorem oX4_empty : OKM pg mX4_empty := ⟨by decide +kernel, ⟨by decide +kernel, by decide +kernel⟩, by decide +kernel, WL_1 (p := 86) rfl (by decide +kernel), WL_of (p := 30) (by decide +kernel) (by decide +kernel),
  fun _ => ⟨WL_of (p := 110) (by decide +kernel) (by decide +kernel), WL_of (p := 111) (by decide +kernel) (by decide +kernel), ⟨_, rfl, by decide +kernel⟩⟩,
  fun h => absurd h (by decide +kernel),
  fun h => absurd h (by decide +kernel),
  by decide +kernel, iX4_empty⟩
theorem iX4_copyFrom : ∀ e ∈ tX4_copyFrom, okI pg mX4_copyFrom e = true := List.all_eq_true.mp (by decide +kernel)
set_option maxRecDepth 30000 in
theorem oX4_copyFrom : OKM pg mX4_copyFrom := ⟨by decide +kernel, ⟨by decide +kernel, by decide +kernel⟩, by decide +kernel, WL_2 (p := 58) rfl (by decide +kernel), WL_of (p := 30) (by decide +kernel) (by decide +kernel),
  fun _ => ⟨WL_of (p := 322) (by decide +kernel) (by decide +kernel), WL_of (p := 323) (by decide +kernel) (by decide +kernel), ⟨_, rfl, by decide +kernel⟩⟩,
  fun h => absurd h (by decide +kernel),
  fun h => absurd h (by decide +kernel),
  by decide +kernel, iX4_copyFrom⟩
theorem iX4_add_0 : ((tX4_add.drop 0).take 60).all (okI pg mX4_add) = true := by decide +kernel
theorem iX4_add_60 : (tX4_add.drop 60).all (okI pg mX4_add) = true := by decide +kernel
theorem iX4_add : ∀ e ∈ tX4_add, okI pg mX4_add e = true := List.all_eq_true.mp (show (tX4_add.drop 0).all (okI pg mX4_add) = true from (all_from iX4_add_0 iX4_add_60))
set_option maxRecDepth 30000 in
theorem oX4_add : OKM pg mX4_add := ⟨by decide +kernel, ⟨by decide +kernel, by decide +kernel⟩, by decide +kernel, WL_2 (p := 142) rfl (by decide +kernel), WL_of (p := 30) (by decide +kernel) (by decide +kernel),
  fun _ => ⟨WL_of (p := 406) (by decide +kernel) (by decide +kernel), WL_of (p := 407) (by decide +kernel) (by decide +kernel), ⟨_, rfl, by decide +kernel⟩⟩,
  fun h => absurd h (by decide +kernel),
  fun h => absurd h (by decide +kernel),
  by decide +kernel, iX4_add⟩
theorem iX4_numberOfRound : ∀ e ∈ tX4_numberOfRound, okI pg mX4_numberOfRound e = true := List.all_eq_true.mp (by decide +kernel)
set_option maxRecDepth 30000 in
theorem oX4_numberOfRound : OKM pg mX4_numberOfRound := ⟨by decide +kernel, ⟨by decide +kernel, by decide +kernel⟩, by decide +kernel, WL_2 (p := 194) rfl (by decide +kernel), WL_of (p := 30) (by decide +kernel) (by decide +kernel),
  fun _ => ⟨WL_of (p := 458) (by decide +kernel) (by decide +kernel), WL_of (p := 459) (by decide +kernel) (by decide +kernel), ⟨_, rfl, by decide +kernel⟩⟩,
  fun h => absurd h (by decide +kernel),
  fun h => absurd h (by decide +kernel),
  by decide +kernel, iX4_numberOfRound⟩
theorem iX4_columnOf : ∀ e ∈ tX4_columnOf, okI pg mX4_columnOf e = true := List.all_eq_true.mp (by decide +kernel)
set_option maxRecDepth 30000 in
theorem oX4_columnOf : OKM pg mX4_columnOf := ⟨by decide +kernel, ⟨by decide +kernel, by decide +kernel⟩, by decide +kernel, WL_2 (p := 197) rfl (by decide +kernel), WL_of (p := 30) (by decide +kernel) (by decide +kernel),
  fun h => absurd h (by decide +kernel),
  fun _ => WL_of (p := 462) (by decide +kernel) (by decide +kernel),
  fun h => absurd h (by decide +kernel),
  by decide +kernel, iX4_columnOf⟩
theorem iX5_init : ∀ e ∈ tX5_init, okI pg mX5_init e = true := List.all_eq_true.mp (by decide +kernel)
set_option maxRecDepth 30000 in
theorem oX5_init : OKM pg mX5_init := ⟨by decide +kernel, ⟨by decide +kernel, by decide +kernel⟩, by decide +kernel, WL_1 (p := 31) rfl (by decide +kernel), WL_of (p := 29) (by decide +kernel) (by decide +kernel),
  fun h => absurd h (by decide +kernel),
  fun h => absurd h (by decide +kernel),
  fun _ => ⟨WL_of (p := 56) (by decide +kernel) (by decide +kernel), by decide +kernel, by decide +kernel⟩,
  by decide +kernel, iX5_init⟩
theorem iX5_copyFrom_0 : ((tX5_copyFrom.drop 0).take 60).all (okI pg mX5_copyFrom) = true := by decide +kernel
theorem iX5_copyFrom_60 : (tX5_copyFrom.drop 60).all (okI pg mX5_copyFrom) = true := by decide +kernel
theorem iX5_copyFrom : ∀ e ∈ tX5_copyFrom, okI pg mX5_copyFrom e = true := List.all_eq_true.mp (show (tX5_copyFrom.drop 0).all (okI pg mX5_copyFrom) = true from (all_from iX5_copyFrom_0 iX5_copyFrom_60))
set_option maxRecDepth 30000 in
theorem oX5_copyFrom : OKM pg mX5_copyFrom := ⟨by decide +kernel, ⟨by decide +kernel, by decide +kernel⟩, by decide +kernel, WL_2 (p := 54) rfl (by decide +kernel), WL_of (p := 29) (by decide +kernel) (by decide +kernel),
  fun _ => ⟨WL_of (p := 318) (by decide +kernel) (by decide +kernel), WL_of (p := 319) (by decide +kernel) (by decide +kernel), ⟨_, rfl, by decide +kernel⟩⟩,
  fun h => absurd h (by decide +kernel),
  fun h => absurd h (by decide +kernel),
  by decide +kernel, iX5_copyFrom⟩
theorem iX5_startGame_0 : ((tX5_startGame.drop 0).take 60).all (okI pg mX5_startGame) = true := by decide +kernel
theorem iX5_startGame_60 : (tX5_startGame.drop 60).all (okI pg mX5_startGame) = true := by decide +kernel
theorem iX5_startGame : ∀ e ∈ tX5_startGame, okI pg mX5_startGame e = true := List.all_eq_true.mp (show (tX5_startGame.drop 0).all (okI pg mX5_startGame) = true from (all_from iX5_startGame_0 iX5_startGame_60))
set_option maxRecDepth 30000 in
theorem oX5_startGame : OKM pg mX5_startGame := ⟨by decide +kernel, ⟨by decide +kernel, by decide +kernel⟩, by decide +kernel, WL_1 (p := 81) rfl (by decide +kernel), WL_of (p := 29) (by decide +kernel) (by decide +kernel),
  fun _ => ⟨WL_of (p := 105) (by decide +kernel) (by decide +kernel), WL_of (p := 106) (by decide +kernel) (by decide +kernel), ⟨_, rfl, by decide +kernel⟩⟩,
  fun h => absurd h (by decide +kernel),
  fun h => absurd h (by decide +kernel),
  by decide +kernel, iX5_startGame⟩
theorem iX5_addLot : ∀ e ∈ tX5_addLot, okI pg mX5_addLot e = true := List.all_eq_true.mp (by decide +kernel)
set_option maxRecDepth 30000 in
theorem oX5_addLot : OKM pg mX5_addLot := ⟨by decide +kernel, ⟨by decide +kernel, by decide +kernel⟩, by decide +kernel, WL_2 (p := 85) rfl (by decide +kernel), WL_of (p := 29) (by decide +kernel) (by decide +kernel),
  fun _ => ⟨WL_of (p := 349) (by decide +kernel) (by decide +kernel), WL_of (p := 350) (by decide +kernel) (by decide +kernel), ⟨_, rfl, by decide +kernel⟩⟩,
  fun h => absurd h (by decide +kernel),
  fun h => absurd h (by decide +kernel),
  by decide +kernel, iX5_addLot⟩
theorem iX5_makeBid : ∀ e ∈ tX5_makeBid, okI pg mX5_makeBid e = true := List.all_eq_true.mp (by decide +kernel)
set_option maxRecDepth 30000 in
theorem oX5_makeBid : OKM pg mX5_makeBid := ⟨by decide +kernel, ⟨by decide +kernel, by decide +kernel⟩, by decide +kernel, WL_2 (p := 94) rfl (by decide +kernel), WL_of (p := 29) (by decide +kernel) (by decide +kernel),
  fun _ => ⟨WL_of (p := 358) (by decide +kernel) (by decide +kernel), WL_of (p := 359) (by decide +kernel) (by decide +kernel), ⟨_, rfl, by decide +kernel⟩⟩,
  fun h => absurd h (by decide +kernel),
  fun h => absurd h (by decide +kernel),
  by decide +kernel, iX5_makeBid⟩
theorem iX5_changeSetting : ∀ e ∈ tX5_changeSetting, okI pg mX5_changeSetting e = true := List.all_eq_true.mp (by decide +kernel)
set_option maxRecDepth 30000 in
theorem oX5_changeSetting : OKM pg mX5_changeSetting := ⟨by decide +kernel, ⟨by decide +kernel, by decide +kernel⟩, by decide +kernel, WL_2 (p := 167) rfl (by decide +kernel), WL_of (p := 29) (by decide +kernel) (by decide +kernel),
  fun _ => ⟨WL_of (p := 431) (by decide +kernel) (by decide +kernel), WL_of (p := 432) (by decide +kernel) (by decide +kernel), ⟨_, rfl, by decide +kernel⟩⟩,
  fun h => absurd h (by decide +kernel),
  fun h => absurd h (by decide +kernel),
  by decide +kernel, iX5_changeSetting⟩
theorem iX5_settle_0 : ((tX5_settle.drop 0).take 60).all (okI pg mX5_settle) = true := by decide +kernel
theorem iX5_settle_60 : ((tX5_settle.drop 60).take 60).all (okI pg mX5_settle) = true := by decide +kernel
theorem iX5_settle_120 : (tX5_settle.drop 120).all (okI pg mX5_settle) = true := by decide +kernel
theorem iX5_settle : ∀ e ∈ tX5_settle, okI pg mX5_settle e = true := List.all_eq_true.mp (show (tX5_settle.drop 0).all (okI pg mX5_settle) = true from (all_from iX5_settle_0 (all_from iX5_settle_60 iX5_settle_120)))
set_option maxRecDepth 30000 in
theorem oX5_settle : OKM pg mX5_settle := ⟨by decide +kernel, ⟨by decide +kernel, by decide +kernel⟩, by decide +kernel, WL_2 (p := 115) rfl (by decide +kernel), WL_of (p := 29) (by decide +kernel) (by decide +kernel),
  fun _ => ⟨WL_of (p := 379) (by decide +kernel) (by decide +kernel), WL_of (p := 380) (by decide +kernel) (by decide +kernel), ⟨_, rfl, by decide +kernel⟩⟩,
  fun h => absurd h (by decide +kernel),
  fun h => absurd h (by decide +kernel),
  by decide +kernel, iX5_settle⟩
theorem iX5_emptyTable : ∀ e ∈ tX5_emptyTable, okI pg mX5_emptyTable e = true := List.all_eq_true.mp (by decide +kernel)
set_option maxRecDepth 30000 in
theorem oX5_emptyTable : OKM pg mX5_emptyTable := ⟨by decide +kernel, ⟨by decide +kernel, by decide +kernel⟩, by decide +kernel, WL_2 (p := 159) rfl (by decide +kernel), WL_of (p := 29) (by decide +kernel) (by decide +kernel),
  fun _ => ⟨WL_of (p := 423) (by decide +kernel) (by decide +kernel), WL_of (p := 424) (by decide +kernel) (by decide +kernel), ⟨_, rfl, by decide +kernel⟩⟩,
  fun h => absurd h (by decide +kernel),
  fun h => absurd h (by decide +kernel),
  by decide +kernel, iX5_emptyTable⟩
theorem iX5_hasPlayer : ∀ e ∈ tX5_hasPlayer, okI pg mX5_hasPlayer e = true := List.all_eq_true.mp (by decide +kernel)
set_option maxRecDepth 30000 in
theorem oX5_hasPlayer : OKM pg mX5_hasPlayer := ⟨by decide +kernel, ⟨by decide +kernel, by decide +kernel⟩, by decide +kernel, WL_2 (p := 98) rfl (by decide +kernel), WL_of (p := 29) (by decide +kernel) (by decide +kernel),
  fun _ => ⟨WL_of (p := 362) (by decide +kernel) (by decide +kernel), WL_of (p := 363) (by decide +kernel) (by decide +kernel), ⟨_, rfl, by decide +kernel⟩⟩,
  fun h => absurd h (by decide +kernel),
  fun h => absurd h (by decide +kernel),
  by decide +kernel, iX5_hasPlayer⟩
theorem iX5_isOver : ∀ e ∈ tX5_isOver, okI pg mX5_isOver e = true := List.all_eq_true.mp (by decide +kernel)
set_option maxRecDepth 30000 in
theorem oX5_isOver : OKM pg mX5_isOver := ⟨by decide +kernel, ⟨by decide +kernel, by decide +kernel⟩, by decide +kernel, WL_2 (p := 102) rfl (by decide +kernel), WL_of (p := 29) (by decide +kernel) (by decide +kernel),
  fun _ => ⟨WL_of (p := 366) (by decide +kernel) (by decide +kernel), WL_of (p := 367) (by decide +kernel) (by decide +kernel), ⟨_, rfl, by decide +kernel⟩⟩,
  fun h => absurd h (by decide +kernel),
  fun h => absurd h (by decide +kernel),
  by decide +kernel, iX5_isOver⟩
theorem iX5_nextStake : ∀ e ∈ tX5_nextStake, okI pg mX5_nextStake e = true := List.all_eq_true.mp (by decide +kernel)
set_option maxRecDepth 30000 in
theorem oX5_nextStake : OKM pg mX5_nextStake := ⟨by decide +kernel, ⟨by decide +kernel, by decide +kernel⟩, by decide +kernel, WL_2 (p := 138) rfl (by decide +kernel), WL_of (p := 29) (by decide +kernel) (by decide +kernel),
  fun _ => ⟨WL_of (p := 402) (by decide +kernel) (by decide +kernel), WL_of (p := 403) (by decide +kernel) (by decide +kernel), ⟨_, rfl, by decide +kernel⟩⟩,
  fun h => absurd h (by decide +kernel),
  fun h => absurd h (by decide +kernel),
  by decide +kernel, iX5_nextStake⟩
theorem iX5_bidCount : ∀ e ∈ tX5_bidCount, okI pg mX5_bidCount e = true := List.all_eq_true.mp (by decide +kernel)
set_option maxRecDepth 30000 in
theorem oX5_bidCount : OKM pg mX5_bidCount := ⟨by decide +kernel, ⟨by decide +kernel, by decide +kernel⟩, by decide +kernel, WL_2 (p := 107) rfl (by decide +kernel), WL_of (p := 29) (by decide +kernel) (by decide +kernel),
  fun _ => ⟨WL_of (p := 371) (by decide +kernel) (by decide +kernel), WL_of (p := 372) (by decide +kernel) (by decide +kernel), ⟨_, rfl, by decide +kernel⟩⟩,
  fun h => absurd h (by decide +kernel),
  fun h => absurd h (by decide +kernel),
  by decide +kernel, iX5_bidCount⟩
theorem iX5_othersHaveBids : ∀ e ∈ tX5_othersHaveBids, okI pg mX5_othersHaveBids e = true := List.all_eq_true.mp (by decide +kernel)
set_option maxRecDepth 30000 in
theorem oX5_othersHaveBids : OKM pg mX5_othersHaveBids := ⟨by decide +kernel, ⟨by decide +kernel, by decide +kernel⟩, by decide +kernel, WL_3 (p := 8) rfl (by decide +kernel), WL_of (p := 29) (by decide +kernel) (by decide +kernel),
  fun _ => ⟨WL_of (p := 512) (by decide +kernel) (by decide +kernel), WL_of (p := 513) (by decide +kernel) (by decide +kernel), ⟨_, rfl, by decide +kernel⟩⟩,
  fun h => absurd h (by decide +kernel),
  fun h => absurd h (by decide +kernel),
  by decide +kernel, iX5_othersHaveBids⟩
theorem iX5_mostCoinsOfOthers : ∀ e ∈ tX5_mostCoinsOfOthers, okI pg mX5_mostCoinsOfOthers e = true := List.all_eq_true.mp (by decide +kernel)
set_option maxRecDepth 30000 in
theorem oX5_mostCoinsOfOthers : OKM pg mX5_mostCoinsOfOthers := ⟨by decide +kernel, ⟨by decide +kernel, by decide +kernel⟩, by decide +kernel, WL_2 (p := 236) rfl (by decide +kernel), WL_of (p := 29) (by decide +kernel) (by decide +kernel),
  fun _ => ⟨WL_of (p := 500) (by decide +kernel) (by decide +kernel), WL_of (p := 501) (by decide +kernel) (by decide +kernel), ⟨_, rfl, by decide +kernel⟩⟩,
  fun h => absurd h (by decide +kernel),
  fun h => absurd h (by decide +kernel),
  by decide +kernel, iX5_mostCoinsOfOthers⟩
theorem iX5_allCoins : ∀ e ∈ tX5_allCoins, okI pg mX5_allCoins e = true := List.all_eq_true.mp (by decide +kernel)
set_option maxRecDepth 30000 in
theorem oX5_allCoins : OKM pg mX5_allCoins := ⟨by decide +kernel, ⟨by decide +kernel, by decide +kernel⟩, by decide +kernel, WL_1 (p := 94) rfl (by decide +kernel), WL_of (p := 29) (by decide +kernel) (by decide +kernel),
  fun _ => ⟨WL_of (p := 118) (by decide +kernel) (by decide +kernel), WL_of (p := 119) (by decide +kernel) (by decide +kernel), ⟨_, rfl, by decide +kernel⟩⟩,
  fun h => absurd h (by decide +kernel),
  fun h => absurd h (by decide +kernel),
  by decide +kernel, iX5_allCoins⟩
theorem iX5_leader : ∀ e ∈ tX5_leader, okI pg mX5_leader e = true := List.all_eq_true.mp (by decide +kernel)
set_option maxRecDepth 30000 in
theorem oX5_leader : OKM pg mX5_leader := ⟨by decide +kernel, ⟨by decide +kernel, by decide +kernel⟩, by decide +kernel, WL_2 (p := 225) rfl (by decide +kernel), WL_of (p := 29) (by decide +kernel) (by decide +kernel),
  fun _ => ⟨WL_of (p := 489) (by decide +kernel) (by decide +kernel), WL_of (p := 490) (by decide +kernel) (by decide +kernel), ⟨_, rfl, by decide +kernel⟩⟩,
  fun h => absurd h (by decide +kernel),
  fun h => absurd h (by decide +kernel),
  by decide +kernel, iX5_leader⟩
theorem iX5_canLead : ∀ e ∈ tX5_canLead, okI pg mX5_canLead e = true := List.all_eq_true.mp (by decide +kernel)
set_option maxRecDepth 30000 in
theorem oX5_canLead : OKM pg mX5_canLead := ⟨by decide +kernel, ⟨by decide +kernel, by decide +kernel⟩, by decide +kernel, WL_3 (p := 55) rfl (by decide +kernel), WL_of (p := 29) (by decide +kernel) (by decide +kernel),
  fun _ => ⟨WL_of (p := 559) (by decide +kernel) (by decide +kernel), WL_of (p := 560) (by decide +kernel) (by decide +kernel), ⟨_, rfl, by decide +kernel⟩⟩,
  fun h => absurd h (by decide +kernel),
  fun h => absurd h (by decide +kernel),
  by decide +kernel, iX5_canLead⟩
theorem iX5_numberOfPlayer : ∀ e ∈ tX5_numberOfPlayer, okI pg mX5_numberOfPlayer e = true := List.all_eq_true.mp (by decide +kernel)
set_option maxRecDepth 30000 in
theorem oX5_numberOfPlayer : OKM pg mX5_numberOfPlayer := ⟨by decide +kernel, ⟨by decide +kernel, by decide +kernel⟩, by decide +kernel, WL_2 (p := 177) rfl (by decide +kernel), WL_of (p := 29) (by decide +kernel) (by decide +kernel),
  fun _ => ⟨WL_of (p := 441) (by decide +kernel) (by decide +kernel), WL_of (p := 442) (by decide +kernel) (by decide +kernel), ⟨_, rfl, by decide +kernel⟩⟩,
  fun h => absurd h (by decide +kernel),
  fun h => absurd h (by decide +kernel),
  by decide +kernel, iX5_numberOfPlayer⟩
theorem iX5_valueAt : ∀ e ∈ tX5_valueAt, okI pg mX5_valueAt e = true := List.all_eq_true.mp (by decide +kernel)
set_option maxRecDepth 30000 in
theorem oX5_valueAt : OKM pg mX5_valueAt := ⟨by decide +kernel, ⟨by decide +kernel, by decide +kernel⟩, by decide +kernel, WL_2 (p := 185) rfl (by decide +kernel), WL_of (p := 29) (by decide +kernel) (by decide +kernel),
  fun _ => ⟨WL_of (p := 449) (by decide +kernel) (by decide +kernel), WL_of (p := 450) (by decide +kernel) (by decide +kernel), ⟨_, rfl, by decide +kernel⟩⟩,
  fun h => absurd h (by decide +kernel),
  fun h => absurd h (by decide +kernel),
  by decide +kernel, iX5_valueAt⟩
theorem iX5_number : ∀ e ∈ tX5_number, okI pg mX5_number e = true := List.all_eq_true.mp (by decide +kernel)
set_option maxRecDepth 30000 in
theorem oX5_number : OKM pg mX5_number := ⟨by decide +kernel, ⟨by decide +kernel, by decide +kernel⟩, by decide +kernel, WL_2 (p := 217) rfl (by decide +kernel), WL_of (p := 29) (by decide +kernel) (by decide +kernel),
  fun _ => ⟨WL_of (p := 481) (by decide +kernel) (by decide +kernel), WL_of (p := 482) (by decide +kernel) (by decide +kernel), ⟨_, rfl, by decide +kernel⟩⟩,
  fun h => absurd h (by decide +kernel),
  fun h => absurd h (by decide +kernel),
  by decide +kernel, iX5_number⟩
theorem iX6_init : ∀ e ∈ tX6_init, okI pg mX6_init e = true := List.all_eq_true.mp (by decide +kernel)
set_option maxRecDepth 30000 in
theorem oX6_init : OKM pg mX6_init := ⟨by decide +kernel, ⟨by decide +kernel, by decide +kernel⟩, by decide +kernel, WL_1 (p := 176) rfl (by decide +kernel), WL_of (p := 33) (by decide +kernel) (by decide +kernel),
  fun h => absurd h (by decide +kernel),
  fun h => absurd h (by decide +kernel),
  fun _ => ⟨WL_of (p := 201) (by decide +kernel) (by decide +kernel), by decide +kernel, by decide +kernel⟩,
  by decide +kernel, iX6_init⟩
theorem iX6_append : ∀ e ∈ tX6_append, okI pg mX6_append e = true := List.all_eq_true.mp (by decide +kernel)
set_option maxRecDepth 30000 in
theorem oX6_append : OKM pg mX6_append := ⟨by decide +kernel, ⟨by decide +kernel, by decide +kernel⟩, by decide +kernel, WL_3 (p := 79) rfl (by decide +kernel), WL_of (p := 33) (by decide +kernel) (by decide +kernel),
  fun _ => ⟨WL_of (p := 583) (by decide +kernel) (by decide +kernel), WL_of (p := 584) (by decide +kernel) (by decide +kernel), ⟨_, rfl, by decide +kernel⟩⟩,
  fun h => absurd h (by decide +kernel),
  fun h => absurd h (by decide +kernel),
  by decide +kernel, iX6_append⟩
theorem iX6_numberOfFault : ∀ e ∈ tX6_numberOfFault, okI pg mX6_numberOfFault e = true := List.all_eq_true.mp (by decide +kernel)
set_option maxRecDepth 30000 in
theorem oX6_numberOfFault : OKM pg mX6_numberOfFault := ⟨by decide +kernel, ⟨by decide +kernel, by decide +kernel⟩, by decide +kernel, WL_3 (p := 132) rfl (by decide +kernel), WL_of (p := 33) (by decide +kernel) (by decide +kernel),
  fun _ => ⟨WL_of (p := 636) (by decide +kernel) (by decide +kernel), WL_of (p := 637) (by decide +kernel) (by decide +kernel), ⟨_, rfl, by decide +kernel⟩⟩,
  fun h => absurd h (by decide +kernel),
  fun h => absurd h (by decide +kernel),
  by decide +kernel, iX6_numberOfFault⟩
theorem iX6_perform_0 : ((tX6_perform.drop 0).take 60).all (okI pg mX6_perform) = true := by decide +kernel
theorem iX6_perform_60 : (tX6_perform.drop 60).all (okI pg mX6_perform) = true := by decide +kernel
theorem iX6_perform : ∀ e ∈ tX6_perform, okI pg mX6_perform e = true := List.all_eq_true.mp (show (tX6_perform.drop 0).all (okI pg mX6_perform) = true from (all_from iX6_perform_0 iX6_perform_60))
set_option maxRecDepth 30000 in
theorem oX6_perform : OKM pg mX6_perform := ⟨by decide +kernel, ⟨by decide +kernel, by decide +kernel⟩, by decide +kernel, WL_3 (p := 92) rfl (by decide +kernel), WL_of (p := 33) (by decide +kernel) (by decide +kernel),
  fun _ => ⟨WL_of (p := 596) (by decide +kernel) (by decide +kernel), WL_of (p := 597) (by decide +kernel) (by decide +kernel), ⟨_, rfl, by decide +kernel⟩⟩,
  fun h => absurd h (by decide +kernel),
  fun h => absurd h (by decide +kernel),
  by decide +kernel, iX6_perform⟩
theorem iX6_call : ∀ e ∈ tX6_call, okI pg mX6_call e = true := List.all_eq_true.mp (by decide +kernel)
set_option maxRecDepth 30000 in
theorem oX6_call : OKM pg mX6_call := ⟨by decide +kernel, ⟨by decide +kernel, by decide +kernel⟩, by decide +kernel, WL_3 (p := 124) rfl (by decide +kernel), WL_of (p := 33) (by decide +kernel) (by decide +kernel),
  fun _ => ⟨WL_of (p := 628) (by decide +kernel) (by decide +kernel), WL_of (p := 629) (by decide +kernel) (by decide +kernel), ⟨_, rfl, by decide +kernel⟩⟩,
  fun h => absurd h (by decide +kernel),
  fun h => absurd h (by decide +kernel),
  by decide +kernel, iX6_call⟩
theorem iX6_readCommand : ∀ e ∈ tX6_readCommand, okI pg mX6_readCommand e = true := List.all_eq_true.mp (by decide +kernel)
set_option maxRecDepth 30000 in
theorem oX6_readCommand : OKM pg mX6_readCommand := ⟨by decide +kernel, ⟨by decide +kernel, by decide +kernel⟩, by decide +kernel, WL_3 (p := 96) rfl (by decide +kernel), WL_of (p := 33) (by decide +kernel) (by decide +kernel),
  fun _ => ⟨WL_of (p := 600) (by decide +kernel) (by decide +kernel), WL_of (p := 601) (by decide +kernel) (by decide +kernel), ⟨_, rfl, by decide +kernel⟩⟩,
  fun h => absurd h (by decide +kernel),
  fun h => absurd h (by decide +kernel),
  by decide +kernel, iX6_readCommand⟩
theorem iX6_readValue : ∀ e ∈ tX6_readValue, okI pg mX6_readValue e = true := List.all_eq_true.mp (by decide +kernel)
set_option maxRecDepth 30000 in
theorem oX6_readValue : OKM pg mX6_readValue := ⟨by decide +kernel, ⟨by decide +kernel, by decide +kernel⟩, by decide +kernel, WL_3 (p := 104) rfl (by decide +kernel), WL_of (p := 33) (by decide +kernel) (by decide +kernel),
  fun _ => ⟨WL_of (p := 608) (by decide +kernel) (by decide +kernel), WL_of (p := 609) (by decide +kernel) (by decide +kernel), ⟨_, rfl, by decide +kernel⟩⟩,
  fun h => absurd h (by decide +kernel),
  fun h => absurd h (by decide +kernel),
  by decide +kernel, iX6_readValue⟩
theorem iX6_readBid : ∀ e ∈ tX6_readBid, okI pg mX6_readBid e = true := List.all_eq_true.mp (by decide +kernel)
set_option maxRecDepth 30000 in
theorem oX6_readBid : OKM pg mX6_readBid := ⟨by decide +kernel, ⟨by decide +kernel, by decide +kernel⟩, by decide +kernel, WL_3 (p := 120) rfl (by decide +kernel), WL_of (p := 33) (by decide +kernel) (by decide +kernel),
  fun _ => ⟨WL_of (p := 624) (by decide +kernel) (by decide +kernel), WL_of (p := 625) (by decide +kernel) (by decide +kernel), ⟨_, rfl, by decide +kernel⟩⟩,
  fun h => absurd h (by decide +kernel),
  fun h => absurd h (by decide +kernel),
  by decide +kernel, iX6_readBid⟩
theorem iX6_readNumber : ∀ e ∈ tX6_readNumber, okI pg mX6_readNumber e = true := List.all_eq_true.mp (by decide +kernel)
set_option maxRecDepth 30000 in
theorem oX6_readNumber : OKM pg mX6_readNumber := ⟨by decide +kernel, ⟨by decide +kernel, by decide +kernel⟩, by decide +kernel, WL_3 (p := 112) rfl (by decide +kernel), WL_of (p := 33) (by decide +kernel) (by decide +kernel),
  fun _ => ⟨WL_of (p := 616) (by decide +kernel) (by decide +kernel), WL_of (p := 617) (by decide +kernel) (by decide +kernel), ⟨_, rfl, by decide +kernel⟩⟩,
  fun h => absurd h (by decide +kernel),
  fun h => absurd h (by decide +kernel),
  by decide +kernel, iX6_readNumber⟩
theorem iX6_passes : ∀ e ∈ tX6_passes, okI pg mX6_passes e = true := List.all_eq_true.mp (by decide +kernel)
set_option maxRecDepth 30000 in
theorem oX6_passes : OKM pg mX6_passes := ⟨by decide +kernel, ⟨by decide +kernel, by decide +kernel⟩, by decide +kernel, WL_3 (p := 108) rfl (by decide +kernel), WL_of (p := 33) (by decide +kernel) (by decide +kernel),
  fun _ => ⟨WL_of (p := 612) (by decide +kernel) (by decide +kernel), WL_of (p := 613) (by decide +kernel) (by decide +kernel), ⟨_, rfl, by decide +kernel⟩⟩,
  fun h => absurd h (by decide +kernel),
  fun h => absurd h (by decide +kernel),
  by decide +kernel, iX6_passes⟩
theorem iX6_digitAt : ∀ e ∈ tX6_digitAt, okI pg mX6_digitAt e = true := List.all_eq_true.mp (by decide +kernel)
set_option maxRecDepth 30000 in
theorem oX6_digitAt : OKM pg mX6_digitAt := ⟨by decide +kernel, ⟨by decide +kernel, by decide +kernel⟩, by decide +kernel, WL_3 (p := 116) rfl (by decide +kernel), WL_of (p := 33) (by decide +kernel) (by decide +kernel),
  fun _ => ⟨WL_of (p := 620) (by decide +kernel) (by decide +kernel), WL_of (p := 621) (by decide +kernel) (by decide +kernel), ⟨_, rfl, by decide +kernel⟩⟩,
  fun h => absurd h (by decide +kernel),
  fun h => absurd h (by decide +kernel),
  by decide +kernel, iX6_digitAt⟩
theorem iX6_characterAt : ∀ e ∈ tX6_characterAt, okI pg mX6_characterAt e = true := List.all_eq_true.mp (by decide +kernel)
set_option maxRecDepth 30000 in
theorem oX6_characterAt : OKM pg mX6_characterAt := ⟨by decide +kernel, ⟨by decide +kernel, by decide +kernel⟩, by decide +kernel, WL_3 (p := 100) rfl (by decide +kernel), WL_of (p := 33) (by decide +kernel) (by decide +kernel),
  fun _ => ⟨WL_of (p := 604) (by decide +kernel) (by decide +kernel), WL_of (p := 605) (by decide +kernel) (by decide +kernel), ⟨_, rfl, by decide +kernel⟩⟩,
  fun h => absurd h (by decide +kernel),
  fun h => absurd h (by decide +kernel),
  by decide +kernel, iX6_characterAt⟩
theorem iX7_init : ∀ e ∈ tX7_init, okI pg mX7_init e = true := List.all_eq_true.mp (by decide +kernel)
set_option maxRecDepth 30000 in
theorem oX7_init : OKM pg mX7_init := ⟨by decide +kernel, ⟨by decide +kernel, by decide +kernel⟩, by decide +kernel, WL_1 (p := 16) rfl (by decide +kernel), WL_of (p := 27) (by decide +kernel) (by decide +kernel),
  fun h => absurd h (by decide +kernel),
  fun h => absurd h (by decide +kernel),
  fun _ => ⟨WL_of (p := 41) (by decide +kernel) (by decide +kernel), by decide +kernel, by decide +kernel⟩,
  by decide +kernel, iX7_init⟩
theorem iX7_begin : ∀ e ∈ tX7_begin, okI pg mX7_begin e = true := List.all_eq_true.mp (by decide +kernel)
set_option maxRecDepth 30000 in
theorem oX7_begin : OKM pg mX7_begin := ⟨by decide +kernel, ⟨by decide +kernel, by decide +kernel⟩, by decide +kernel, WL_2 (p := 46) rfl (by decide +kernel), WL_of (p := 27) (by decide +kernel) (by decide +kernel),
  fun _ => ⟨WL_of (p := 310) (by decide +kernel) (by decide +kernel), WL_of (p := 311) (by decide +kernel) (by decide +kernel), ⟨_, rfl, by decide +kernel⟩⟩,
  fun h => absurd h (by decide +kernel),
  fun h => absurd h (by decide +kernel),
  by decide +kernel, iX7_begin⟩
theorem iX7_lot : ∀ e ∈ tX7_lot, okI pg mX7_lot e = true := List.all_eq_true.mp (by decide +kernel)
set_option maxRecDepth 30000 in
theorem oX7_lot : OKM pg mX7_lot := ⟨by decide +kernel, ⟨by decide +kernel, by decide +kernel⟩, by decide +kernel, WL_2 (p := 81) rfl (by decide +kernel), WL_of (p := 27) (by decide +kernel) (by decide +kernel),
  fun _ => ⟨WL_of (p := 345) (by decide +kernel) (by decide +kernel), WL_of (p := 346) (by decide +kernel) (by decide +kernel), ⟨_, rfl, by decide +kernel⟩⟩,
  fun h => absurd h (by decide +kernel),
  fun h => absurd h (by decide +kernel),
  by decide +kernel, iX7_lot⟩
theorem iX7_bid : ∀ e ∈ tX7_bid, okI pg mX7_bid e = true := List.all_eq_true.mp (by decide +kernel)
set_option maxRecDepth 30000 in
theorem oX7_bid : OKM pg mX7_bid := ⟨by decide +kernel, ⟨by decide +kernel, by decide +kernel⟩, by decide +kernel, WL_2 (p := 90) rfl (by decide +kernel), WL_of (p := 27) (by decide +kernel) (by decide +kernel),
  fun _ => ⟨WL_of (p := 354) (by decide +kernel) (by decide +kernel), WL_of (p := 355) (by decide +kernel) (by decide +kernel), ⟨_, rfl, by decide +kernel⟩⟩,
  fun h => absurd h (by decide +kernel),
  fun h => absurd h (by decide +kernel),
  by decide +kernel, iX7_bid⟩
theorem iX7_resolve : ∀ e ∈ tX7_resolve, okI pg mX7_resolve e = true := List.all_eq_true.mp (by decide +kernel)
set_option maxRecDepth 30000 in
theorem oX7_resolve : OKM pg mX7_resolve := ⟨by decide +kernel, ⟨by decide +kernel, by decide +kernel⟩, by decide +kernel, WL_2 (p := 111) rfl (by decide +kernel), WL_of (p := 27) (by decide +kernel) (by decide +kernel),
  fun _ => ⟨WL_of (p := 375) (by decide +kernel) (by decide +kernel), WL_of (p := 376) (by decide +kernel) (by decide +kernel), ⟨_, rfl, by decide +kernel⟩⟩,
  fun h => absurd h (by decide +kernel),
  fun h => absurd h (by decide +kernel),
  by decide +kernel, iX7_resolve⟩
theorem iX7_set : ∀ e ∈ tX7_set, okI pg mX7_set e = true := List.all_eq_true.mp (by decide +kernel)
set_option maxRecDepth 30000 in
theorem oX7_set : OKM pg mX7_set := ⟨by decide +kernel, ⟨by decide +kernel, by decide +kernel⟩, by decide +kernel, WL_2 (p := 163) rfl (by decide +kernel), WL_of (p := 27) (by decide +kernel) (by decide +kernel),
  fun _ => ⟨WL_of (p := 427) (by decide +kernel) (by decide +kernel), WL_of (p := 428) (by decide +kernel) (by decide +kernel), ⟨_, rfl, by decide +kernel⟩⟩,
  fun h => absurd h (by decide +kernel),
  fun h => absurd h (by decide +kernel),
  by decide +kernel, iX7_set⟩
theorem iX7_playerOf : ∀ e ∈ tX7_playerOf, okI pg mX7_playerOf e = true := List.all_eq_true.mp (by decide +kernel)
set_option maxRecDepth 30000 in
theorem oX7_playerOf : OKM pg mX7_playerOf := ⟨by decide +kernel, ⟨by decide +kernel, by decide +kernel⟩, by decide +kernel, WL_2 (p := 173) rfl (by decide +kernel), WL_of (p := 27) (by decide +kernel) (by decide +kernel),
  fun _ => ⟨WL_of (p := 437) (by decide +kernel) (by decide +kernel), WL_of (p := 438) (by decide +kernel) (by decide +kernel), ⟨_, rfl, by decide +kernel⟩⟩,
  fun h => absurd h (by decide +kernel),
  fun h => absurd h (by decide +kernel),
  by decide +kernel, iX7_playerOf⟩
theorem iX7_lotOf : ∀ e ∈ tX7_lotOf, okI pg mX7_lotOf e = true := List.all_eq_true.mp (by decide +kernel)
set_option maxRecDepth 30000 in
theorem oX7_lotOf : OKM pg mX7_lotOf := ⟨by decide +kernel, ⟨by decide +kernel, by decide +kernel⟩, by decide +kernel, WL_2 (p := 181) rfl (by decide +kernel), WL_of (p := 27) (by decide +kernel) (by decide +kernel),
  fun _ => ⟨WL_of (p := 445) (by decide +kernel) (by decide +kernel), WL_of (p := 446) (by decide +kernel) (by decide +kernel), ⟨_, rfl, by decide +kernel⟩⟩,
  fun h => absurd h (by decide +kernel),
  fun h => absurd h (by decide +kernel),
  by decide +kernel, iX7_lotOf⟩
theorem iX7_roundOf : ∀ e ∈ tX7_roundOf, okI pg mX7_roundOf e = true := List.all_eq_true.mp (by decide +kernel)
set_option maxRecDepth 30000 in
theorem oX7_roundOf : OKM pg mX7_roundOf := ⟨by decide +kernel, ⟨by decide +kernel, by decide +kernel⟩, by decide +kernel, WL_2 (p := 190) rfl (by decide +kernel), WL_of (p := 27) (by decide +kernel) (by decide +kernel),
  fun _ => ⟨WL_of (p := 454) (by decide +kernel) (by decide +kernel), WL_of (p := 455) (by decide +kernel) (by decide +kernel), ⟨_, rfl, by decide +kernel⟩⟩,
  fun h => absurd h (by decide +kernel),
  fun h => absurd h (by decide +kernel),
  by decide +kernel, iX7_roundOf⟩
theorem iX7_record : ∀ e ∈ tX7_record, okI pg mX7_record e = true := List.all_eq_true.mp (by decide +kernel)
set_option maxRecDepth 30000 in
theorem oX7_record : OKM pg mX7_record := ⟨by decide +kernel, ⟨by decide +kernel, by decide +kernel⟩, by decide +kernel, WL_2 (p := 203) rfl (by decide +kernel), WL_of (p := 27) (by decide +kernel) (by decide +kernel),
  fun _ => ⟨WL_of (p := 467) (by decide +kernel) (by decide +kernel), WL_of (p := 468) (by decide +kernel) (by decide +kernel), ⟨_, rfl, by decide +kernel⟩⟩,
  fun h => absurd h (by decide +kernel),
  fun h => absurd h (by decide +kernel),
  by decide +kernel, iX7_record⟩
theorem iX7_count : ∀ e ∈ tX7_count, okI pg mX7_count e = true := List.all_eq_true.mp (by decide +kernel)
set_option maxRecDepth 30000 in
theorem oX7_count : OKM pg mX7_count := ⟨by decide +kernel, ⟨by decide +kernel, by decide +kernel⟩, by decide +kernel, WL_2 (p := 213) rfl (by decide +kernel), WL_of (p := 27) (by decide +kernel) (by decide +kernel),
  fun _ => ⟨WL_of (p := 477) (by decide +kernel) (by decide +kernel), WL_of (p := 478) (by decide +kernel) (by decide +kernel), ⟨_, rfl, by decide +kernel⟩⟩,
  fun h => absurd h (by decide +kernel),
  fun h => absurd h (by decide +kernel),
  by decide +kernel, iX7_count⟩
theorem iX7_winner : ∀ e ∈ tX7_winner, okI pg mX7_winner e = true := List.all_eq_true.mp (by decide +kernel)
set_option maxRecDepth 30000 in
theorem oX7_winner : OKM pg mX7_winner := ⟨by decide +kernel, ⟨by decide +kernel, by decide +kernel⟩, by decide +kernel, WL_2 (p := 221) rfl (by decide +kernel), WL_of (p := 27) (by decide +kernel) (by decide +kernel),
  fun _ => ⟨WL_of (p := 485) (by decide +kernel) (by decide +kernel), WL_of (p := 486) (by decide +kernel) (by decide +kernel), ⟨_, rfl, by decide +kernel⟩⟩,
  fun h => absurd h (by decide +kernel),
  fun h => absurd h (by decide +kernel),
  by decide +kernel, iX7_winner⟩
theorem iX7_sure : ∀ e ∈ tX7_sure, okI pg mX7_sure e = true := List.all_eq_true.mp (by decide +kernel)
set_option maxRecDepth 30000 in
theorem oX7_sure : OKM pg mX7_sure := ⟨by decide +kernel, ⟨by decide +kernel, by decide +kernel⟩, by decide +kernel, WL_2 (p := 229) rfl (by decide +kernel), WL_of (p := 27) (by decide +kernel) (by decide +kernel),
  fun _ => ⟨WL_of (p := 493) (by decide +kernel) (by decide +kernel), WL_of (p := 494) (by decide +kernel) (by decide +kernel), ⟨_, rfl, by decide +kernel⟩⟩,
  fun h => absurd h (by decide +kernel),
  fun h => absurd h (by decide +kernel),
  by decide +kernel, iX7_sure⟩
theorem iX7_reply : ∀ e ∈ tX7_reply, okI pg mX7_reply e = true := List.all_eq_true.mp (by decide +kernel)
set_option maxRecDepth 30000 in
theorem oX7_reply : OKM pg mX7_reply := ⟨by decide +kernel, ⟨by decide +kernel, by decide +kernel⟩, by decide +kernel, WL_3 (p := 4) rfl (by decide +kernel), WL_of (p := 27) (by decide +kernel) (by decide +kernel),
  fun _ => ⟨WL_of (p := 508) (by decide +kernel) (by decide +kernel), WL_of (p := 509) (by decide +kernel) (by decide +kernel), ⟨_, rfl, by decide +kernel⟩⟩,
  fun h => absurd h (by decide +kernel),
  fun h => absurd h (by decide +kernel),
  by decide +kernel, iX7_reply⟩
theorem iX7_holds : ∀ e ∈ tX7_holds, okI pg mX7_holds e = true := List.all_eq_true.mp (by decide +kernel)
set_option maxRecDepth 30000 in
theorem oX7_holds : OKM pg mX7_holds := ⟨by decide +kernel, ⟨by decide +kernel, by decide +kernel⟩, by decide +kernel, WL_3 (p := 21) rfl (by decide +kernel), WL_of (p := 27) (by decide +kernel) (by decide +kernel),
  fun _ => ⟨WL_of (p := 525) (by decide +kernel) (by decide +kernel), WL_of (p := 526) (by decide +kernel) (by decide +kernel), ⟨_, rfl, by decide +kernel⟩⟩,
  fun h => absurd h (by decide +kernel),
  fun h => absurd h (by decide +kernel),
  by decide +kernel, iX7_holds⟩
theorem iX7_holding : ∀ e ∈ tX7_holding, okI pg mX7_holding e = true := List.all_eq_true.mp (by decide +kernel)
set_option maxRecDepth 30000 in
theorem oX7_holding : OKM pg mX7_holding := ⟨by decide +kernel, ⟨by decide +kernel, by decide +kernel⟩, by decide +kernel, WL_3 (p := 46) rfl (by decide +kernel), WL_of (p := 27) (by decide +kernel) (by decide +kernel),
  fun _ => ⟨WL_of (p := 550) (by decide +kernel) (by decide +kernel), WL_of (p := 551) (by decide +kernel) (by decide +kernel), ⟨_, rfl, by decide +kernel⟩⟩,
  fun h => absurd h (by decide +kernel),
  fun h => absurd h (by decide +kernel),
  by decide +kernel, iX7_holding⟩
theorem iX7_chance : ∀ e ∈ tX7_chance, okI pg mX7_chance e = true := List.all_eq_true.mp (by decide +kernel)
set_option maxRecDepth 30000 in
theorem oX7_chance : OKM pg mX7_chance := ⟨by decide +kernel, ⟨by decide +kernel, by decide +kernel⟩, by decide +kernel, WL_3 (p := 51) rfl (by decide +kernel), WL_of (p := 27) (by decide +kernel) (by decide +kernel),
  fun _ => ⟨WL_of (p := 555) (by decide +kernel) (by decide +kernel), WL_of (p := 556) (by decide +kernel) (by decide +kernel), ⟨_, rfl, by decide +kernel⟩⟩,
  fun h => absurd h (by decide +kernel),
  fun h => absurd h (by decide +kernel),
  by decide +kernel, iX7_chance⟩
theorem iX7_keep : ∀ e ∈ tX7_keep, okI pg mX7_keep e = true := List.all_eq_true.mp (by decide +kernel)
set_option maxRecDepth 30000 in
theorem oX7_keep : OKM pg mX7_keep := ⟨by decide +kernel, ⟨by decide +kernel, by decide +kernel⟩, by decide +kernel, WL_3 (p := 59) rfl (by decide +kernel), WL_of (p := 27) (by decide +kernel) (by decide +kernel),
  fun _ => ⟨WL_of (p := 563) (by decide +kernel) (by decide +kernel), WL_of (p := 564) (by decide +kernel) (by decide +kernel), ⟨_, rfl, by decide +kernel⟩⟩,
  fun h => absurd h (by decide +kernel),
  fun h => absurd h (by decide +kernel),
  by decide +kernel, iX7_keep⟩
theorem iX7_restore : ∀ e ∈ tX7_restore, okI pg mX7_restore e = true := List.all_eq_true.mp (by decide +kernel)
set_option maxRecDepth 30000 in
theorem oX7_restore : OKM pg mX7_restore := ⟨by decide +kernel, ⟨by decide +kernel, by decide +kernel⟩, by decide +kernel, WL_3 (p := 63) rfl (by decide +kernel), WL_of (p := 27) (by decide +kernel) (by decide +kernel),
  fun _ => ⟨WL_of (p := 567) (by decide +kernel) (by decide +kernel), WL_of (p := 568) (by decide +kernel) (by decide +kernel), ⟨_, rfl, by decide +kernel⟩⟩,
  fun h => absurd h (by decide +kernel),
  fun h => absurd h (by decide +kernel),
  by decide +kernel, iX7_restore⟩
theorem iX7_undo : ∀ e ∈ tX7_undo, okI pg mX7_undo e = true := List.all_eq_true.mp (by decide +kernel)
set_option maxRecDepth 30000 in
theorem oX7_undo : OKM pg mX7_undo := ⟨by decide +kernel, ⟨by decide +kernel, by decide +kernel⟩, by decide +kernel, WL_3 (p := 67) rfl (by decide +kernel), WL_of (p := 27) (by decide +kernel) (by decide +kernel),
  fun _ => ⟨WL_of (p := 571) (by decide +kernel) (by decide +kernel), WL_of (p := 572) (by decide +kernel) (by decide +kernel), ⟨_, rfl, by decide +kernel⟩⟩,
  fun h => absurd h (by decide +kernel),
  fun h => absurd h (by decide +kernel),
  by decide +kernel, iX7_undo⟩
theorem iX7_type : ∀ e ∈ tX7_type, okI pg mX7_type e = true := List.all_eq_true.mp (by decide +kernel)
set_option maxRecDepth 30000 in
theorem oX7_type : OKM pg mX7_type := ⟨by decide +kernel, ⟨by decide +kernel, by decide +kernel⟩, by decide +kernel, WL_3 (p := 75) rfl (by decide +kernel), WL_of (p := 27) (by decide +kernel) (by decide +kernel),
  fun _ => ⟨WL_of (p := 579) (by decide +kernel) (by decide +kernel), WL_of (p := 580) (by decide +kernel) (by decide +kernel), ⟨_, rfl, by decide +kernel⟩⟩,
  fun h => absurd h (by decide +kernel),
  fun h => absurd h (by decide +kernel),
  by decide +kernel, iX7_type⟩
theorem iX7_clearText : ∀ e ∈ tX7_clearText, okI pg mX7_clearText e = true := List.all_eq_true.mp (by decide +kernel)
set_option maxRecDepth 30000 in
theorem oX7_clearText : OKM pg mX7_clearText := ⟨by decide +kernel, ⟨by decide +kernel, by decide +kernel⟩, by decide +kernel, WL_3 (p := 84) rfl (by decide +kernel), WL_of (p := 27) (by decide +kernel) (by decide +kernel),
  fun _ => ⟨WL_of (p := 588) (by decide +kernel) (by decide +kernel), WL_of (p := 589) (by decide +kernel) (by decide +kernel), ⟨_, rfl, by decide +kernel⟩⟩,
  fun h => absurd h (by decide +kernel),
  fun h => absurd h (by decide +kernel),
  by decide +kernel, iX7_clearText⟩
theorem iX7_fault : ∀ e ∈ tX7_fault, okI pg mX7_fault e = true := List.all_eq_true.mp (by decide +kernel)
set_option maxRecDepth 30000 in
theorem oX7_fault : OKM pg mX7_fault := ⟨by decide +kernel, ⟨by decide +kernel, by decide +kernel⟩, by decide +kernel, WL_3 (p := 88) rfl (by decide +kernel), WL_of (p := 27) (by decide +kernel) (by decide +kernel),
  fun _ => ⟨WL_of (p := 592) (by decide +kernel) (by decide +kernel), WL_of (p := 593) (by decide +kernel) (by decide +kernel), ⟨_, rfl, by decide +kernel⟩⟩,
  fun h => absurd h (by decide +kernel),
  fun h => absurd h (by decide +kernel),
  by decide +kernel, iX7_fault⟩
theorem iX7_play : ∀ e ∈ tX7_play, okI pg mX7_play e = true := List.all_eq_true.mp (by decide +kernel)
set_option maxRecDepth 30000 in
theorem oX7_play : OKM pg mX7_play := ⟨by decide +kernel, ⟨by decide +kernel, by decide +kernel⟩, by decide +kernel, WL_3 (p := 137) rfl (by decide +kernel), WL_of (p := 27) (by decide +kernel) (by decide +kernel),
  fun _ => ⟨WL_of (p := 641) (by decide +kernel) (by decide +kernel), WL_of (p := 642) (by decide +kernel) (by decide +kernel), ⟨_, rfl, by decide +kernel⟩⟩,
  fun h => absurd h (by decide +kernel),
  fun h => absurd h (by decide +kernel),
  by decide +kernel, iX7_play⟩
theorem iX7_freshDraft : ∀ e ∈ tX7_freshDraft, okI pg mX7_freshDraft e = true := List.all_eq_true.mp (by decide +kernel)
set_option maxRecDepth 30000 in
theorem oX7_freshDraft : OKM pg mX7_freshDraft := ⟨by decide +kernel, ⟨by decide +kernel, by decide +kernel⟩, by decide +kernel, WL_2 (p := 50) rfl (by decide +kernel), WL_of (p := 27) (by decide +kernel) (by decide +kernel),
  fun _ => ⟨WL_of (p := 315) (by decide +kernel) (by decide +kernel), WL_of (p := 0) (by decide +kernel) (by decide +kernel), ⟨_, rfl, by decide +kernel⟩⟩,
  fun h => absurd h (by decide +kernel),
  fun h => absurd h (by decide +kernel),
  by decide +kernel, iX7_freshDraft⟩
theorem iX7_adopt : ∀ e ∈ tX7_adopt, okI pg mX7_adopt e = true := List.all_eq_true.mp (by decide +kernel)
set_option maxRecDepth 30000 in
theorem oX7_adopt : OKM pg mX7_adopt := ⟨by decide +kernel, ⟨by decide +kernel, by decide +kernel⟩, by decide +kernel, WL_2 (p := 69) rfl (by decide +kernel), WL_of (p := 27) (by decide +kernel) (by decide +kernel),
  fun _ => ⟨WL_of (p := 334) (by decide +kernel) (by decide +kernel), WL_of (p := 1) (by decide +kernel) (by decide +kernel), ⟨_, rfl, by decide +kernel⟩⟩,
  fun h => absurd h (by decide +kernel),
  fun h => absurd h (by decide +kernel),
  by decide +kernel, iX7_adopt⟩
theorem iX7_isError : ∀ e ∈ tX7_isError, okI pg mX7_isError e = true := List.all_eq_true.mp (by decide +kernel)
set_option maxRecDepth 30000 in
theorem oX7_isError : OKM pg mX7_isError := ⟨by decide +kernel, ⟨by decide +kernel, by decide +kernel⟩, by decide +kernel, WL_2 (p := 72) rfl (by decide +kernel), WL_of (p := 27) (by decide +kernel) (by decide +kernel),
  fun h => absurd h (by decide +kernel),
  fun _ => WL_of (p := 337) (by decide +kernel) (by decide +kernel),
  fun h => absurd h (by decide +kernel),
  by decide +kernel, iX7_isError⟩
theorem iX8_init : ∀ e ∈ tX8_init, okI pg mX8_init e = true := List.all_eq_true.mp (by decide +kernel)
set_option maxRecDepth 30000 in
theorem oX8_init : OKM pg mX8_init := ⟨by decide +kernel, ⟨by decide +kernel, by decide +kernel⟩, by decide +kernel, WL_3 (p := 142) rfl (by decide +kernel), WL_of (p := 36) (by decide +kernel) (by decide +kernel),
  fun h => absurd h (by decide +kernel),
  fun h => absurd h (by decide +kernel),
  fun _ => ⟨WL_of (p := 647) (by decide +kernel) (by decide +kernel), by decide +kernel, by decide +kernel⟩,
  by decide +kernel, iX8_init⟩
theorem iX8_in : ∀ e ∈ tX8_in, okI pg mX8_in e = true := List.all_eq_true.mp (by decide +kernel)
set_option maxRecDepth 30000 in
theorem oX8_in : OKM pg mX8_in := ⟨by decide +kernel, ⟨by decide +kernel, by decide +kernel⟩, by decide +kernel, WL_3 (p := 150) rfl (by decide +kernel), WL_of (p := 36) (by decide +kernel) (by decide +kernel),
  fun h => absurd h (by decide +kernel),
  fun _ => WL_of (p := 655) (by decide +kernel) (by decide +kernel),
  fun h => absurd h (by decide +kernel),
  by decide +kernel, iX8_in⟩
theorem iX8_copies : ∀ e ∈ tX8_copies, okI pg mX8_copies e = true := List.all_eq_true.mp (by decide +kernel)
set_option maxRecDepth 30000 in
theorem oX8_copies : OKM pg mX8_copies := ⟨by decide +kernel, ⟨by decide +kernel, by decide +kernel⟩, by decide +kernel, WL_4 (p := 91) rfl (by decide +kernel), WL_of (p := 36) (by decide +kernel) (by decide +kernel),
  fun h => absurd h (by decide +kernel),
  fun _ => WL_of (p := 836) (by decide +kernel) (by decide +kernel),
  fun h => absurd h (by decide +kernel),
  by decide +kernel, iX8_copies⟩
theorem iX8_changes : ∀ e ∈ tX8_changes, okI pg mX8_changes e = true := List.all_eq_true.mp (by decide +kernel)
set_option maxRecDepth 30000 in
theorem oX8_changes : OKM pg mX8_changes := ⟨by decide +kernel, ⟨by decide +kernel, by decide +kernel⟩, by decide +kernel, WL_3 (p := 226) rfl (by decide +kernel), WL_of (p := 36) (by decide +kernel) (by decide +kernel),
  fun _ => ⟨WL_of (p := 731) (by decide +kernel) (by decide +kernel), WL_of (p := 3) (by decide +kernel) (by decide +kernel), ⟨_, rfl, by decide +kernel⟩⟩,
  fun h => absurd h (by decide +kernel),
  fun h => absurd h (by decide +kernel),
  by decide +kernel, iX8_changes⟩
theorem iX8_isPlayer : ∀ e ∈ tX8_isPlayer, okI pg mX8_isPlayer e = true := List.all_eq_true.mp (by decide +kernel)
set_option maxRecDepth 30000 in
theorem oX8_isPlayer : OKM pg mX8_isPlayer := ⟨by decide +kernel, ⟨by decide +kernel, by decide +kernel⟩, by decide +kernel, WL_3 (p := 239) rfl (by decide +kernel), WL_of (p := 36) (by decide +kernel) (by decide +kernel),
  fun _ => ⟨WL_of (p := 744) (by decide +kernel) (by decide +kernel), WL_of (p := 4) (by decide +kernel) (by decide +kernel), ⟨_, rfl, by decide +kernel⟩⟩,
  fun h => absurd h (by decide +kernel),
  fun h => absurd h (by decide +kernel),
  by decide +kernel, iX8_isPlayer⟩
theorem iX8_of : ∀ e ∈ tX8_of, okI pg mX8_of e = true := List.all_eq_true.mp (by decide +kernel)
set_option maxRecDepth 30000 in
theorem oX8_of : OKM pg mX8_of := ⟨by decide +kernel, ⟨by decide +kernel, by decide +kernel⟩, by decide +kernel, WL_4 (p := 3) rfl (by decide +kernel), WL_of (p := 36) (by decide +kernel) (by decide +kernel),
  fun _ => ⟨WL_of (p := 748) (by decide +kernel) (by decide +kernel), WL_of (p := 5) (by decide +kernel) (by decide +kernel), ⟨_, rfl, by decide +kernel⟩⟩,
  fun h => absurd h (by decide +kernel),
  fun h => absurd h (by decide +kernel),
  by decide +kernel, iX8_of⟩
theorem iX8_begins_0 : ((tX8_begins.drop 0).take 60).all (okI pg mX8_begins) = true := by decide +kernel
theorem iX8_begins_60 : (tX8_begins.drop 60).all (okI pg mX8_begins) = true := by decide +kernel
theorem iX8_begins : ∀ e ∈ tX8_begins, okI pg mX8_begins e = true := List.all_eq_true.mp (show (tX8_begins.drop 0).all (okI pg mX8_begins) = true from (all_from iX8_begins_0 iX8_begins_60))
set_option maxRecDepth 30000 in
theorem oX8_begins : OKM pg mX8_begins := ⟨by decide +kernel, ⟨by decide +kernel, by decide +kernel⟩, by decide +kernel, WL_3 (p := 147) rfl (by decide +kernel), WL_of (p := 36) (by decide +kernel) (by decide +kernel),
  fun _ => ⟨WL_of (p := 652) (by decide +kernel) (by decide +kernel), WL_of (p := 2) (by decide +kernel) (by decide +kernel), ⟨_, rfl, by decide +kernel⟩⟩,
  fun h => absurd h (by decide +kernel),
  fun h => absurd h (by decide +kernel),
  by decide +kernel, iX8_begins⟩
theorem iX8_begin : ∀ e ∈ tX8_begin, okI pg mX8_begin e = true := List.all_eq_true.mp (by decide +kernel)
set_option maxRecDepth 30000 in
theorem oX8_begin : OKM pg mX8_begin := ⟨by decide +kernel, ⟨by decide +kernel, by decide +kernel⟩, by decide +kernel, WL_3 (p := 221) rfl (by decide +kernel), WL_of (p := 36) (by decide +kernel) (by decide +kernel),
  fun _ => ⟨WL_of (p := 725) (by decide +kernel) (by decide +kernel), WL_of (p := 726) (by decide +kernel) (by decide +kernel), ⟨_, rfl, by decide +kernel⟩⟩,
  fun h => absurd h (by decide +kernel),
  fun h => absurd h (by decide +kernel),
  by decide +kernel, iX8_begin⟩
theorem iX8_lot : ∀ e ∈ tX8_lot, okI pg mX8_lot e = true := List.all_eq_true.mp (by decide +kernel)
set_option maxRecDepth 30000 in
theorem oX8_lot : OKM pg mX8_lot := ⟨by decide +kernel, ⟨by decide +kernel, by decide +kernel⟩, by decide +kernel, WL_3 (p := 230) rfl (by decide +kernel), WL_of (p := 36) (by decide +kernel) (by decide +kernel),
  fun _ => ⟨WL_of (p := 734) (by decide +kernel) (by decide +kernel), WL_of (p := 735) (by decide +kernel) (by decide +kernel), ⟨_, rfl, by decide +kernel⟩⟩,
  fun h => absurd h (by decide +kernel),
  fun h => absurd h (by decide +kernel),
  by decide +kernel, iX8_lot⟩
theorem iX8_bids : ∀ e ∈ tX8_bids, okI pg mX8_bids e = true := List.all_eq_true.mp (by decide +kernel)
set_option maxRecDepth 30000 in
theorem oX8_bids : OKM pg mX8_bids := ⟨by decide +kernel, ⟨by decide +kernel, by decide +kernel⟩, by decide +kernel, WL_4 (p := 8) rfl (by decide +kernel), WL_of (p := 36) (by decide +kernel) (by decide +kernel),
  fun _ => ⟨WL_of (p := 753) (by decide +kernel) (by decide +kernel), WL_of (p := 6) (by decide +kernel) (by decide +kernel), ⟨_, rfl, by decide +kernel⟩⟩,
  fun h => absurd h (by decide +kernel),
  fun h => absurd h (by decide +kernel),
  by decide +kernel, iX8_bids⟩
theorem iX8_bid : ∀ e ∈ tX8_bid, okI pg mX8_bid e = true := List.all_eq_true.mp (by decide +kernel)
set_option maxRecDepth 30000 in
theorem oX8_bid : OKM pg mX8_bid := ⟨by decide +kernel, ⟨by decide +kernel, by decide +kernel⟩, by decide +kernel, WL_3 (p := 235) rfl (by decide +kernel), WL_of (p := 36) (by decide +kernel) (by decide +kernel),
  fun _ => ⟨WL_of (p := 739) (by decide +kernel) (by decide +kernel), WL_of (p := 740) (by decide +kernel) (by decide +kernel), ⟨_, rfl, by decide +kernel⟩⟩,
  fun h => absurd h (by decide +kernel),
  fun h => absurd h (by decide +kernel),
  by decide +kernel, iX8_bid⟩
theorem iX8_onTable : ∀ e ∈ tX8_onTable, okI pg mX8_onTable e = true := List.all_eq_true.mp (by decide +kernel)
set_option maxRecDepth 30000 in
theorem oX8_onTable : OKM pg mX8_onTable := ⟨by decide +kernel, ⟨by decide +kernel, by decide +kernel⟩, by decide +kernel, WL_4 (p := 24) rfl (by decide +kernel), WL_of (p := 36) (by decide +kernel) (by decide +kernel),
  fun _ => ⟨WL_of (p := 769) (by decide +kernel) (by decide +kernel), WL_of (p := 9) (by decide +kernel) (by decide +kernel), ⟨_, rfl, by decide +kernel⟩⟩,
  fun h => absurd h (by decide +kernel),
  fun h => absurd h (by decide +kernel),
  by decide +kernel, iX8_onTable⟩
theorem iX8_greatest : ∀ e ∈ tX8_greatest, okI pg mX8_greatest e = true := List.all_eq_true.mp (by decide +kernel)
set_option maxRecDepth 30000 in
theorem oX8_greatest : OKM pg mX8_greatest := ⟨by decide +kernel, ⟨by decide +kernel, by decide +kernel⟩, by decide +kernel, WL_4 (p := 20) rfl (by decide +kernel), WL_of (p := 36) (by decide +kernel) (by decide +kernel),
  fun _ => ⟨WL_of (p := 765) (by decide +kernel) (by decide +kernel), WL_of (p := 8) (by decide +kernel) (by decide +kernel), ⟨_, rfl, by decide +kernel⟩⟩,
  fun h => absurd h (by decide +kernel),
  fun h => absurd h (by decide +kernel),
  by decide +kernel, iX8_greatest⟩
theorem iX8_lays : ∀ e ∈ tX8_lays, okI pg mX8_lays e = true := List.all_eq_true.mp (by decide +kernel)
set_option maxRecDepth 30000 in
theorem oX8_lays : OKM pg mX8_lays := ⟨by decide +kernel, ⟨by decide +kernel, by decide +kernel⟩, by decide +kernel, WL_4 (p := 28) rfl (by decide +kernel), WL_of (p := 36) (by decide +kernel) (by decide +kernel),
  fun _ => ⟨WL_of (p := 773) (by decide +kernel) (by decide +kernel), WL_of (p := 10) (by decide +kernel) (by decide +kernel), ⟨_, rfl, by decide +kernel⟩⟩,
  fun h => absurd h (by decide +kernel),
  fun h => absurd h (by decide +kernel),
  by decide +kernel, iX8_lays⟩
theorem iX8_pays : ∀ e ∈ tX8_pays, okI pg mX8_pays e = true := List.all_eq_true.mp (by decide +kernel)
set_option maxRecDepth 30000 in
theorem oX8_pays : OKM pg mX8_pays := ⟨by decide +kernel, ⟨by decide +kernel, by decide +kernel⟩, by decide +kernel, WL_4 (p := 43) rfl (by decide +kernel), WL_of (p := 36) (by decide +kernel) (by decide +kernel),
  fun _ => ⟨WL_of (p := 788) (by decide +kernel) (by decide +kernel), WL_of (p := 13) (by decide +kernel) (by decide +kernel), ⟨_, rfl, by decide +kernel⟩⟩,
  fun h => absurd h (by decide +kernel),
  fun h => absurd h (by decide +kernel),
  by decide +kernel, iX8_pays⟩
theorem iX8_least : ∀ e ∈ tX8_least, okI pg mX8_least e = true := List.all_eq_true.mp (by decide +kernel)
set_option maxRecDepth 30000 in
theorem oX8_least : OKM pg mX8_least := ⟨by decide +kernel, ⟨by decide +kernel, by decide +kernel⟩, by decide +kernel, WL_4 (p := 35) rfl (by decide +kernel), WL_of (p := 36) (by decide +kernel) (by decide +kernel),
  fun h => absurd h (by decide +kernel),
  fun _ => WL_of (p := 780) (by decide +kernel) (by decide +kernel),
  fun h => absurd h (by decide +kernel),
  by decide +kernel, iX8_least⟩
theorem iX8_notes_0 : ((tX8_notes.drop 0).take 60).all (okI pg mX8_notes) = true := by decide +kernel
theorem iX8_notes_60 : (tX8_notes.drop 60).all (okI pg mX8_notes) = true := by decide +kernel
theorem iX8_notes : ∀ e ∈ tX8_notes, okI pg mX8_notes e = true := List.all_eq_true.mp (show (tX8_notes.drop 0).all (okI pg mX8_notes) = true from (all_from iX8_notes_0 iX8_notes_60))
set_option maxRecDepth 30000 in
theorem oX8_notes : OKM pg mX8_notes := ⟨by decide +kernel, ⟨by decide +kernel, by decide +kernel⟩, by decide +kernel, WL_4 (p := 39) rfl (by decide +kernel), WL_of (p := 36) (by decide +kernel) (by decide +kernel),
  fun _ => ⟨WL_of (p := 784) (by decide +kernel) (by decide +kernel), WL_of (p := 12) (by decide +kernel) (by decide +kernel), ⟨_, rfl, by decide +kernel⟩⟩,
  fun h => absurd h (by decide +kernel),
  fun h => absurd h (by decide +kernel),
  by decide +kernel, iX8_notes⟩
theorem iX8_keeps_0 : ((tX8_keeps.drop 0).take 60).all (okI pg mX8_keeps) = true := by decide +kernel
theorem iX8_keeps_60 : (tX8_keeps.drop 60).all (okI pg mX8_keeps) = true := by decide +kernel
theorem iX8_keeps : ∀ e ∈ tX8_keeps, okI pg mX8_keeps e = true := List.all_eq_true.mp (show (tX8_keeps.drop 0).all (okI pg mX8_keeps) = true from (all_from iX8_keeps_0 iX8_keeps_60))
set_option maxRecDepth 30000 in
theorem oX8_keeps : OKM pg mX8_keeps := ⟨by decide +kernel, ⟨by decide +kernel, by decide +kernel⟩, by decide +kernel, WL_4 (p := 32) rfl (by decide +kernel), WL_of (p := 36) (by decide +kernel) (by decide +kernel),
  fun _ => ⟨WL_of (p := 777) (by decide +kernel) (by decide +kernel), WL_of (p := 11) (by decide +kernel) (by decide +kernel), ⟨_, rfl, by decide +kernel⟩⟩,
  fun h => absurd h (by decide +kernel),
  fun h => absurd h (by decide +kernel),
  by decide +kernel, iX8_keeps⟩
theorem iX8_shares_0 : ((tX8_shares.drop 0).take 60).all (okI pg mX8_shares) = true := by decide +kernel
theorem iX8_shares_60 : (tX8_shares.drop 60).all (okI pg mX8_shares) = true := by decide +kernel
theorem iX8_shares : ∀ e ∈ tX8_shares, okI pg mX8_shares e = true := List.all_eq_true.mp (show (tX8_shares.drop 0).all (okI pg mX8_shares) = true from (all_from iX8_shares_0 iX8_shares_60))
set_option maxRecDepth 30000 in
theorem oX8_shares : OKM pg mX8_shares := ⟨by decide +kernel, ⟨by decide +kernel, by decide +kernel⟩, by decide +kernel, WL_4 (p := 47) rfl (by decide +kernel), WL_of (p := 36) (by decide +kernel) (by decide +kernel),
  fun _ => ⟨WL_of (p := 792) (by decide +kernel) (by decide +kernel), WL_of (p := 14) (by decide +kernel) (by decide +kernel), ⟨_, rfl, by decide +kernel⟩⟩,
  fun h => absurd h (by decide +kernel),
  fun h => absurd h (by decide +kernel),
  by decide +kernel, iX8_shares⟩
theorem iX8_resolves_0 : ((tX8_resolves.drop 0).take 60).all (okI pg mX8_resolves) = true := by decide +kernel
theorem iX8_resolves_60 : ((tX8_resolves.drop 60).take 60).all (okI pg mX8_resolves) = true := by decide +kernel
theorem iX8_resolves_120 : ((tX8_resolves.drop 120).take 60).all (okI pg mX8_resolves) = true := by decide +kernel
theorem iX8_resolves_180 : (tX8_resolves.drop 180).all (okI pg mX8_resolves) = true := by decide +kernel
theorem iX8_resolves : ∀ e ∈ tX8_resolves, okI pg mX8_resolves e = true := List.all_eq_true.mp (show (tX8_resolves.drop 0).all (okI pg mX8_resolves) = true from (all_from iX8_resolves_0 (all_from iX8_resolves_60 (all_from iX8_resolves_120 iX8_resolves_180))))
set_option maxRecDepth 30000 in
theorem oX8_resolves : OKM pg mX8_resolves := ⟨by decide +kernel, ⟨by decide +kernel, by decide +kernel⟩, by decide +kernel, WL_4 (p := 16) rfl (by decide +kernel), WL_of (p := 36) (by decide +kernel) (by decide +kernel),
  fun _ => ⟨WL_of (p := 761) (by decide +kernel) (by decide +kernel), WL_of (p := 7) (by decide +kernel) (by decide +kernel), ⟨_, rfl, by decide +kernel⟩⟩,
  fun h => absurd h (by decide +kernel),
  fun h => absurd h (by decide +kernel),
  by decide +kernel, iX8_resolves⟩
theorem iX8_resolve : ∀ e ∈ tX8_resolve, okI pg mX8_resolve e = true := List.all_eq_true.mp (by decide +kernel)
set_option maxRecDepth 30000 in
theorem oX8_resolve : OKM pg mX8_resolve := ⟨by decide +kernel, ⟨by decide +kernel, by decide +kernel⟩, by decide +kernel, WL_4 (p := 12) rfl (by decide +kernel), WL_of (p := 36) (by decide +kernel) (by decide +kernel),
  fun _ => ⟨WL_of (p := 756) (by decide +kernel) (by decide +kernel), WL_of (p := 757) (by decide +kernel) (by decide +kernel), ⟨_, rfl, by decide +kernel⟩⟩,
  fun h => absurd h (by decide +kernel),
  fun h => absurd h (by decide +kernel),
  by decide +kernel, iX8_resolve⟩
theorem iX8_set : ∀ e ∈ tX8_set, okI pg mX8_set e = true := List.all_eq_true.mp (by decide +kernel)
set_option maxRecDepth 30000 in
theorem oX8_set : OKM pg mX8_set := ⟨by decide +kernel, ⟨by decide +kernel, by decide +kernel⟩, by decide +kernel, WL_4 (p := 51) rfl (by decide +kernel), WL_of (p := 36) (by decide +kernel) (by decide +kernel),
  fun _ => ⟨WL_of (p := 795) (by decide +kernel) (by decide +kernel), WL_of (p := 796) (by decide +kernel) (by decide +kernel), ⟨_, rfl, by decide +kernel⟩⟩,
  fun h => absurd h (by decide +kernel),
  fun h => absurd h (by decide +kernel),
  by decide +kernel, iX8_set⟩
theorem iX8_playerOf : ∀ e ∈ tX8_playerOf, okI pg mX8_playerOf e = true := List.all_eq_true.mp (by decide +kernel)
set_option maxRecDepth 30000 in
theorem oX8_playerOf : OKM pg mX8_playerOf := ⟨by decide +kernel, ⟨by decide +kernel, by decide +kernel⟩, by decide +kernel, WL_4 (p := 55) rfl (by decide +kernel), WL_of (p := 36) (by decide +kernel) (by decide +kernel),
  fun _ => ⟨WL_of (p := 799) (by decide +kernel) (by decide +kernel), WL_of (p := 800) (by decide +kernel) (by decide +kernel), ⟨_, rfl, by decide +kernel⟩⟩,
  fun h => absurd h (by decide +kernel),
  fun h => absurd h (by decide +kernel),
  by decide +kernel, iX8_playerOf⟩
theorem iX8_lotOf : ∀ e ∈ tX8_lotOf, okI pg mX8_lotOf e = true := List.all_eq_true.mp (by decide +kernel)
set_option maxRecDepth 30000 in
theorem oX8_lotOf : OKM pg mX8_lotOf := ⟨by decide +kernel, ⟨by decide +kernel, by decide +kernel⟩, by decide +kernel, WL_4 (p := 59) rfl (by decide +kernel), WL_of (p := 36) (by decide +kernel) (by decide +kernel),
  fun _ => ⟨WL_of (p := 803) (by decide +kernel) (by decide +kernel), WL_of (p := 804) (by decide +kernel) (by decide +kernel), ⟨_, rfl, by decide +kernel⟩⟩,
  fun h => absurd h (by decide +kernel),
  fun h => absurd h (by decide +kernel),
  by decide +kernel, iX8_lotOf⟩
theorem iX8_roundOf : ∀ e ∈ tX8_roundOf, okI pg mX8_roundOf e = true := List.all_eq_true.mp (by decide +kernel)
set_option maxRecDepth 30000 in
theorem oX8_roundOf : OKM pg mX8_roundOf := ⟨by decide +kernel, ⟨by decide +kernel, by decide +kernel⟩, by decide +kernel, WL_4 (p := 64) rfl (by decide +kernel), WL_of (p := 36) (by decide +kernel) (by decide +kernel),
  fun _ => ⟨WL_of (p := 808) (by decide +kernel) (by decide +kernel), WL_of (p := 809) (by decide +kernel) (by decide +kernel), ⟨_, rfl, by decide +kernel⟩⟩,
  fun h => absurd h (by decide +kernel),
  fun h => absurd h (by decide +kernel),
  by decide +kernel, iX8_roundOf⟩
theorem iX8_record : ∀ e ∈ tX8_record, okI pg mX8_record e = true := List.all_eq_true.mp (by decide +kernel)
set_option maxRecDepth 30000 in
theorem oX8_record : OKM pg mX8_record := ⟨by decide +kernel, ⟨by decide +kernel, by decide +kernel⟩, by decide +kernel, WL_4 (p := 68) rfl (by decide +kernel), WL_of (p := 36) (by decide +kernel) (by decide +kernel),
  fun _ => ⟨WL_of (p := 812) (by decide +kernel) (by decide +kernel), WL_of (p := 813) (by decide +kernel) (by decide +kernel), ⟨_, rfl, by decide +kernel⟩⟩,
  fun h => absurd h (by decide +kernel),
  fun h => absurd h (by decide +kernel),
  by decide +kernel, iX8_record⟩
theorem iX8_coinsAll : ∀ e ∈ tX8_coinsAll, okI pg mX8_coinsAll e = true := List.all_eq_true.mp (by decide +kernel)
set_option maxRecDepth 30000 in
theorem oX8_coinsAll : OKM pg mX8_coinsAll := ⟨by decide +kernel, ⟨by decide +kernel, by decide +kernel⟩, by decide +kernel, WL_4 (p := 76) rfl (by decide +kernel), WL_of (p := 36) (by decide +kernel) (by decide +kernel),
  fun _ => ⟨WL_of (p := 821) (by decide +kernel) (by decide +kernel), WL_of (p := 15) (by decide +kernel) (by decide +kernel), ⟨_, rfl, by decide +kernel⟩⟩,
  fun h => absurd h (by decide +kernel),
  fun h => absurd h (by decide +kernel),
  by decide +kernel, iX8_coinsAll⟩
theorem iX8_count_0 : ((tX8_count.drop 0).take 60).all (okI pg mX8_count) = true := by decide +kernel
theorem iX8_count_60 : (tX8_count.drop 60).all (okI pg mX8_count) = true := by decide +kernel
theorem iX8_count : ∀ e ∈ tX8_count, okI pg mX8_count e = true := List.all_eq_true.mp (show (tX8_count.drop 0).all (okI pg mX8_count) = true from (all_from iX8_count_0 iX8_count_60))
set_option maxRecDepth 30000 in
theorem oX8_count : OKM pg mX8_count := ⟨by decide +kernel, ⟨by decide +kernel, by decide +kernel⟩, by decide +kernel, WL_4 (p := 72) rfl (by decide +kernel), WL_of (p := 36) (by decide +kernel) (by decide +kernel),
  fun _ => ⟨WL_of (p := 816) (by decide +kernel) (by decide +kernel), WL_of (p := 817) (by decide +kernel) (by decide +kernel), ⟨_, rfl, by decide +kernel⟩⟩,
  fun h => absurd h (by decide +kernel),
  fun h => absurd h (by decide +kernel),
  by decide +kernel, iX8_count⟩
theorem iX8_winner : ∀ e ∈ tX8_winner, okI pg mX8_winner e = true := List.all_eq_true.mp (by decide +kernel)
set_option maxRecDepth 30000 in
theorem oX8_winner : OKM pg mX8_winner := ⟨by decide +kernel, ⟨by decide +kernel, by decide +kernel⟩, by decide +kernel, WL_4 (p := 80) rfl (by decide +kernel), WL_of (p := 36) (by decide +kernel) (by decide +kernel),
  fun _ => ⟨WL_of (p := 824) (by decide +kernel) (by decide +kernel), WL_of (p := 825) (by decide +kernel) (by decide +kernel), ⟨_, rfl, by decide +kernel⟩⟩,
  fun h => absurd h (by decide +kernel),
  fun h => absurd h (by decide +kernel),
  by decide +kernel, iX8_winner⟩
theorem iX8_sure : ∀ e ∈ tX8_sure, okI pg mX8_sure e = true := List.all_eq_true.mp (by decide +kernel)
set_option maxRecDepth 30000 in
theorem oX8_sure : OKM pg mX8_sure := ⟨by decide +kernel, ⟨by decide +kernel, by decide +kernel⟩, by decide +kernel, WL_4 (p := 84) rfl (by decide +kernel), WL_of (p := 36) (by decide +kernel) (by decide +kernel),
  fun _ => ⟨WL_of (p := 828) (by decide +kernel) (by decide +kernel), WL_of (p := 829) (by decide +kernel) (by decide +kernel), ⟨_, rfl, by decide +kernel⟩⟩,
  fun h => absurd h (by decide +kernel),
  fun h => absurd h (by decide +kernel),
  by decide +kernel, iX8_sure⟩
theorem iX8_reply_0 : ((tX8_reply.drop 0).take 60).all (okI pg mX8_reply) = true := by decide +kernel
theorem iX8_reply_60 : ((tX8_reply.drop 60).take 60).all (okI pg mX8_reply) = true := by decide +kernel
theorem iX8_reply_120 : (tX8_reply.drop 120).all (okI pg mX8_reply) = true := by decide +kernel
theorem iX8_reply : ∀ e ∈ tX8_reply, okI pg mX8_reply e = true := List.all_eq_true.mp (show (tX8_reply.drop 0).all (okI pg mX8_reply) = true from (all_from iX8_reply_0 (all_from iX8_reply_60 iX8_reply_120)))
set_option maxRecDepth 30000 in
theorem oX8_reply : OKM pg mX8_reply := ⟨by decide +kernel, ⟨by decide +kernel, by decide +kernel⟩, by decide +kernel, WL_4 (p := 88) rfl (by decide +kernel), WL_of (p := 36) (by decide +kernel) (by decide +kernel),
  fun _ => ⟨WL_of (p := 832) (by decide +kernel) (by decide +kernel), WL_of (p := 833) (by decide +kernel) (by decide +kernel), ⟨_, rfl, by decide +kernel⟩⟩,
  fun h => absurd h (by decide +kernel),
  fun h => absurd h (by decide +kernel),
  by decide +kernel, iX8_reply⟩
theorem iX8_tries_0 : ((tX8_tries.drop 0).take 60).all (okI pg mX8_tries) = true := by decide +kernel
theorem iX8_tries_60 : ((tX8_tries.drop 60).take 60).all (okI pg mX8_tries) = true := by decide +kernel
theorem iX8_tries_120 : (tX8_tries.drop 120).all (okI pg mX8_tries) = true := by decide +kernel
theorem iX8_tries : ∀ e ∈ tX8_tries, okI pg mX8_tries e = true := List.all_eq_true.mp (show (tX8_tries.drop 0).all (okI pg mX8_tries) = true from (all_from iX8_tries_0 (all_from iX8_tries_60 iX8_tries_120)))
set_option maxRecDepth 30000 in
theorem oX8_tries : OKM pg mX8_tries := ⟨by decide +kernel, ⟨by decide +kernel, by decide +kernel⟩, by decide +kernel, WL_4 (p := 107) rfl (by decide +kernel), WL_of (p := 36) (by decide +kernel) (by decide +kernel),
  fun _ => ⟨WL_of (p := 852) (by decide +kernel) (by decide +kernel), WL_of (p := 18) (by decide +kernel) (by decide +kernel), ⟨_, rfl, by decide +kernel⟩⟩,
  fun h => absurd h (by decide +kernel),
  fun h => absurd h (by decide +kernel),
  by decide +kernel, iX8_tries⟩
theorem iX8_holdsOne_0 : ((tX8_holdsOne.drop 0).take 60).all (okI pg mX8_holdsOne) = true := by decide +kernel
theorem iX8_holdsOne_60 : (tX8_holdsOne.drop 60).all (okI pg mX8_holdsOne) = true := by decide +kernel
theorem iX8_holdsOne : ∀ e ∈ tX8_holdsOne, okI pg mX8_holdsOne e = true := List.all_eq_true.mp (show (tX8_holdsOne.drop 0).all (okI pg mX8_holdsOne) = true from (all_from iX8_holdsOne_0 iX8_holdsOne_60))
set_option maxRecDepth 30000 in
theorem oX8_holdsOne : OKM pg mX8_holdsOne := ⟨by decide +kernel, ⟨by decide +kernel, by decide +kernel⟩, by decide +kernel, WL_4 (p := 103) rfl (by decide +kernel), WL_of (p := 36) (by decide +kernel) (by decide +kernel),
  fun _ => ⟨WL_of (p := 848) (by decide +kernel) (by decide +kernel), WL_of (p := 17) (by decide +kernel) (by decide +kernel), ⟨_, rfl, by decide +kernel⟩⟩,
  fun h => absurd h (by decide +kernel),
  fun h => absurd h (by decide +kernel),
  by decide +kernel, iX8_holdsOne⟩
theorem iX8_holdsTwo_0 : ((tX8_holdsTwo.drop 0).take 60).all (okI pg mX8_holdsTwo) = true := by decide +kernel
theorem iX8_holdsTwo_60 : (tX8_holdsTwo.drop 60).all (okI pg mX8_holdsTwo) = true := by decide +kernel
theorem iX8_holdsTwo : ∀ e ∈ tX8_holdsTwo, okI pg mX8_holdsTwo e = true := List.all_eq_true.mp (show (tX8_holdsTwo.drop 0).all (okI pg mX8_holdsTwo) = true from (all_from iX8_holdsTwo_0 iX8_holdsTwo_60))
set_option maxRecDepth 30000 in
theorem oX8_holdsTwo : OKM pg mX8_holdsTwo := ⟨by decide +kernel, ⟨by decide +kernel, by decide +kernel⟩, by decide +kernel, WL_4 (p := 111) rfl (by decide +kernel), WL_of (p := 36) (by decide +kernel) (by decide +kernel),
  fun _ => ⟨WL_of (p := 856) (by decide +kernel) (by decide +kernel), WL_of (p := 19) (by decide +kernel) (by decide +kernel), ⟨_, rfl, by decide +kernel⟩⟩,
  fun h => absurd h (by decide +kernel),
  fun h => absurd h (by decide +kernel),
  by decide +kernel, iX8_holdsTwo⟩
theorem iX8_looks : ∀ e ∈ tX8_looks, okI pg mX8_looks e = true := List.all_eq_true.mp (by decide +kernel)
set_option maxRecDepth 30000 in
theorem oX8_looks : OKM pg mX8_looks := ⟨by decide +kernel, ⟨by decide +kernel, by decide +kernel⟩, by decide +kernel, WL_4 (p := 99) rfl (by decide +kernel), WL_of (p := 36) (by decide +kernel) (by decide +kernel),
  fun _ => ⟨WL_of (p := 844) (by decide +kernel) (by decide +kernel), WL_of (p := 16) (by decide +kernel) (by decide +kernel), ⟨_, rfl, by decide +kernel⟩⟩,
  fun h => absurd h (by decide +kernel),
  fun h => absurd h (by decide +kernel),
  by decide +kernel, iX8_looks⟩
theorem iX8_holds : ∀ e ∈ tX8_holds, okI pg mX8_holds e = true := List.all_eq_true.mp (by decide +kernel)
set_option maxRecDepth 30000 in
theorem oX8_holds : OKM pg mX8_holds := ⟨by decide +kernel, ⟨by decide +kernel, by decide +kernel⟩, by decide +kernel, WL_4 (p := 95) rfl (by decide +kernel), WL_of (p := 36) (by decide +kernel) (by decide +kernel),
  fun _ => ⟨WL_of (p := 839) (by decide +kernel) (by decide +kernel), WL_of (p := 840) (by decide +kernel) (by decide +kernel), ⟨_, rfl, by decide +kernel⟩⟩,
  fun h => absurd h (by decide +kernel),
  fun h => absurd h (by decide +kernel),
  by decide +kernel, iX8_holds⟩
theorem iX8_holding : ∀ e ∈ tX8_holding, okI pg mX8_holding e = true := List.all_eq_true.mp (by decide +kernel)
set_option maxRecDepth 30000 in
theorem oX8_holding : OKM pg mX8_holding := ⟨by decide +kernel, ⟨by decide +kernel, by decide +kernel⟩, by decide +kernel, WL_4 (p := 115) rfl (by decide +kernel), WL_of (p := 36) (by decide +kernel) (by decide +kernel),
  fun _ => ⟨WL_of (p := 859) (by decide +kernel) (by decide +kernel), WL_of (p := 860) (by decide +kernel) (by decide +kernel), ⟨_, rfl, by decide +kernel⟩⟩,
  fun h => absurd h (by decide +kernel),
  fun h => absurd h (by decide +kernel),
  by decide +kernel, iX8_holding⟩
theorem iX8_chance_0 : ((tX8_chance.drop 0).take 60).all (okI pg mX8_chance) = true := by decide +kernel
theorem iX8_chance_60 : (tX8_chance.drop 60).all (okI pg mX8_chance) = true := by decide +kernel
theorem iX8_chance : ∀ e ∈ tX8_chance, okI pg mX8_chance e = true := List.all_eq_true.mp (show (tX8_chance.drop 0).all (okI pg mX8_chance) = true from (all_from iX8_chance_0 iX8_chance_60))
set_option maxRecDepth 30000 in
theorem oX8_chance : OKM pg mX8_chance := ⟨by decide +kernel, ⟨by decide +kernel, by decide +kernel⟩, by decide +kernel, WL_4 (p := 119) rfl (by decide +kernel), WL_of (p := 36) (by decide +kernel) (by decide +kernel),
  fun _ => ⟨WL_of (p := 863) (by decide +kernel) (by decide +kernel), WL_of (p := 864) (by decide +kernel) (by decide +kernel), ⟨_, rfl, by decide +kernel⟩⟩,
  fun h => absurd h (by decide +kernel),
  fun h => absurd h (by decide +kernel),
  by decide +kernel, iX8_chance⟩
theorem iX8_keep : ∀ e ∈ tX8_keep, okI pg mX8_keep e = true := List.all_eq_true.mp (by decide +kernel)
set_option maxRecDepth 30000 in
theorem oX8_keep : OKM pg mX8_keep := ⟨by decide +kernel, ⟨by decide +kernel, by decide +kernel⟩, by decide +kernel, WL_4 (p := 123) rfl (by decide +kernel), WL_of (p := 36) (by decide +kernel) (by decide +kernel),
  fun _ => ⟨WL_of (p := 867) (by decide +kernel) (by decide +kernel), WL_of (p := 868) (by decide +kernel) (by decide +kernel), ⟨_, rfl, by decide +kernel⟩⟩,
  fun h => absurd h (by decide +kernel),
  fun h => absurd h (by decide +kernel),
  by decide +kernel, iX8_keep⟩
theorem iX8_restore : ∀ e ∈ tX8_restore, okI pg mX8_restore e = true := List.all_eq_true.mp (by decide +kernel)
set_option maxRecDepth 30000 in
theorem oX8_restore : OKM pg mX8_restore := ⟨by decide +kernel, ⟨by decide +kernel, by decide +kernel⟩, by decide +kernel, WL_4 (p := 127) rfl (by decide +kernel), WL_of (p := 36) (by decide +kernel) (by decide +kernel),
  fun _ => ⟨WL_of (p := 871) (by decide +kernel) (by decide +kernel), WL_of (p := 872) (by decide +kernel) (by decide +kernel), ⟨_, rfl, by decide +kernel⟩⟩,
  fun h => absurd h (by decide +kernel),
  fun h => absurd h (by decide +kernel),
  by decide +kernel, iX8_restore⟩
theorem iX8_undo : ∀ e ∈ tX8_undo, okI pg mX8_undo e = true := List.all_eq_true.mp (by decide +kernel)
set_option maxRecDepth 30000 in
theorem oX8_undo : OKM pg mX8_undo := ⟨by decide +kernel, ⟨by decide +kernel, by decide +kernel⟩, by decide +kernel, WL_4 (p := 131) rfl (by decide +kernel), WL_of (p := 36) (by decide +kernel) (by decide +kernel),
  fun _ => ⟨WL_of (p := 875) (by decide +kernel) (by decide +kernel), WL_of (p := 876) (by decide +kernel) (by decide +kernel), ⟨_, rfl, by decide +kernel⟩⟩,
  fun h => absurd h (by decide +kernel),
  fun h => absurd h (by decide +kernel),
  by decide +kernel, iX8_undo⟩
theorem iX8_type : ∀ e ∈ tX8_type, okI pg mX8_type e = true := List.all_eq_true.mp (by decide +kernel)
set_option maxRecDepth 30000 in
theorem oX8_type : OKM pg mX8_type := ⟨by decide +kernel, ⟨by decide +kernel, by decide +kernel⟩, by decide +kernel, WL_4 (p := 135) rfl (by decide +kernel), WL_of (p := 36) (by decide +kernel) (by decide +kernel),
  fun _ => ⟨WL_of (p := 879) (by decide +kernel) (by decide +kernel), WL_of (p := 880) (by decide +kernel) (by decide +kernel), ⟨_, rfl, by decide +kernel⟩⟩,
  fun h => absurd h (by decide +kernel),
  fun h => absurd h (by decide +kernel),
  by decide +kernel, iX8_type⟩
theorem iX8_clearText : ∀ e ∈ tX8_clearText, okI pg mX8_clearText e = true := List.all_eq_true.mp (by decide +kernel)
set_option maxRecDepth 30000 in
theorem oX8_clearText : OKM pg mX8_clearText := ⟨by decide +kernel, ⟨by decide +kernel, by decide +kernel⟩, by decide +kernel, WL_4 (p := 139) rfl (by decide +kernel), WL_of (p := 36) (by decide +kernel) (by decide +kernel),
  fun _ => ⟨WL_of (p := 883) (by decide +kernel) (by decide +kernel), WL_of (p := 884) (by decide +kernel) (by decide +kernel), ⟨_, rfl, by decide +kernel⟩⟩,
  fun h => absurd h (by decide +kernel),
  fun h => absurd h (by decide +kernel),
  by decide +kernel, iX8_clearText⟩
theorem iX8_isAt : ∀ e ∈ tX8_isAt, okI pg mX8_isAt e = true := List.all_eq_true.mp (by decide +kernel)
set_option maxRecDepth 30000 in
theorem oX8_isAt : OKM pg mX8_isAt := ⟨by decide +kernel, ⟨by decide +kernel, by decide +kernel⟩, by decide +kernel, WL_4 (p := 163) rfl (by decide +kernel), WL_of (p := 36) (by decide +kernel) (by decide +kernel),
  fun _ => ⟨WL_of (p := 908) (by decide +kernel) (by decide +kernel), WL_of (p := 24) (by decide +kernel) (by decide +kernel), ⟨_, rfl, by decide +kernel⟩⟩,
  fun h => absurd h (by decide +kernel),
  fun h => absurd h (by decide +kernel),
  by decide +kernel, iX8_isAt⟩
theorem iX8_sign : ∀ e ∈ tX8_sign, okI pg mX8_sign e = true := List.all_eq_true.mp (by decide +kernel)
set_option maxRecDepth 30000 in
theorem oX8_sign : OKM pg mX8_sign := ⟨by decide +kernel, ⟨by decide +kernel, by decide +kernel⟩, by decide +kernel, WL_4 (p := 159) rfl (by decide +kernel), WL_of (p := 36) (by decide +kernel) (by decide +kernel),
  fun _ => ⟨WL_of (p := 904) (by decide +kernel) (by decide +kernel), WL_of (p := 23) (by decide +kernel) (by decide +kernel), ⟨_, rfl, by decide +kernel⟩⟩,
  fun h => absurd h (by decide +kernel),
  fun h => absurd h (by decide +kernel),
  by decide +kernel, iX8_sign⟩
theorem iX8_number_0 : ((tX8_number.drop 0).take 60).all (okI pg mX8_number) = true := by decide +kernel
theorem iX8_number_60 : (tX8_number.drop 60).all (okI pg mX8_number) = true := by decide +kernel
theorem iX8_number : ∀ e ∈ tX8_number, okI pg mX8_number e = true := List.all_eq_true.mp (show (tX8_number.drop 0).all (okI pg mX8_number) = true from (all_from iX8_number_0 iX8_number_60))
set_option maxRecDepth 30000 in
theorem oX8_number : OKM pg mX8_number := ⟨by decide +kernel, ⟨by decide +kernel, by decide +kernel⟩, by decide +kernel, WL_4 (p := 155) rfl (by decide +kernel), WL_of (p := 36) (by decide +kernel) (by decide +kernel),
  fun _ => ⟨WL_of (p := 900) (by decide +kernel) (by decide +kernel), WL_of (p := 22) (by decide +kernel) (by decide +kernel), ⟨_, rfl, by decide +kernel⟩⟩,
  fun h => absurd h (by decide +kernel),
  fun h => absurd h (by decide +kernel),
  by decide +kernel, iX8_number⟩
theorem iX8_reads : ∀ e ∈ tX8_reads, okI pg mX8_reads e = true := List.all_eq_true.mp (by decide +kernel)
set_option maxRecDepth 30000 in
theorem oX8_reads : OKM pg mX8_reads := ⟨by decide +kernel, ⟨by decide +kernel, by decide +kernel⟩, by decide +kernel, WL_4 (p := 151) rfl (by decide +kernel), WL_of (p := 36) (by decide +kernel) (by decide +kernel),
  fun _ => ⟨WL_of (p := 896) (by decide +kernel) (by decide +kernel), WL_of (p := 21) (by decide +kernel) (by decide +kernel), ⟨_, rfl, by decide +kernel⟩⟩,
  fun h => absurd h (by decide +kernel),
  fun h => absurd h (by decide +kernel),
  by decide +kernel, iX8_reads⟩
theorem iX8_calls : ∀ e ∈ tX8_calls, okI pg mX8_calls e = true := List.all_eq_true.mp (by decide +kernel)
set_option maxRecDepth 30000 in
theorem oX8_calls : OKM pg mX8_calls := ⟨by decide +kernel, ⟨by decide +kernel, by decide +kernel⟩, by decide +kernel, WL_4 (p := 167) rfl (by decide +kernel), WL_of (p := 36) (by decide +kernel) (by decide +kernel),
  fun _ => ⟨WL_of (p := 912) (by decide +kernel) (by decide +kernel), WL_of (p := 25) (by decide +kernel) (by decide +kernel), ⟨_, rfl, by decide +kernel⟩⟩,
  fun h => absurd h (by decide +kernel),
  fun h => absurd h (by decide +kernel),
  by decide +kernel, iX8_calls⟩
theorem iX8_plays : ∀ e ∈ tX8_plays, okI pg mX8_plays e = true := List.all_eq_true.mp (by decide +kernel)
set_option maxRecDepth 30000 in
theorem oX8_plays : OKM pg mX8_plays := ⟨by decide +kernel, ⟨by decide +kernel, by decide +kernel⟩, by decide +kernel, WL_4 (p := 147) rfl (by decide +kernel), WL_of (p := 36) (by decide +kernel) (by decide +kernel),
  fun _ => ⟨WL_of (p := 892) (by decide +kernel) (by decide +kernel), WL_of (p := 20) (by decide +kernel) (by decide +kernel), ⟨_, rfl, by decide +kernel⟩⟩,
  fun h => absurd h (by decide +kernel),
  fun h => absurd h (by decide +kernel),
  by decide +kernel, iX8_plays⟩
theorem iX8_fault : ∀ e ∈ tX8_fault, okI pg mX8_fault e = true := List.all_eq_true.mp (by decide +kernel)
set_option maxRecDepth 30000 in
theorem oX8_fault : OKM pg mX8_fault := ⟨by decide +kernel, ⟨by decide +kernel, by decide +kernel⟩, by decide +kernel, WL_4 (p := 143) rfl (by decide +kernel), WL_of (p := 36) (by decide +kernel) (by decide +kernel),
  fun _ => ⟨WL_of (p := 887) (by decide +kernel) (by decide +kernel), WL_of (p := 888) (by decide +kernel) (by decide +kernel), ⟨_, rfl, by decide +kernel⟩⟩,
  fun h => absurd h (by decide +kernel),
  fun h => absurd h (by decide +kernel),
  by decide +kernel, iX8_fault⟩
theorem iX8_play : ∀ e ∈ tX8_play, okI pg mX8_play e = true := List.all_eq_true.mp (by decide +kernel)
set_option maxRecDepth 30000 in
theorem oX8_play : OKM pg mX8_play := ⟨by decide +kernel, ⟨by decide +kernel, by decide +kernel⟩, by decide +kernel, WL_4 (p := 174) rfl (by decide +kernel), WL_of (p := 36) (by decide +kernel) (by decide +kernel),
  fun _ => ⟨WL_of (p := 918) (by decide +kernel) (by decide +kernel), WL_of (p := 919) (by decide +kernel) (by decide +kernel), ⟨_, rfl, by decide +kernel⟩⟩,
  fun h => absurd h (by decide +kernel),
  fun h => absurd h (by decide +kernel),
  by decide +kernel, iX8_play⟩
theorem iL_law_0 : ((tL_law.drop 0).take 60).all (okI pg mL_law) = true := by decide +kernel
theorem iL_law_60 : ((tL_law.drop 60).take 60).all (okI pg mL_law) = true := by decide +kernel
theorem iL_law_120 : ((tL_law.drop 120).take 60).all (okI pg mL_law) = true := by decide +kernel
theorem iL_law_180 : ((tL_law.drop 180).take 60).all (okI pg mL_law) = true := by decide +kernel
theorem iL_law_240 : ((tL_law.drop 240).take 60).all (okI pg mL_law) = true := by decide +kernel
theorem iL_law_300 : ((tL_law.drop 300).take 60).all (okI pg mL_law) = true := by decide +kernel
theorem iL_law_360 : ((tL_law.drop 360).take 60).all (okI pg mL_law) = true := by decide +kernel
theorem iL_law_420 : (tL_law.drop 420).all (okI pg mL_law) = true := by decide +kernel
theorem iL_law : ∀ e ∈ tL_law, okI pg mL_law e = true := List.all_eq_true.mp (show (tL_law.drop 0).all (okI pg mL_law) = true from (all_from iL_law_0 (all_from iL_law_60 (all_from iL_law_120 (all_from iL_law_180 (all_from iL_law_240 (all_from iL_law_300 (all_from iL_law_360 iL_law_420))))))))
theorem okall : ∀ (i : Nat) (ce : ME), pg i = some ce → OKM pg ce := by
  intro i ce h
  have h2 : ∀ ce ∈ pgl, OKM pg ce := by
    simp only [pgl, List.forall_mem_cons]
    exact ⟨oX0_init, oX0_bestReply, oX0_bestOpenBid, oX0_gainByOpenBid, oX0_leastGain, oX0_gainOfTrial, oX0_gainInLastRound, oX1_init, oX1_add, oX1_takeLatest, oX2_init, oX2_work, oX2_findWinner, oX2_payment, oX2_sharePot, oX2_coinsBehind, oX3_init, oX3_empty, oX3_copyFrom, oX3_note, oX3_indexOf, oX3_numberOfPair, oX4_init, oX4_empty, oX4_copyFrom, oX4_add, oX4_numberOfRound, oX4_columnOf, oX5_init, oX5_copyFrom, oX5_startGame, oX5_addLot, oX5_makeBid, oX5_changeSetting, oX5_settle, oX5_emptyTable, oX5_hasPlayer, oX5_isOver, oX5_nextStake, oX5_bidCount, oX5_othersHaveBids, oX5_mostCoinsOfOthers, oX5_allCoins, oX5_leader, oX5_canLead, oX5_numberOfPlayer, oX5_valueAt, oX5_number, oX6_init, oX6_append, oX6_numberOfFault, oX6_perform, oX6_call, oX6_readCommand, oX6_readValue, oX6_readBid, oX6_readNumber, oX6_passes, oX6_digitAt, oX6_characterAt, oX7_init, oX7_begin, oX7_lot, oX7_bid, oX7_resolve, oX7_set, oX7_playerOf, oX7_lotOf, oX7_roundOf, oX7_record, oX7_count, oX7_winner, oX7_sure, oX7_reply, oX7_holds, oX7_holding, oX7_chance, oX7_keep, oX7_restore, oX7_undo, oX7_type, oX7_clearText, oX7_fault, oX7_play, oX7_freshDraft, oX7_adopt, oX7_isError, oX8_init, oX8_in, oX8_copies, oX8_changes, oX8_isPlayer, oX8_of, oX8_begins, oX8_begin, oX8_lot, oX8_bids, oX8_bid, oX8_onTable, oX8_greatest, oX8_lays, oX8_pays, oX8_least, oX8_notes, oX8_keeps, oX8_shares, oX8_resolves, oX8_resolve, oX8_set, oX8_playerOf, oX8_lotOf, oX8_roundOf, oX8_record, oX8_coinsAll, oX8_count, oX8_winner, oX8_sure, oX8_reply, oX8_tries, oX8_holdsOne, oX8_holdsTwo, oX8_looks, oX8_holds, oX8_holding, oX8_chance, oX8_keep, oX8_restore, oX8_undo, oX8_type, oX8_clearText, oX8_isAt, oX8_sign, oX8_number, oX8_reads, oX8_calls, oX8_plays, oX8_fault, oX8_play, fun _ h => absurd h List.not_mem_nil⟩
  exact h2 ce (List.mem_of_getElem? h)
set_option maxRecDepth 30000 in
theorem gws : GWs := by
  refine ⟨fun c r h => ?_, ⟨WL_of (p := 37) (by decide +kernel) (by decide +kernel), WL_of (p := 504) (by decide +kernel) (by decide +kernel), WL_2 (p := 239) rfl (by decide +kernel), WL_of (p := 395) (by decide +kernel) (by decide +kernel), WL_2 (p := 130) rfl (by decide +kernel)⟩, ⟨WL_of (p := 103) (by decide +kernel) (by decide +kernel), WL_of (p := 102) (by decide +kernel) (by decide +kernel), WL_of (p := 32) (by decide +kernel) (by decide +kernel)⟩, ⟨WL_of (p := 44) (by decide +kernel) (by decide +kernel), WL_1 (p := 19) rfl (by decide +kernel)⟩, WL_of (p := 75) (by decide +kernel) (by decide +kernel)⟩
  match c, h with
  | 0, h =>
    cases h
    refine ⟨?_, WL_of (p := 272) (by decide +kernel) (by decide +kernel), WL_of (p := 35) (by decide +kernel) (by decide +kernel)⟩
    have e : u_ws RX0 TX0 2 = [u_lay RX0 TX0 0, u_lay RX0 TX0 1] := by decide +kernel
    show ∀ w ∈ u_ws RX0 TX0 2, w ∈ WL
    rw [e]
    simp only [List.forall_mem_cons]
    exact ⟨WL_of (p := 279) (by decide +kernel) (by decide +kernel), WL_of (p := 281) (by decide +kernel) (by decide +kernel), fun _ h => absurd h List.not_mem_nil⟩
  | 1, h =>
    cases h
    refine ⟨?_, WL_of (p := 47) (by decide +kernel) (by decide +kernel), WL_of (p := 28) (by decide +kernel) (by decide +kernel)⟩
    have e : u_ws RX1 TX1 2 = [u_lay RX1 TX1 0, u_lay RX1 TX1 1] := by decide +kernel
    show ∀ w ∈ u_ws RX1 TX1 2, w ∈ WL
    rw [e]
    simp only [List.forall_mem_cons]
    exact ⟨WL_of (p := 191) (by decide +kernel) (by decide +kernel), WL_of (p := 193) (by decide +kernel) (by decide +kernel), fun _ h => absurd h List.not_mem_nil⟩
  | 2, h =>
    cases h
    refine ⟨?_, WL_of (p := 239) (by decide +kernel) (by decide +kernel), WL_of (p := 34) (by decide +kernel) (by decide +kernel)⟩
    have e : u_ws RX2 TX2 6 = [u_lay RX2 TX2 0, u_lay RX2 TX2 1, u_lay RX2 TX2 2, u_lay RX2 TX2 3, u_lay RX2 TX2 4, u_lay RX2 TX2 5] := by decide +kernel
    show ∀ w ∈ u_ws RX2 TX2 6, w ∈ WL
    rw [e]
    simp only [List.forall_mem_cons]
    exact ⟨WL_of (p := 258) (by decide +kernel) (by decide +kernel), WL_of (p := 260) (by decide +kernel) (by decide +kernel), WL_of (p := 262) (by decide +kernel) (by decide +kernel), WL_of (p := 264) (by decide +kernel) (by decide +kernel), WL_of (p := 266) (by decide +kernel) (by decide +kernel), WL_of (p := 268) (by decide +kernel) (by decide +kernel), fun _ h => absurd h List.not_mem_nil⟩
  | 3, h =>
    cases h
    refine ⟨?_, WL_of (p := 77) (by decide +kernel) (by decide +kernel), WL_of (p := 31) (by decide +kernel) (by decide +kernel)⟩
    have e : u_ws RX3 TX3 5 = [u_lay RX3 TX3 0, u_lay RX3 TX3 1, u_lay RX3 TX3 2, u_lay RX3 TX3 3, u_lay RX3 TX3 4] := by decide +kernel
    show ∀ w ∈ u_ws RX3 TX3 5, w ∈ WL
    rw [e]
    simp only [List.forall_mem_cons]
    exact ⟨WL_of (p := 88) (by decide +kernel) (by decide +kernel), WL_of (p := 90) (by decide +kernel) (by decide +kernel), WL_of (p := 92) (by decide +kernel) (by decide +kernel), WL_of (p := 94) (by decide +kernel) (by decide +kernel), WL_of (p := 96) (by decide +kernel) (by decide +kernel), fun _ h => absurd h List.not_mem_nil⟩
  | 4, h =>
    cases h
    refine ⟨?_, WL_of (p := 60) (by decide +kernel) (by decide +kernel), WL_of (p := 30) (by decide +kernel) (by decide +kernel)⟩
    have e : u_ws RX4 TX4 3 = [u_lay RX4 TX4 0, u_lay RX4 TX4 1, u_lay RX4 TX4 2] := by decide +kernel
    show ∀ w ∈ u_ws RX4 TX4 3, w ∈ WL
    rw [e]
    simp only [List.forall_mem_cons]
    exact ⟨WL_of (p := 68) (by decide +kernel) (by decide +kernel), WL_of (p := 70) (by decide +kernel) (by decide +kernel), WL_of (p := 72) (by decide +kernel) (by decide +kernel), fun _ h => absurd h List.not_mem_nil⟩
  | 5, h =>
    cases h
    refine ⟨?_, WL_of (p := 54) (by decide +kernel) (by decide +kernel), WL_of (p := 29) (by decide +kernel) (by decide +kernel)⟩
    have e : u_ws RX5 TX5 17 = [u_lay RX5 TX5 0, u_lay RX5 TX5 1, u_lay RX5 TX5 2, u_lay RX5 TX5 3, u_lay RX5 TX5 4, u_lay RX5 TX5 5, u_lay RX5 TX5 6, u_lay RX5 TX5 7, u_lay RX5 TX5 8, u_lay RX5 TX5 9, u_lay RX5 TX5 10, u_lay RX5 TX5 11, u_lay RX5 TX5 12, u_lay RX5 TX5 13, u_lay RX5 TX5 14, u_lay RX5 TX5 15, u_lay RX5 TX5 16] := by decide +kernel
    show ∀ w ∈ u_ws RX5 TX5 17, w ∈ WL
    rw [e]
    simp only [List.forall_mem_cons]
    exact ⟨WL_of (p := 153) (by decide +kernel) (by decide +kernel), WL_of (p := 155) (by decide +kernel) (by decide +kernel), WL_of (p := 157) (by decide +kernel) (by decide +kernel), WL_of (p := 159) (by decide +kernel) (by decide +kernel), WL_of (p := 161) (by decide +kernel) (by decide +kernel), WL_of (p := 163) (by decide +kernel) (by decide +kernel), WL_of (p := 165) (by decide +kernel) (by decide +kernel), WL_of (p := 167) (by decide +kernel) (by decide +kernel), WL_of (p := 169) (by decide +kernel) (by decide +kernel), WL_of (p := 171) (by decide +kernel) (by decide +kernel), WL_of (p := 173) (by decide +kernel) (by decide +kernel), WL_of (p := 175) (by decide +kernel) (by decide +kernel), WL_of (p := 177) (by decide +kernel) (by decide +kernel), WL_of (p := 179) (by decide +kernel) (by decide +kernel), WL_of (p := 181) (by decide +kernel) (by decide +kernel), WL_of (p := 183) (by decide +kernel) (by decide +kernel), WL_of (p := 185) (by decide +kernel) (by decide +kernel), fun _ h => absurd h List.not_mem_nil⟩
  | 6, h =>
    cases h
    refine ⟨?_, WL_of (p := 199) (by decide +kernel) (by decide +kernel), WL_of (p := 33) (by decide +kernel) (by decide +kernel)⟩
    have e : u_ws RX6 TX6 10 = [u_lay RX6 TX6 0, u_lay RX6 TX6 1, u_lay RX6 TX6 2, u_lay RX6 TX6 3, u_lay RX6 TX6 4, u_lay RX6 TX6 5, u_lay RX6 TX6 6, u_lay RX6 TX6 7, u_lay RX6 TX6 8, u_lay RX6 TX6 9] := by decide +kernel
    show ∀ w ∈ u_ws RX6 TX6 10, w ∈ WL
    rw [e]
    simp only [List.forall_mem_cons]
    exact ⟨WL_of (p := 217) (by decide +kernel) (by decide +kernel), WL_of (p := 219) (by decide +kernel) (by decide +kernel), WL_of (p := 221) (by decide +kernel) (by decide +kernel), WL_of (p := 223) (by decide +kernel) (by decide +kernel), WL_of (p := 225) (by decide +kernel) (by decide +kernel), WL_of (p := 227) (by decide +kernel) (by decide +kernel), WL_of (p := 229) (by decide +kernel) (by decide +kernel), WL_of (p := 231) (by decide +kernel) (by decide +kernel), WL_of (p := 233) (by decide +kernel) (by decide +kernel), WL_of (p := 235) (by decide +kernel) (by decide +kernel), fun _ h => absurd h List.not_mem_nil⟩
  | 7, h =>
    cases h
    refine ⟨?_, WL_of (p := 39) (by decide +kernel) (by decide +kernel), WL_of (p := 27) (by decide +kernel) (by decide +kernel)⟩
    have e : u_ws RX7 TX7 8 = [u_lay RX7 TX7 0, u_lay RX7 TX7 1, u_lay RX7 TX7 2, u_lay RX7 TX7 3, u_lay RX7 TX7 4, u_lay RX7 TX7 5, u_lay RX7 TX7 6, u_lay RX7 TX7 7] := by decide +kernel
    show ∀ w ∈ u_ws RX7 TX7 8, w ∈ WL
    rw [e]
    simp only [List.forall_mem_cons]
    exact ⟨WL_of (p := 292) (by decide +kernel) (by decide +kernel), WL_of (p := 294) (by decide +kernel) (by decide +kernel), WL_of (p := 296) (by decide +kernel) (by decide +kernel), WL_of (p := 298) (by decide +kernel) (by decide +kernel), WL_of (p := 300) (by decide +kernel) (by decide +kernel), WL_of (p := 302) (by decide +kernel) (by decide +kernel), WL_of (p := 304) (by decide +kernel) (by decide +kernel), WL_of (p := 306) (by decide +kernel) (by decide +kernel), fun _ h => absurd h List.not_mem_nil⟩
  | 8, h =>
    cases h
    refine ⟨?_, WL_of (p := 645) (by decide +kernel) (by decide +kernel), WL_of (p := 36) (by decide +kernel) (by decide +kernel)⟩
    have e : u_ws RX8 TX8 22 = [u_lay RX8 TX8 0, u_lay RX8 TX8 1, u_lay RX8 TX8 2, u_lay RX8 TX8 3, u_lay RX8 TX8 4, u_lay RX8 TX8 5, u_lay RX8 TX8 6, u_lay RX8 TX8 7, u_lay RX8 TX8 8, u_lay RX8 TX8 9, u_lay RX8 TX8 10, u_lay RX8 TX8 11, u_lay RX8 TX8 12, u_lay RX8 TX8 13, u_lay RX8 TX8 14, u_lay RX8 TX8 15, u_lay RX8 TX8 16, u_lay RX8 TX8 17, u_lay RX8 TX8 18, u_lay RX8 TX8 19, u_lay RX8 TX8 20, u_lay RX8 TX8 21] := by decide +kernel
    show ∀ w ∈ u_ws RX8 TX8 22, w ∈ WL
    rw [e]
    simp only [List.forall_mem_cons]
    exact ⟨WL_of (p := 679) (by decide +kernel) (by decide +kernel), WL_of (p := 681) (by decide +kernel) (by decide +kernel), WL_of (p := 683) (by decide +kernel) (by decide +kernel), WL_of (p := 685) (by decide +kernel) (by decide +kernel), WL_of (p := 687) (by decide +kernel) (by decide +kernel), WL_of (p := 689) (by decide +kernel) (by decide +kernel), WL_of (p := 691) (by decide +kernel) (by decide +kernel), WL_of (p := 693) (by decide +kernel) (by decide +kernel), WL_of (p := 695) (by decide +kernel) (by decide +kernel), WL_of (p := 697) (by decide +kernel) (by decide +kernel), WL_of (p := 699) (by decide +kernel) (by decide +kernel), WL_of (p := 701) (by decide +kernel) (by decide +kernel), WL_of (p := 703) (by decide +kernel) (by decide +kernel), WL_of (p := 705) (by decide +kernel) (by decide +kernel), WL_of (p := 707) (by decide +kernel) (by decide +kernel), WL_of (p := 709) (by decide +kernel) (by decide +kernel), WL_of (p := 711) (by decide +kernel) (by decide +kernel), WL_of (p := 713) (by decide +kernel) (by decide +kernel), WL_of (p := 715) (by decide +kernel) (by decide +kernel), WL_of (p := 717) (by decide +kernel) (by decide +kernel), WL_of (p := 719) (by decide +kernel) (by decide +kernel), WL_of (p := 721) (by decide +kernel) (by decide +kernel), fun _ h => absurd h List.not_mem_nil⟩
  | c + 9, h => simp [vwCl] at h
end
section
/-! THE CLAIM OUT OF ONE WALK OF THE LAW'S BODY. Your part is whole_start (and what it stands on); all else here is the same for every law, but numbers. -/
def R_law : String := "HiddenBidsLaw"
def lw_P (b : Addr) (xs : List Int32) (args : Array Value) (s : State) : Prop := args = #[.ref b] ∧ s.IntsAt b xs ∧ xs.length ≤ 1536 ∧ (Jvm.Cond.and given_1 narrow_1).before args s = true
def lw_Q (_ : Array Value) (s : State) (o : Outcome) (t : State) : Prop := o = .returned (some (.int 1)) ∧ Framed s o t [] 600000 7302250
def lw_Z (below : List Frame) (a : Array Value) (s : State) : State → Prop := fun t => ∃ o, t.status = .running ∧ Ended t below o ∧ lw_Q a s o t
/-- the law's own end, with 1 on the stack, nothing written that was there before, its room as the claim has it -/
theorem lw_ret {p : Program} {l : Launch} {e : Env} {s : State} {m : MethodId} {below : List Frame} {meth : Method} {c : Code} {b : Nat} (hx : p.tables.exec = Jvm.exec) (hb : c.code = code) (hr : meth.sig.returnType = ret) (hlocks : meth.locks = false) {pc : Nat} {H : Heap} {ls : Array Slot} (hdg : decode code pc = .ok (.ireturn, 1)) : W p l e room_1 s m #[Value.ref b] below meth c H [] 600000 7302250 (lw_Z below #[Value.ref b] s) (F0 m pc ls [.int 1]) := by
  intro T hT X
  obtain ⟨fs, hret, hrun, hended, hW, hframe⟩ := X.leave (v := some (.int 1)) (hlocks := hlocks) (fun h => by rw [hr] at h; cases h)
  have hmeth' : T.vm.method? m = some meth := X.method'
  refine ⟨T.setFrames fs, ?_, .returned (some (.int 1)), hrun, hended, rfl, ⟨_, rfl⟩, hW, hframe⟩
  jvm_step X.here [X.here.top, hx, hb, hdg, hmeth', hr, ret, narrow_b1]
  (try refine ⟨rfl, ?_⟩); (try refine ⟨rfl, ?_⟩)
  first | (intro acts; rw [hret _ acts rfl rfl rfl]) | rw [hret _ _ rfl rfl rfl]
  exact Steps.refl _
/-- what holds at the law's entry: the machine, the code, the tables' words (any of lw_tbl by 'hts w (by decide +kernel)'), the script of L ints xs at the cell b, what the Statement gives of the start (any of its parts by flat_of_before) -/
def lw_At (p : Program) (s : State) (m : MethodId) (meth : Method) (c : Code) (b L : Nat) (xs : Nat → Int32) : Prop :=
  p.tables.exec = Jvm.exec ∧ c.code = code ∧ meth.sig.returnType = ret ∧ c.maxLocals = 4 ∧ s.vm.findClass R_law = some m.cls ∧ (∀ w ∈ lw_tbl, w.before #[Value.ref b] s = true) ∧ va_X b L xs s s.heap ∧ b < s.heap.size ∧ meth.locks = false ∧ (Jvm.Cond.and given_1 narrow_1).before #[Value.ref b] s = true

/-- the rows that are there before: the script, the two constant rows -/
def F1r (j : Int) : Int := if j = 0 then 1 else if j = 1 then 0 else if j = 2 then 1 else 0
def F2r (j : Int) : Int := if j = 0 then 5 else if j = 1 then 5 else if j = 2 then 1 else 0
def F00 (xf : Int → Int) : FM := fun k j => match k with
  | 0 => xf j
  | 1 => F1r j
  | 2 => F2r j
  | _ => 0
def kd0 (L : Nat) : KL := [(0, L), (0, 3), (0, 3)]
/-- what is left to show of the system: a pure statement about the interpreter -/
def PURE : Prop := ∀ (L : Nat) (xf : Int → Int), L ≤ 1536 → (∀ j, inb (xf j)) → ∃ (f : Nat) (rs : RS), go pg 10 (lvl pg 10 f) mL_law f 0 (L0 [.inr (some 0)] 4) [] (kd0 L) (F00 xf) (fun _ _ => none) = some rs ∧ rs.1 = some (.inl 1) ∧ rs.2.1.length - 3 ≤ 600000 ∧ ksz rs.2.1 - (L + 6) ≤ 7302250
theorem u_ex {s : State} {args : Array Value} (hts : ∀ w ∈ lw_tbl, w.before args s = true) (c : Nat) : ∃ q : ClassId × (Nat → Nat), ∀ r, vwCl[c]? = some r → u_Kn s r.1 r.2.1 r.2.2 q.1 q.2 := by
  cases h : vwCl[c]? with
  | none => exact ⟨(0, fun _ => 0), fun r hr => by cases hr⟩
  | some r =>
    obtain ⟨h1, h2, -⟩ := gws.1 c r h
    obtain ⟨cC, iS, hK⟩ := u_known (C := r.1) (T := r.2.1) (N := r.2.2) (n := r.2.2) hts (fun w hw => WL_lw (h1 w hw)) (hts _ (WL_lw h2))
    exact ⟨(cC, iS), fun r' hr' => by cases hr'; exact hK⟩
set_option maxRecDepth 20000 in
theorem st_row {args : Array Value} {s : State} {A : Nat → Prop} {nm : String} {f : Int → Int} (hl : (Jvm.Cond.laysStatic "HiddenBids" nm "[I").before args s = true) (hini : (Jvm.Cond.initialized "HiddenBids").before args s = true) (harr : (Jvm.Cond.arrayOf (.static "HiddenBids" nm "[I") .int).before args s = true) (hlen : (Jvm.Cond.eq (.length (.static "HiddenBids" nm "[I")) (.int 3)).before args s = true) (h0 : (Jvm.Cond.eq (.elem (.static "HiddenBids" nm "[I") (.int 0)) (.int (i32 (f 0)))).before args s = true) (h1 : (Jvm.Cond.eq (.elem (.static "HiddenBids" nm "[I") (.int 1)) (.int (i32 (f 1)))).before args s = true) (h2 : (Jvm.Cond.eq (.elem (.static "HiddenBids" nm "[I") (.int 2)) (.int (i32 (f 2)))).before args s = true) (hA : ∀ a : Nat, a < s.heap.size → ¬ A a) :
    ∃ t : Nat, va_Z "HiddenBids" nm "[I" (.ref t) A s s.heap ∧ va_T .int t 3 (fun j => .int (i32 (f (j : Int)))) A s s.heap := by
  obtain ⟨t, e1, e2⟩ := va_Tof (N := 3) (f := fun j => .int (i32 (f (j : Int)))) (A := A) (by decide) harr (va_eqt hlen) (fun j hj => by
    match j, hj with
    | 0, _ => exact va_eqt h0
    | 1, _ => exact va_eqt h1
    | 2, _ => exact va_eqt h2) hA
  exact ⟨t, va_Zref hl hini e1 hA, e2⟩
set_option maxRecDepth 20000 in
set_option maxHeartbeats 1000000 in
theorem whole_of (hpure : PURE) {p : Program} {e : Env} {s : State} {m : MethodId} {below : List Frame} {meth : Method} {c : Code} (l : Launch) {b L : Nat} {xs : Nat → Int32} (hL : L ≤ 1536) (C0 : lw_At p s m meth c b L xs) : W p l e room_1 s m #[Value.ref b] below meth c s.heap [] 0 0 (lw_Z below #[Value.ref b] s) (entryFrame m ([Value.ref b] : List Value).toArray 4) := by
  obtain ⟨hx, hb, hr, hml, hown, hts, hX, hbl, hlocks, hgv⟩ := C0
  have hg := flat_of_before _ hgv
  obtain ⟨f, rs, hgo, hr1, hr2, hr3⟩ := hpure L (fun j => (xs j.toNat).toInt) hL (fun j => inb_toInt _)
  obtain ⟨cI, kI', compI, a1, a2, a3⟩ := Cond.arrayClass_spec (hts _ (WL_lw gws.2.2.2.2))
  obtain ⟨compR, cR, kR, b1, -, b2, b3, b4⟩ := Cond.arrayOver_spec (hts (.arrayOver (.object RX5)) (List.mem_of_getElem? (i := 53) (by decide +kernel)))
  have hAn : ∀ a : Nat, a < s.heap.size → ¬ (fun q => s.heap.size ≤ q) a := fun a h h2 => absurd h (Nat.not_lt.mpr h2)
  obtain ⟨t1, z1, r1⟩ := st_row (nm := "FIRST_SETTINGS") (f := F1r) (A := fun q => s.heap.size ≤ q) (hts _ (List.mem_of_getElem? (i := 100) (by decide +kernel))) (hts _ (List.mem_of_getElem? (i := 27) (by decide +kernel))) (hg _ (by decide +kernel)) (hg _ (by decide +kernel)) (hg _ (by decide +kernel)) (hg _ (by decide +kernel)) (hg _ (by decide +kernel)) hAn
  obtain ⟨t2, z2, r2⟩ := st_row (nm := "GREATEST_SETTINGS") (f := F2r) (A := fun q => s.heap.size ≤ q) (hts _ (List.mem_of_getElem? (i := 435) (by decide +kernel))) (hts _ (List.mem_of_getElem? (i := 27) (by decide +kernel))) (hg _ (by decide +kernel)) (hg _ (by decide +kernel)) (hg _ (by decide +kernel)) (hg _ (by decide +kernel)) (hg _ (by decide +kernel)) hAn
  let K : KX := (s.heap.size, (fun k => if k = 0 then b else if k = 1 then t1 else t2), (fun c => (Classical.choose (u_ex hts c)).1), (fun c => (Classical.choose (u_ex hts c)).2), cI, cR, s.heap, (fun k => if k = 0 then L else 3), F00 (fun j => (xs j.toNat).toInt))
  have hTF : TF K s := by
    refine ⟨rfl, ⟨fun c q hq => Classical.choose_spec (u_ex hts c) q hq, fun k q hq => ?_⟩, ?_, hts (.arrayOver (.object RX5)) (List.mem_of_getElem? (i := 53) (by decide +kernel)), fun k hk => ?_, z1, z2⟩
    · match k, hq with
      | 0, hq =>
        cases hq
        exact ⟨fun n z => ⟨fun k h => (by cases h), kI', a2, compI, a3⟩, a1⟩
      | 1, hq =>
        cases hq
        exact ⟨fun n z => ⟨fun k h => (by cases h), kR, b2, compR, b3⟩, kR, compR, b2, b3, b1, b4⟩
      | k + 2, hq => simp at hq
    · have hn : ∀ w ∈ NWs, w ∈ lw_tbl := by
        simp only [NWs, List.forall_mem_cons]
        exact ⟨List.mem_of_getElem? (i := 61) (by decide +kernel), List.mem_of_getElem? (i := 78) (by decide +kernel), List.mem_of_getElem? (i := 200) (by decide +kernel), List.mem_of_getElem? (i := 240) (by decide +kernel), List.mem_of_getElem? (i := 634) (by decide +kernel), List.mem_of_getElem? (i := 99) (by decide +kernel), List.mem_of_getElem? (i := 434) (by decide +kernel), fun _ h => absurd h List.not_mem_nil⟩
      exact fun w hw => va_Nw.of (NWs_tab w hw) (hts w (hn w hw))
    · match k, hk with
      | 0, _ =>
        obtain ⟨scr, h1, h2, h3, h4, h5⟩ := hX
        refine ⟨scr, h1, h2, h3, by show L ≤ _; omega, by show scr.slots.size.toInt32 = Int32.ofNat L; rw [h4], fun j hj => ?_, hAn b hbl⟩
        have hj : j < L := hj
        show _ = some (Value.int (i32 (xs ((j : Int).toNat)).toInt))
        rw [i32_of, Int.toNat_natCast]
        exact h5 j hj
      | 1, _ => exact r1
      | 2, _ => exact r2
  have fx : Fx (p, l, e, room_1, s, m, #[Value.ref b], below, meth, c) K 10 mL_law :=
    ⟨hx, hb, hml, hown, fun w hw => hts w (WL_lw hw), hTF, fun h => absurd h (by decide +kernel), (by show 10 ≤ room_1.frames; decide), (by show 390 ≤ room_1.locals; decide)⟩
  have hWI : WI K (kd0 L) (F00 (fun j => (xs j.toNat).toInt)) (fun _ _ => none) s.heap := by
    refine ⟨Nat.le_refl 3, rfl, fun _ _ => rfl, fun k e' h3 hk => ?_, fun k hk => ?_⟩
    · have := (List.getElem?_eq_some_iff.mp hk).1
      simp [kd0] at this
      omega
    · match k, hk with
      | 0, _ => exact ⟨rfl, rfl⟩
      | 1, _ => exact ⟨rfl, rfl⟩
      | 2, _ => exact ⟨rfl, rfl⟩
  have hak : AK mL_law (L0 [.inr (some 0)] 4) [] (F00 (fun j => (xs j.toNat).toInt)) := by
    refine ⟨rfl, fun v hv => absurd hv List.not_mem_nil, fun i v hi => ?_, fun k j => ?_⟩
    · have h := List.mem_of_getElem? (L0_get hi)
      rw [List.mem_singleton] at h
      rw [h]
      trivial
    · unfold F00
      split
      · exact inb_toInt _
      · unfold F1r; split <;> (try split) <;> (try split) <;> (unfold inb; omega)
      · unfold F2r; split <;> (try split) <;> (try split) <;> (unfold inb; omega)
      · exact inb_0
  have key := (go_sound (me := mL_law) gws okall iL_law (lvl_sound gws okall f 10) f 0 _ _ _ _ _ _ hgo hak).2 _ K (lw_Z below #[Value.ref b] s) 3 (L + 6) fx (Nat.le_refl 3) (by simp [ksz, kd0]) ⟨hr2, hr3⟩ ?_ _ _ [] (LI_entry (as := [.inr (some 0)]) (n := 4) (by decide)) hWI (fun q hq => absurd hq List.not_mem_nil)
  · rw [show (kd0 L).length - 3 = 0 from rfl, show ksz (kd0 L) - (L + 6) = 0 by simp [ksz, kd0]] at key
    rw [lg_entry_eq]
    exact key
  · intro pc ins S ls H locs hd hf hfin _ hXI
    rw [hr1] at hfin
    unfold fin at hfin
    split at hfin
    · split at hfin
      · next v =>
        split at hfin
        · have hv : v = 1 := by cases hfin; rfl
          subst hv
          refine va_forget (fun q hq => hXI q hq) ?_
          refine W.widen (k := 600000) (n := 7302250) hr2 hr3 ?_
          exact lw_ret hx hb hr hlocks hd
        · cases hfin
      · cases hfin
    · split at hfin
      · split at hfin <;> cases hfin
      · cases hfin
    · split at hfin
      · split at hfin <;> cases hfin
      · cases hfin
    · cases hfin
end
section
/-! RUNS of the interpreter, backwards: Rn (from a place within a method), Sp (a whole call) -/
def Rn (d : Nat) (me : ME) (pc : Nat) (L : LV) (S : List AV) (kd : KL) (F : FM) (P : PM) (Q : RS → Prop) : Prop :=
  ∃ rs, Q rs ∧ ∃ N, ∀ n c, N ≤ n → N ≤ c → go pg d (lvl pg d c) me n pc L S kd F P = some rs
def Sp (d i : Nat) (as : List AV) (kd : KL) (F : FM) (P : PM) (Q : RS → Prop) : Prop :=
  ∃ rs, Q rs ∧ ∃ N, ∀ c, N ≤ c → lvl pg d c i as kd F P = some rs
section RULES
variable {d : Nat} {me : ME} {pc : Nat} {L : LV} {S : List AV} {kd : KL} {F : FM} {P : PM} {Q : RS → Prop} {ri : RI}
theorem Rn.mono {Q' : RS → Prop} (h : Rn d me pc L S kd F P Q) (hq : ∀ rs, Q rs → Q' rs) : Rn d me pc L S kd F P Q' := by
  obtain ⟨rs, h1, h2⟩ := h
  exact ⟨rs, hq rs h1, h2⟩
theorem Sp.mono {i : Nat} {as : List AV} {Q' : RS → Prop} (h : Sp d i as kd F P Q) (hq : ∀ rs, Q rs → Q' rs) : Sp d i as kd F P Q' := by
  obtain ⟨rs, h1, h2⟩ := h
  exact ⟨rs, hq rs h1, h2⟩
theorem R_stp {ins : Instr} {len pc' : Nat} {L' : LV} {S' : List AV} {kd' : KL} {F' : FM} {P' : PM} (h : ftc pc (me_ci me) = some (pc, ins, len, ri)) (hf : isFin ins = false) (hc : cal ri ins = none) (hs : stp d pc len ri ins L S kd F P = some (pc', L', S', kd', F', P')) (k : Rn d me pc' L' S' kd' F' P' Q) : Rn d me pc L S kd F P Q := by
  obtain ⟨rs, hq, N, hN⟩ := k
  refine ⟨rs, hq, N + 1, fun n c hn hc' => ?_⟩
  obtain ⟨n, rfl⟩ : ∃ m, n = m + 1 := ⟨n - 1, by omega⟩
  unfold go
  rw [h]
  dsimp only
  rw [hf, hc]
  dsimp only
  rw [hs]
  exact hN n c (by omega) (by omega)
theorem R_fin {ins : Instr} {len : Nat} {r : Option AV} (h : ftc pc (me_ci me) = some (pc, ins, len, ri)) (hf : isFin ins = true) (hr : fin (me_rt me) ins S = some r) (hq : Q (r, kd, F, P)) : Rn d me pc L S kd F P Q := by
  refine ⟨_, hq, 1, fun n c hn hc' => ?_⟩
  obtain ⟨n, rfl⟩ : ∃ m, n = m + 1 := ⟨n - 1, by omega⟩
  unfold go
  rw [h]
  dsimp only
  rw [if_pos hf, hr]
theorem R_call {ins : Instr} {len i : Nat} {ce : ME} {as S' : List AV} {Qc : RS → Prop} (h : ftc pc (me_ci me) = some (pc, ins, len, ri)) (hf : isFin ins = false) (hc : cal ri ins = some i) (hp : pg i = some ce) (hs : spl (nar ce) S = some (as, S')) (hb : S'.length ≤ 8 ∧ rcv ce kd as = true) (hS : Sp d i as kd F P Qc) (k : ∀ (r : Option AV) (kd1 : KL) (F1 : FM) (P1 : PM), Qc (r, kd1, F1, P1) → Rn d me (pc + 3) L (psh r S') kd1 F1 P1 Q) : Rn d me pc L S kd F P Q := by
  obtain ⟨⟨r, kd1, F1, P1⟩, hq, N, hN⟩ := hS
  obtain ⟨rs, hq2, N2, hN2⟩ := k r kd1 F1 P1 hq
  refine ⟨rs, hq2, N + N2 + 1, fun n c hn hc' => ?_⟩
  obtain ⟨n, rfl⟩ : ∃ m, n = m + 1 := ⟨n - 1, by omega⟩
  unfold go
  rw [h]
  dsimp only
  rw [hf, hc]
  dsimp only
  rw [hp]
  dsimp only
  rw [hs]
  dsimp only
  rw [if_pos hb, hN c (by omega)]
  exact hN2 n c (by omega) (by omega)
theorem Sp_of {i : Nat} {as : List AV} (hd : 1 ≤ d) (hp : pg i = some me) (hl : as.length = nar me ∧ as.length ≤ me_ml me) (k : Rn (d - 1) me 0 (as.map some ++ List.replicate (me_ml me - as.length) none) [] kd F P Q) : Sp d i as kd F P Q := by
  obtain ⟨d, rfl⟩ : ∃ e, d = e + 1 := ⟨d - 1, by omega⟩
  rw [Nat.add_sub_cancel] at k
  obtain ⟨rs, hq, N, hN⟩ := k
  refine ⟨rs, hq, N, fun c hc => ?_⟩
  unfold lvl
  rw [hp]
  dsimp only
  rw [if_pos hl]
  exact hN c c hc hc
theorem R_iconst {n : Int} (h : ftc pc (me_ci me) = some (pc, .iconst n, 1, ri)) (k : Rn d me (pc + 1) L (.inl n :: S) kd F P Q) : Rn d me pc L S kd F P Q := R_stp h rfl rfl rfl k
theorem R_bipush {n : Int} (h : ftc pc (me_ci me) = some (pc, .bipush n, 2, ri)) (k : Rn d me (pc + 2) L (.inl n :: S) kd F P Q) : Rn d me pc L S kd F P Q := R_stp h rfl rfl rfl k
theorem R_sipush {n : Int} (h : ftc pc (me_ci me) = some (pc, .sipush n, 3, ri)) (k : Rn d me (pc + 3) L (.inl n :: S) kd F P Q) : Rn d me pc L S kd F P Q := R_stp h rfl rfl rfl k
theorem R_ldc {n a b : Nat} {v : Int} {i : Nat} (h : ftc pc (me_ci me) = some (pc, .ldc i, 2, (n, a, b, v))) (k : Rn d me (pc + 2) L (.inl v :: S) kd F P Q) : Rn d me pc L S kd F P Q := R_stp h rfl rfl rfl k
theorem R_iload {i : Nat} {v : AV} (h : ftc pc (me_ci me) = some (pc, .iload i, 2, ri)) (hl : ldI L i = some v) (k : Rn d me (pc + 2) L (v :: S) kd F P Q) : Rn d me pc L S kd F P Q := R_stp h rfl rfl (by show s_load _ _ (ldI L i) _ _ _ _ _ = _; rw [hl]; rfl) k
theorem R_iload_n {i : Fin 4} {v : AV} (h : ftc pc (me_ci me) = some (pc, .iload_n i, 1, ri)) (hl : ldI L i.val = some v) (k : Rn d me (pc + 1) L (v :: S) kd F P Q) : Rn d me pc L S kd F P Q := R_stp h rfl rfl (by show s_load _ _ (ldI L i.val) _ _ _ _ _ = _; rw [hl]; rfl) k
theorem R_aload {i : Nat} {v : AV} (h : ftc pc (me_ci me) = some (pc, .aload i, 2, ri)) (hl : ldA L i = some v) (k : Rn d me (pc + 2) L (v :: S) kd F P Q) : Rn d me pc L S kd F P Q := R_stp h rfl rfl (by show s_load _ _ (ldA L i) _ _ _ _ _ = _; rw [hl]; rfl) k
theorem R_aload_n {i : Fin 4} {v : AV} (h : ftc pc (me_ci me) = some (pc, .aload_n i, 1, ri)) (hl : ldA L i.val = some v) (k : Rn d me (pc + 1) L (v :: S) kd F P Q) : Rn d me pc L S kd F P Q := R_stp h rfl rfl (by show s_load _ _ (ldA L i.val) _ _ _ _ _ = _; rw [hl]; rfl) k
theorem R_istore {i : Nat} {v : Int} (h : ftc pc (me_ci me) = some (pc, .istore i, 2, ri)) (hi : Nat.blt i L.length = true) (k : Rn d me (pc + 2) (L.set i (some (.inl v))) S kd F P Q) : Rn d me pc L (.inl v :: S) kd F P Q := R_stp h rfl rfl (by show (if i < L.length then _ else _) = _; rw [if_pos (Nat.blt_eq.mp hi)]) k
theorem R_istore_n {i : Fin 4} {v : Int} (h : ftc pc (me_ci me) = some (pc, .istore_n i, 1, ri)) (hi : Nat.blt i.val L.length = true) (k : Rn d me (pc + 1) (L.set i.val (some (.inl v))) S kd F P Q) : Rn d me pc L (.inl v :: S) kd F P Q := R_stp h rfl rfl (by show (if i.val < L.length then _ else _) = _; rw [if_pos (Nat.blt_eq.mp hi)]) k
theorem R_astore {i v : Nat} (h : ftc pc (me_ci me) = some (pc, .astore i, 2, ri)) (hi : Nat.blt i L.length = true) (k : Rn d me (pc + 2) (L.set i (some (.inr (some v)))) S kd F P Q) : Rn d me pc L (.inr (some v) :: S) kd F P Q := R_stp h rfl rfl (by show (if i < L.length then _ else _) = _; rw [if_pos (Nat.blt_eq.mp hi)]) k
theorem R_astore_n {i : Fin 4} {v : Nat} (h : ftc pc (me_ci me) = some (pc, .astore_n i, 1, ri)) (hi : Nat.blt i.val L.length = true) (k : Rn d me (pc + 1) (L.set i.val (some (.inr (some v)))) S kd F P Q) : Rn d me pc L (.inr (some v) :: S) kd F P Q := R_stp h rfl rfl (by show (if i.val < L.length then _ else _) = _; rw [if_pos (Nat.blt_eq.mp hi)]) k
theorem R_iincV {i : Nat} {n x v : Int} (h : ftc pc (me_ci me) = some (pc, .iinc i n, 3, ri)) (hl : L[i]? = some (some (.inl x))) (hv : wr (x + n) = v) (k : Rn d me (pc + 3) (L.set i (some (.inl v))) S kd F P Q) : Rn d me pc L S kd F P Q := R_stp h rfl rfl (by show s_iinc _ _ _ _ _ _ _ _ _ = _; unfold s_iinc; rw [hl]) (by subst hv; exact k)
theorem R_iinc {i : Nat} {n x : Int} (h : ftc pc (me_ci me) = some (pc, .iinc i n, 3, ri)) (hl : L[i]? = some (some (.inl x))) (hb : -2147483648 ≤ x + n ∧ x + n < 2147483648) (k : Rn d me (pc + 3) (L.set i (some (.inl (x + n)))) S kd F P Q) : Rn d me pc L S kd F P Q := R_iincV h hl (wr_id hb) k
theorem R_iaddV {x y v : Int} (h : ftc pc (me_ci me) = some (pc, .iadd, 1, ri)) (hv : wr (x + y) = v) (k : Rn d me (pc + 1) L (.inl v :: S) kd F P Q) : Rn d me pc L (.inl y :: .inl x :: S) kd F P Q := by subst hv; exact R_stp h rfl rfl rfl k
theorem R_iadd {x y : Int} (h : ftc pc (me_ci me) = some (pc, .iadd, 1, ri)) (hb : -2147483648 ≤ x + y ∧ x + y < 2147483648) (k : Rn d me (pc + 1) L (.inl (x + y) :: S) kd F P Q) : Rn d me pc L (.inl y :: .inl x :: S) kd F P Q := R_iaddV h (wr_id hb) k
theorem R_isubV {x y v : Int} (h : ftc pc (me_ci me) = some (pc, .isub, 1, ri)) (hv : wr (x - y) = v) (k : Rn d me (pc + 1) L (.inl v :: S) kd F P Q) : Rn d me pc L (.inl y :: .inl x :: S) kd F P Q := by subst hv; exact R_stp h rfl rfl rfl k
theorem R_isub {x y : Int} (h : ftc pc (me_ci me) = some (pc, .isub, 1, ri)) (hb : -2147483648 ≤ x - y ∧ x - y < 2147483648) (k : Rn d me (pc + 1) L (.inl (x - y) :: S) kd F P Q) : Rn d me pc L (.inl y :: .inl x :: S) kd F P Q := R_isubV h (wr_id hb) k
theorem R_imulV {x y v : Int} (h : ftc pc (me_ci me) = some (pc, .imul, 1, ri)) (hv : wr (x * y) = v) (k : Rn d me (pc + 1) L (.inl v :: S) kd F P Q) : Rn d me pc L (.inl y :: .inl x :: S) kd F P Q := by subst hv; exact R_stp h rfl rfl rfl k
theorem R_imul {x y : Int} (h : ftc pc (me_ci me) = some (pc, .imul, 1, ri)) (hb : -2147483648 ≤ x * y ∧ x * y < 2147483648) (k : Rn d me (pc + 1) L (.inl (x * y) :: S) kd F P Q) : Rn d me pc L (.inl y :: .inl x :: S) kd F P Q := R_imulV h (wr_id hb) k
theorem R_iand {x y : Int} (h : ftc pc (me_ci me) = some (pc, .iand, 1, ri)) (k : Rn d me (pc + 1) L (.inl (i32 x &&& i32 y).toInt :: S) kd F P Q) : Rn d me pc L (.inl y :: .inl x :: S) kd F P Q := R_stp h rfl rfl rfl k
theorem R_idivV {x y v : Int} (h : ftc pc (me_ci me) = some (pc, .idiv, 1, ri)) (h0 : y ≠ 0) (hv : wr (Int.tdiv x y) = v) (k : Rn d me (pc + 1) L (.inl v :: S) kd F P Q) : Rn d me pc L (.inl y :: .inl x :: S) kd F P Q := by subst hv; exact R_stp h rfl rfl (by show (if y = 0 then _ else _) = _; rw [if_neg h0]) k
theorem R_iremV {x y v : Int} (h : ftc pc (me_ci me) = some (pc, .irem, 1, ri)) (h0 : y ≠ 0) (hv : wr (x - Int.tdiv x y * y) = v) (k : Rn d me (pc + 1) L (.inl v :: S) kd F P Q) : Rn d me pc L (.inl y :: .inl x :: S) kd F P Q := by subst hv; exact R_stp h rfl rfl (by show (if y = 0 then _ else _) = _; rw [if_neg h0]) k
theorem R_ineg {x : Int} (h : ftc pc (me_ci me) = some (pc, .ineg, 1, ri)) (hb : -2147483648 ≤ -x ∧ -x < 2147483648) (k : Rn d me (pc + 1) L (.inl (-x) :: S) kd F P Q) : Rn d me pc L (.inl x :: S) kd F P Q := R_stp h rfl rfl (by unfold stp; dsimp only; unfold s_neg; dsimp only; rw [wr_id hb]) k
theorem R_dup {v : AV} (h : ftc pc (me_ci me) = some (pc, .dup, 1, ri)) (k : Rn d me (pc + 1) L (v :: v :: S) kd F P Q) : Rn d me pc L (v :: S) kd F P Q := R_stp h rfl rfl rfl k
theorem R_dup2 {v w : AV} (h : ftc pc (me_ci me) = some (pc, .dup2, 1, ri)) (k : Rn d me (pc + 1) L (v :: w :: v :: w :: S) kd F P Q) : Rn d me pc L (v :: w :: S) kd F P Q := R_stp h rfl rfl rfl k
theorem R_pop {v : AV} (h : ftc pc (me_ci me) = some (pc, .pop, 1, ri)) (k : Rn d me (pc + 1) L S kd F P Q) : Rn d me pc L (v :: S) kd F P Q := R_stp h rfl rfl rfl k
theorem R_goto {off : Int} {t : Nat} (h : ftc pc (me_ci me) = some (pc, .goto off, 3, ri)) (ht : brn pc off = some t) (k : Rn d me t L S kd F P Q) : Rn d me pc L S kd F P Q := R_stp h rfl rfl (by show s_goto (brn pc off) _ _ _ _ _ = _; rw [ht]; rfl) k
theorem R_icmp {c : Jvm.ClassFile.Cond} {off : Int} {t : Nat} {x y : Int} (h : ftc pc (me_ci me) = some (pc, .if_icmp c off, 3, ri)) (ht : brn pc off = some t) (kt : cmpc c x y = true → Rn d me t L S kd F P Q) (kf : cmpc c x y = false → Rn d me (pc + 3) L S kd F P Q) : Rn d me pc L (.inl y :: .inl x :: S) kd F P Q := by
  refine R_stp (pc' := if cmpc c x y = true then t else pc + 3) (L' := L) (S' := S) (kd' := kd) (F' := F) (P' := P) h rfl rfl (by show s_icmp _ _ (brn pc off) _ _ _ _ _ = _; rw [ht]; rfl) ?_
  cases hc : cmpc c x y
  · exact kf hc
  · exact kt hc
theorem R_ifc {c : Jvm.ClassFile.Cond} {off : Int} {t : Nat} {x : Int} (h : ftc pc (me_ci me) = some (pc, .ifCond c off, 3, ri)) (ht : brn pc off = some t) (kt : cmpc c x 0 = true → Rn d me t L S kd F P Q) (kf : cmpc c x 0 = false → Rn d me (pc + 3) L S kd F P Q) : Rn d me pc L (.inl x :: S) kd F P Q := by
  refine R_stp (pc' := if cmpc c x 0 = true then t else pc + 3) (L' := L) (S' := S) (kd' := kd) (F' := F) (P' := P) h rfl rfl (by show s_ifc _ _ (brn pc off) _ _ _ _ _ = _; rw [ht]; rfl) ?_
  cases hc : cmpc c x 0
  · exact kf hc
  · exact kt hc
theorem R_icmp_eq {off : Int} {t : Nat} {x y : Int} (h : ftc pc (me_ci me) = some (pc, .if_icmp .eq off, 3, ri)) (ht : brn pc off = some t) (kt : x = y → Rn d me t L S kd F P Q) (kf : x ≠ y → Rn d me (pc + 3) L S kd F P Q) : Rn d me pc L (.inl y :: .inl x :: S) kd F P Q := R_icmp h ht (fun q => kt (of_decide_eq_true q)) (fun q => kf (of_decide_eq_false q))
theorem R_icmp_ne {off : Int} {t : Nat} {x y : Int} (h : ftc pc (me_ci me) = some (pc, .if_icmp .ne off, 3, ri)) (ht : brn pc off = some t) (kt : x ≠ y → Rn d me t L S kd F P Q) (kf : x = y → Rn d me (pc + 3) L S kd F P Q) : Rn d me pc L (.inl y :: .inl x :: S) kd F P Q := R_icmp h ht (fun q => kt (of_decide_eq_true q)) (fun q => kf (Decidable.not_not.mp (of_decide_eq_false q)))
theorem R_icmp_lt {off : Int} {t : Nat} {x y : Int} (h : ftc pc (me_ci me) = some (pc, .if_icmp .lt off, 3, ri)) (ht : brn pc off = some t) (kt : x < y → Rn d me t L S kd F P Q) (kf : y ≤ x → Rn d me (pc + 3) L S kd F P Q) : Rn d me pc L (.inl y :: .inl x :: S) kd F P Q := R_icmp h ht (fun q => kt (of_decide_eq_true q)) (fun q => kf (Int.not_lt.mp (of_decide_eq_false q)))
theorem R_icmp_ge {off : Int} {t : Nat} {x y : Int} (h : ftc pc (me_ci me) = some (pc, .if_icmp .ge off, 3, ri)) (ht : brn pc off = some t) (kt : y ≤ x → Rn d me t L S kd F P Q) (kf : x < y → Rn d me (pc + 3) L S kd F P Q) : Rn d me pc L (.inl y :: .inl x :: S) kd F P Q := R_icmp h ht (fun q => kt (of_decide_eq_true q)) (fun q => kf (Int.not_le.mp (of_decide_eq_false q)))
theorem R_icmp_gt {off : Int} {t : Nat} {x y : Int} (h : ftc pc (me_ci me) = some (pc, .if_icmp .gt off, 3, ri)) (ht : brn pc off = some t) (kt : y < x → Rn d me t L S kd F P Q) (kf : x ≤ y → Rn d me (pc + 3) L S kd F P Q) : Rn d me pc L (.inl y :: .inl x :: S) kd F P Q := R_icmp h ht (fun q => kt (of_decide_eq_true q)) (fun q => kf (Int.not_lt.mp (of_decide_eq_false q)))
theorem R_icmp_le {off : Int} {t : Nat} {x y : Int} (h : ftc pc (me_ci me) = some (pc, .if_icmp .le off, 3, ri)) (ht : brn pc off = some t) (kt : x ≤ y → Rn d me t L S kd F P Q) (kf : y < x → Rn d me (pc + 3) L S kd F P Q) : Rn d me pc L (.inl y :: .inl x :: S) kd F P Q := R_icmp h ht (fun q => kt (of_decide_eq_true q)) (fun q => kf (Int.not_le.mp (of_decide_eq_false q)))
theorem R_if_eq {off : Int} {t : Nat} {x : Int} (h : ftc pc (me_ci me) = some (pc, .ifCond .eq off, 3, ri)) (ht : brn pc off = some t) (kt : x = 0 → Rn d me t L S kd F P Q) (kf : x ≠ 0 → Rn d me (pc + 3) L S kd F P Q) : Rn d me pc L (.inl x :: S) kd F P Q := R_ifc h ht (fun q => kt (of_decide_eq_true q)) (fun q => kf (of_decide_eq_false q))
theorem R_if_ne {off : Int} {t : Nat} {x : Int} (h : ftc pc (me_ci me) = some (pc, .ifCond .ne off, 3, ri)) (ht : brn pc off = some t) (kt : x ≠ 0 → Rn d me t L S kd F P Q) (kf : x = 0 → Rn d me (pc + 3) L S kd F P Q) : Rn d me pc L (.inl x :: S) kd F P Q := R_ifc h ht (fun q => kt (of_decide_eq_true q)) (fun q => kf (Decidable.not_not.mp (of_decide_eq_false q)))
theorem R_if_lt {off : Int} {t : Nat} {x : Int} (h : ftc pc (me_ci me) = some (pc, .ifCond .lt off, 3, ri)) (ht : brn pc off = some t) (kt : x < 0 → Rn d me t L S kd F P Q) (kf : 0 ≤ x → Rn d me (pc + 3) L S kd F P Q) : Rn d me pc L (.inl x :: S) kd F P Q := R_ifc h ht (fun q => kt (of_decide_eq_true q)) (fun q => kf (Int.not_lt.mp (of_decide_eq_false q)))
theorem R_if_ge {off : Int} {t : Nat} {x : Int} (h : ftc pc (me_ci me) = some (pc, .ifCond .ge off, 3, ri)) (ht : brn pc off = some t) (kt : 0 ≤ x → Rn d me t L S kd F P Q) (kf : x < 0 → Rn d me (pc + 3) L S kd F P Q) : Rn d me pc L (.inl x :: S) kd F P Q := R_ifc h ht (fun q => kt (of_decide_eq_true q)) (fun q => kf (Int.not_le.mp (of_decide_eq_false q)))
theorem R_if_gt {off : Int} {t : Nat} {x : Int} (h : ftc pc (me_ci me) = some (pc, .ifCond .gt off, 3, ri)) (ht : brn pc off = some t) (kt : 0 < x → Rn d me t L S kd F P Q) (kf : x ≤ 0 → Rn d me (pc + 3) L S kd F P Q) : Rn d me pc L (.inl x :: S) kd F P Q := R_ifc h ht (fun q => kt (of_decide_eq_true q)) (fun q => kf (Int.not_lt.mp (of_decide_eq_false q)))
theorem R_if_le {off : Int} {t : Nat} {x : Int} (h : ftc pc (me_ci me) = some (pc, .ifCond .le off, 3, ri)) (ht : brn pc off = some t) (kt : x ≤ 0 → Rn d me t L S kd F P Q) (kf : 0 < x → Rn d me (pc + 3) L S kd F P Q) : Rn d me pc L (.inl x :: S) kd F P Q := R_ifc h ht (fun q => kt (of_decide_eq_true q)) (fun q => kf (Int.not_le.mp (of_decide_eq_false q)))
theorem R_iaload {k n : Nat} {i : Int} (h : ftc pc (me_ci me) = some (pc, .iaload, 1, ri)) (hk : kd[k]? = some (0, n)) (hb : 0 ≤ i ∧ i < n) (kk : Rn d me (pc + 1) L (.inl (F k i) :: S) kd F P Q) : Rn d me pc L (.inl i :: .inr (some k) :: S) kd F P Q := R_stp h rfl rfl (by unfold stp; dsimp only; unfold s_iald; dsimp only; rw [hk]; exact if_pos hb) kk
theorem R_aaload {k n v : Nat} {i : Int} (h : ftc pc (me_ci me) = some (pc, .aaload, 1, ri)) (hk : kd[k]? = some (1, n)) (h3 : 3 ≤ k) (hb : 0 ≤ i ∧ i < n) (hp : P k i = some v) (kk : Rn d me (pc + 1) L (.inr (some v) :: S) kd F P Q) : Rn d me pc L (.inl i :: .inr (some k) :: S) kd F P Q := R_stp h rfl rfl (by unfold stp; dsimp only; unfold s_aald; dsimp only; rw [hk, hp.symm]; exact if_pos ⟨h3, hb⟩) kk
theorem R_iastore {k n : Nat} {i v : Int} (h : ftc pc (me_ci me) = some (pc, .iastore, 1, ri)) (hk : kd[k]? = some (0, n)) (h3 : 3 ≤ k) (hb : 0 ≤ i ∧ i < n) (kk : Rn d me (pc + 1) L S kd (stt F k i v) P Q) : Rn d me pc L (.inl v :: .inl i :: .inr (some k) :: S) kd F P Q := R_stp h rfl rfl (by unfold stp; dsimp only; unfold s_iast; dsimp only; rw [hk]; exact if_pos ⟨h3, hb⟩) kk
theorem R_aastore {k n v : Nat} {i : Int} (h : ftc pc (me_ci me) = some (pc, .aastore, 1, ri)) (hk : kd[k]? = some (1, n)) (h3 : 3 ≤ k) (hb : 0 ≤ i ∧ i < n) (hv : 3 ≤ v ∧ kd[v]? = some (7, 17)) (kk : Rn d me (pc + 1) L S kd F (stp_ P k i (some v)) Q) : Rn d me pc L (.inr (some v) :: .inl i :: .inr (some k) :: S) kd F P Q := R_stp h rfl rfl (by unfold stp; dsimp only; unfold s_aast; dsimp only; rw [hk]; exact if_pos ⟨h3, hb.1, hb.2, hv.1, hv.2⟩) kk
theorem R_arraylength {k n : Nat} (h : ftc pc (me_ci me) = some (pc, .arraylength, 1, ri)) (hk : kd[k]? = some (0, n)) (hn : n < 2147483648) (kk : Rn d me (pc + 1) L (.inl (n : Int) :: S) kd F P Q) : Rn d me pc L (.inr (some k) :: S) kd F P Q := R_stp h rfl rfl (by unfold stp; dsimp only; unfold s_alen; dsimp only; rw [hk]; exact if_pos hn) kk
theorem R_getI {ci j w n k : Nat} {x : Int} {idx : Nat} (jj : Int) (h : ftc pc (me_ci me) = some (pc, .getfield idx, 3, (ci, j, w, x))) (hk : kd[k]? = some (ci + 2, n)) (h3 : 3 ≤ k) (hj : Nat.blt j n = true) (ht : isN (tyOf ci j) = true) (hjj : (j : Int) = jj) (kk : Rn d me (pc + 3) L (.inl (F k jj) :: S) kd F P Q) : Rn d me pc L (.inr (some k) :: S) kd F P Q := by
  subst hjj
  refine R_stp h rfl rfl (by unfold stp; dsimp only; unfold s_getf; dsimp only; rw [hk]; (try dsimp only); rw [if_pos ⟨rfl, Nat.blt_eq.mp hj, h3⟩, if_pos ht]) kk
theorem R_getP {ci j w n k v : Nat} {x : Int} {idx : Nat} (jj : Int) (h : ftc pc (me_ci me) = some (pc, .getfield idx, 3, (ci, j, w, x))) (hk : kd[k]? = some (ci + 2, n)) (h3 : 3 ≤ k) (hj : Nat.blt j n = true) (ht : isN (tyOf ci j) = false) (hjj : (j : Int) = jj) (hp : P k jj = some v) (kk : Rn d me (pc + 3) L (.inr (some v) :: S) kd F P Q) : Rn d me pc L (.inr (some k) :: S) kd F P Q := by
  subst hjj
  refine R_stp h rfl rfl (by unfold stp; dsimp only; unfold s_getf; dsimp only; rw [hk]; (try dsimp only); rw [if_pos ⟨rfl, Nat.blt_eq.mp hj, h3⟩, if_neg (by rw [ht]; decide), hp]) kk
theorem R_putI {ci j w n k : Nat} {x v : Int} {idx : Nat} (jj : Int) (h : ftc pc (me_ci me) = some (pc, .putfield idx, 3, (ci, j, w, x))) (hk : kd[k]? = some (ci + 2, n)) (h3 : 3 ≤ k) (hj : Nat.blt j n = true) (ht : tyOf ci j = .int) (hjj : (j : Int) = jj) (kk : Rn d me (pc + 3) L S kd (stt F k jj v) P Q) : Rn d me pc L (.inl v :: .inr (some k) :: S) kd F P Q := by
  subst hjj
  refine R_stp h rfl rfl (by unfold stp; dsimp only; unfold s_putf; dsimp only; rw [hk]; (try dsimp only); rw [if_pos ⟨rfl, Nat.blt_eq.mp hj, h3, Or.inl ht⟩]) kk
theorem R_putZ {ci j w n k : Nat} {x v : Int} {idx : Nat} (jj : Int) (h : ftc pc (me_ci me) = some (pc, .putfield idx, 3, (ci, j, w, x))) (hk : kd[k]? = some (ci + 2, n)) (h3 : 3 ≤ k) (hj : Nat.blt j n = true) (ht : tyOf ci j = .boolean) (hjj : (j : Int) = jj) (hv : v = 0 ∨ v = 1) (kk : Rn d me (pc + 3) L S kd (stt F k jj v) P Q) : Rn d me pc L (.inl v :: .inr (some k) :: S) kd F P Q := by
  subst hjj
  refine R_stp h rfl rfl (by unfold stp; dsimp only; unfold s_putf; dsimp only; rw [hk]; (try dsimp only); rw [if_pos ⟨rfl, Nat.blt_eq.mp hj, h3, Or.inr ⟨ht, hv⟩⟩]) kk
theorem R_putP {ci j w n k : Nat} {x : Int} {v : Option Nat} {idx : Nat} (jj : Int) (h : ftc pc (me_ci me) = some (pc, .putfield idx, 3, (ci, j, w, x))) (hk : kd[k]? = some (ci + 2, n)) (h3 : 3 ≤ k) (hj : Nat.blt j n = true) (ht : isN (tyOf ci j) = false) (hjj : (j : Int) = jj) (kk : Rn d me (pc + 3) L S kd F (stp_ P k jj v) Q) : Rn d me pc L (.inr v :: .inr (some k) :: S) kd F P Q := by
  subst hjj
  refine R_stp h rfl rfl (by unfold stp; dsimp only; unfold s_putf; dsimp only; rw [hk]; (try dsimp only); rw [if_pos ⟨rfl, Nat.blt_eq.mp hj, h3, ht⟩]) kk
theorem R_new {ci n w : Nat} {x : Int} {idx : Nat} (h : ftc pc (me_ci me) = some (pc, .new idx, 3, (ci, n, w, x))) (kk : Rn d me (pc + 3) L (.inr (some kd.length) :: S) (kd ++ [(ci + 2, n)]) (clF F kd.length) (clP P kd.length) Q) : Rn d me pc L S kd F P Q := R_stp h rfl rfl rfl kk
theorem R_newarray {n : Int} (h : ftc pc (me_ci me) = some (pc, .newarray .int, 2, ri)) (hb : 0 ≤ n ∧ n ≤ 100000) (kk : Rn d me (pc + 2) L (.inr (some kd.length) :: S) (kd ++ [(0, n.toNat)]) (clF F kd.length) P Q) : Rn d me pc L (.inl n :: S) kd F P Q := R_stp h rfl rfl (by unfold stp; dsimp only; rw [if_pos rfl]; unfold s_newa; dsimp only; rw [if_pos hb]) kk
theorem R_anewarray {n : Int} {idx : Nat} (h : ftc pc (me_ci me) = some (pc, .anewarray idx, 3, ri)) (hb : 0 ≤ n ∧ n ≤ 100000) (kk : Rn d me (pc + 3) L (.inr (some kd.length) :: S) (kd ++ [(1, n.toNat)]) F (clP P kd.length) Q) : Rn d me pc L (.inl n :: S) kd F P Q := R_stp h rfl rfl (by unfold stp; dsimp only; unfold s_anew; dsimp only; rw [if_pos hb]) kk
theorem R_getstatic {i a b : Nat} {x : Int} {idx : Nat} (h : ftc pc (me_ci me) = some (pc, .getstatic idx, 3, (i, a, b, x))) (kk : Rn d me (pc + 3) L (.inr (some i) :: S) kd F P Q) : Rn d me pc L S kd F P Q := R_stp h rfl rfl rfl kk
theorem R_copy {a b : Nat} {x : Int} {idx k0 k1 n0 n1 : Nat} {n sp dp : Int} (h : ftc pc (me_ci me) = some (pc, .invokestatic idx, 3, (a, 2, b, x))) (h2 : 2 ≤ d) (hk0 : kd[k0]? = some (0, n0)) (hk1 : kd[k1]? = some (0, n1)) (h3 : 3 ≤ k1) (hb : 0 ≤ n ∧ 0 ≤ sp ∧ 0 ≤ dp ∧ sp + n ≤ n0 ∧ dp + n ≤ n1) (kk : Rn d me (pc + 3) L [] kd (cpF F k0 sp k1 dp n) P Q) : Rn d me pc L [.inl n, .inl dp, .inr (some k1), .inl sp, .inr (some k0)] kd F P Q := R_stp h rfl rfl (by unfold stp; dsimp only; rw [if_pos rfl]; unfold s_copy; dsimp only; rw [hk0, hk1]; exact if_pos ⟨h2, rfl, h3, hb⟩) kk
theorem R_max {a b : Nat} {w x y : Int} {idx : Nat} (h : ftc pc (me_ci me) = some (pc, .invokestatic idx, 3, (a, 3, b, w))) (h2 : 2 ≤ d) (h4 : Nat.ble S.length 4 = true) (kk : Rn d me (pc + 3) L (.inl (if x < y then y else x) :: S) kd F P Q) : Rn d me pc L (.inl y :: .inl x :: S) kd F P Q := R_stp h rfl rfl (by unfold stp; dsimp only; rw [if_neg (by decide), if_pos rfl]; unfold s_mm; dsimp only; rw [if_pos ⟨h2, Nat.le_of_ble_eq_true h4⟩]) kk
theorem R_min {a b : Nat} {w x y : Int} {idx : Nat} (h : ftc pc (me_ci me) = some (pc, .invokestatic idx, 3, (a, 4, b, w))) (h2 : 2 ≤ d) (h4 : Nat.ble S.length 4 = true) (kk : Rn d me (pc + 3) L (.inl (if y < x then y else x) :: S) kd F P Q) : Rn d me pc L (.inl y :: .inl x :: S) kd F P Q := R_stp h rfl rfl (by unfold stp; dsimp only; rw [if_neg (by decide), if_neg (by decide), if_pos rfl]; unfold s_mm; dsimp only; rw [if_pos ⟨h2, Nat.le_of_ble_eq_true h4⟩]) kk
theorem R_objinit {a b k : Nat} {x : Int} {idx : Nat} (h : ftc pc (me_ci me) = some (pc, .invokespecial idx, 3, (a, 5, b, x))) (h1 : 1 ≤ d) (kk : Rn d me (pc + 3) L [] kd F P Q) : Rn d me pc L [.inr (some k)] kd F P Q := R_stp h rfl rfl (by unfold stp; dsimp only; rw [if_pos rfl]; unfold s_oini; dsimp only; rw [if_pos ⟨h1, rfl⟩]) kk
theorem R_ireturn {v : Int} (h : ftc pc (me_ci me) = some (pc, .ireturn, 1, ri)) (hr : me_rt me = some .int) (hq : Q (some (.inl v), kd, F, P)) : Rn d me pc L [.inl v] kd F P Q := R_fin h rfl (by rw [hr]; rfl) hq
theorem R_zreturn {v : Int} (h : ftc pc (me_ci me) = some (pc, .ireturn, 1, ri)) (hr : me_rt me = some .boolean) (hv : v = 0 ∨ v = 1) (hq : Q (some (.inl v), kd, F, P)) : Rn d me pc L [.inl v] kd F P Q := R_fin h rfl (by rw [hr]; show (if _ then _ else _) = _; rw [if_pos (Or.inr ⟨rfl, hv⟩)]) hq
theorem R_areturn {v : Option Nat} {n : String} (h : ftc pc (me_ci me) = some (pc, .areturn, 1, ri)) (hr : me_rt me = some (.object n)) (hq : Q (some (.inr v), kd, F, P)) : Rn d me pc L [.inr v] kd F P Q := R_fin h rfl (by rw [hr]; rfl) hq
theorem R_return (h : ftc pc (me_ci me) = some (pc, .return_, 1, ri)) (hr : me_rt me = none) (hq : Q (none, kd, F, P)) : Rn d me pc L [] kd F P Q := R_fin h rfl (by rw [hr]; rfl) hq
theorem R_tab {dflt lo hi x : Int} {offs : Array Int} {len t : Nat} (h : ftc pc (me_ci me) = some (pc, .tableswitch dflt lo hi offs, len, ri)) (hs : s_tab pc dflt lo hi offs L (.inl x :: S) kd F P = some (t, L, S, kd, F, P)) (k : Rn d me t L S kd F P Q) : Rn d me pc L (.inl x :: S) kd F P Q := R_stp h rfl rfl hs k
theorem R_tabD {dflt lo hi x : Int} {offs : Array Int} {len t : Nat} (h : ftc pc (me_ci me) = some (pc, .tableswitch dflt lo hi offs, len, ri)) (hx : ¬ (lo ≤ x ∧ x ≤ hi)) (ht : brn pc dflt = some t) (k : Rn d me t L S kd F P Q) : Rn d me pc L (.inl x :: S) kd F P Q := R_stp h rfl rfl (by show (if _ then _ else s_goto _ _ _ _ _ _) = _; rw [if_neg hx, ht]; rfl) k
theorem R_look {dflt x : Int} {ps : Array (Int × Int)} {len t : Nat} (h : ftc pc (me_ci me) = some (pc, .lookupswitch dflt ps, len, ri)) (hs : s_look pc dflt ps L (.inl x :: S) kd F P = some (t, L, S, kd, F, P)) (k : Rn d me t L S kd F P Q) : Rn d me pc L (.inl x :: S) kd F P Q := R_stp h rfl rfl hs k
end RULES
end
