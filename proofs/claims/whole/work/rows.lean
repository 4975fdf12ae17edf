section
-- ===== PART A: goes FIRST, ahead of the names: the tables' words, and 'selects' of the private methods out of them =====
/-- a private method of a class that the tables say can be made, by its rows of tables_1 -/
def lw_okq (q : MethodName × Nat) : Prop := (q.1.cls ≠ "java/lang/invoke/MethodHandle" ∧ q.1.cls ≠ "java/lang/invoke/VarHandle") ∧ Cond.instantiable q.1.cls q.2 ∈ tables_1 ∧ Cond.privateMethod q.1 ∈ tables_1 ∧ Cond.instanceMethod q.1 ∈ tables_1
theorem lw_p0 : lw_okq (⟨"HiddenBids", "freshDraft", "()LHiddenBids$State;"⟩, 8) := ⟨⟨by decide +kernel, by decide +kernel⟩, List.mem_of_getElem? (i := 13) (by decide +kernel), List.mem_of_getElem? (i := 288) (by decide +kernel), List.mem_of_getElem? (i := 289) (by decide +kernel)⟩
theorem lw_p1 : lw_okq (⟨"HiddenBids", "adopt", "(I)I"⟩, 8) := ⟨⟨by decide +kernel, by decide +kernel⟩, List.mem_of_getElem? (i := 13) (by decide +kernel), List.mem_of_getElem? (i := 307) (by decide +kernel), List.mem_of_getElem? (i := 308) (by decide +kernel)⟩
theorem lw_p2 : lw_okq (⟨"HiddenBidsModel", "begins", "(II)V"⟩, 22) := ⟨⟨by decide +kernel, by decide +kernel⟩, List.mem_of_getElem? (i := 619) (by decide +kernel), List.mem_of_getElem? (i := 625) (by decide +kernel), List.mem_of_getElem? (i := 626) (by decide +kernel)⟩
theorem lw_p3 : lw_okq (⟨"HiddenBidsModel", "changes", "()V"⟩, 22) := ⟨⟨by decide +kernel, by decide +kernel⟩, List.mem_of_getElem? (i := 619) (by decide +kernel), List.mem_of_getElem? (i := 704) (by decide +kernel), List.mem_of_getElem? (i := 705) (by decide +kernel)⟩
theorem lw_p4 : lw_okq (⟨"HiddenBidsModel", "isPlayer", "(I)Z"⟩, 22) := ⟨⟨by decide +kernel, by decide +kernel⟩, List.mem_of_getElem? (i := 619) (by decide +kernel), List.mem_of_getElem? (i := 717) (by decide +kernel), List.mem_of_getElem? (i := 718) (by decide +kernel)⟩
theorem lw_p5 : lw_okq (⟨"HiddenBidsModel", "of", "(II)I"⟩, 22) := ⟨⟨by decide +kernel, by decide +kernel⟩, List.mem_of_getElem? (i := 619) (by decide +kernel), List.mem_of_getElem? (i := 721) (by decide +kernel), List.mem_of_getElem? (i := 722) (by decide +kernel)⟩
theorem lw_p6 : lw_okq (⟨"HiddenBidsModel", "bids", "()I"⟩, 22) := ⟨⟨by decide +kernel, by decide +kernel⟩, List.mem_of_getElem? (i := 619) (by decide +kernel), List.mem_of_getElem? (i := 726) (by decide +kernel), List.mem_of_getElem? (i := 727) (by decide +kernel)⟩
theorem lw_p7 : lw_okq (⟨"HiddenBidsModel", "resolves", "()I"⟩, 22) := ⟨⟨by decide +kernel, by decide +kernel⟩, List.mem_of_getElem? (i := 619) (by decide +kernel), List.mem_of_getElem? (i := 734) (by decide +kernel), List.mem_of_getElem? (i := 735) (by decide +kernel)⟩
theorem lw_p8 : lw_okq (⟨"HiddenBidsModel", "greatest", "()I"⟩, 22) := ⟨⟨by decide +kernel, by decide +kernel⟩, List.mem_of_getElem? (i := 619) (by decide +kernel), List.mem_of_getElem? (i := 738) (by decide +kernel), List.mem_of_getElem? (i := 739) (by decide +kernel)⟩
theorem lw_p9 : lw_okq (⟨"HiddenBidsModel", "onTable", "()I"⟩, 22) := ⟨⟨by decide +kernel, by decide +kernel⟩, List.mem_of_getElem? (i := 619) (by decide +kernel), List.mem_of_getElem? (i := 742) (by decide +kernel), List.mem_of_getElem? (i := 743) (by decide +kernel)⟩
theorem lw_p10 : lw_okq (⟨"HiddenBidsModel", "lays", "()V"⟩, 22) := ⟨⟨by decide +kernel, by decide +kernel⟩, List.mem_of_getElem? (i := 619) (by decide +kernel), List.mem_of_getElem? (i := 746) (by decide +kernel), List.mem_of_getElem? (i := 747) (by decide +kernel)⟩
theorem lw_p11 : lw_okq (⟨"HiddenBidsModel", "keeps", "(IIII)V"⟩, 22) := ⟨⟨by decide +kernel, by decide +kernel⟩, List.mem_of_getElem? (i := 619) (by decide +kernel), List.mem_of_getElem? (i := 750) (by decide +kernel), List.mem_of_getElem? (i := 751) (by decide +kernel)⟩
theorem lw_p12 : lw_okq (⟨"HiddenBidsModel", "notes", "(IZ)V"⟩, 22) := ⟨⟨by decide +kernel, by decide +kernel⟩, List.mem_of_getElem? (i := 619) (by decide +kernel), List.mem_of_getElem? (i := 757) (by decide +kernel), List.mem_of_getElem? (i := 758) (by decide +kernel)⟩
theorem lw_p13 : lw_okq (⟨"HiddenBidsModel", "pays", "(II)V"⟩, 22) := ⟨⟨by decide +kernel, by decide +kernel⟩, List.mem_of_getElem? (i := 619) (by decide +kernel), List.mem_of_getElem? (i := 761) (by decide +kernel), List.mem_of_getElem? (i := 762) (by decide +kernel)⟩
theorem lw_p14 : lw_okq (⟨"HiddenBidsModel", "shares", "(I)V"⟩, 22) := ⟨⟨by decide +kernel, by decide +kernel⟩, List.mem_of_getElem? (i := 619) (by decide +kernel), List.mem_of_getElem? (i := 765) (by decide +kernel), List.mem_of_getElem? (i := 766) (by decide +kernel)⟩
theorem lw_p15 : lw_okq (⟨"HiddenBidsModel", "coinsAll", "()I"⟩, 22) := ⟨⟨by decide +kernel, by decide +kernel⟩, List.mem_of_getElem? (i := 619) (by decide +kernel), List.mem_of_getElem? (i := 794) (by decide +kernel), List.mem_of_getElem? (i := 795) (by decide +kernel)⟩
def lw_privs_1 : List (MethodName × Nat) := [(⟨"HiddenBids", "freshDraft", "()LHiddenBids$State;"⟩, 8), (⟨"HiddenBids", "adopt", "(I)I"⟩, 8), (⟨"HiddenBidsModel", "begins", "(II)V"⟩, 22), (⟨"HiddenBidsModel", "changes", "()V"⟩, 22), (⟨"HiddenBidsModel", "isPlayer", "(I)Z"⟩, 22), (⟨"HiddenBidsModel", "of", "(II)I"⟩, 22), (⟨"HiddenBidsModel", "bids", "()I"⟩, 22), (⟨"HiddenBidsModel", "resolves", "()I"⟩, 22), (⟨"HiddenBidsModel", "greatest", "()I"⟩, 22), (⟨"HiddenBidsModel", "onTable", "()I"⟩, 22), (⟨"HiddenBidsModel", "lays", "()V"⟩, 22), (⟨"HiddenBidsModel", "keeps", "(IIII)V"⟩, 22), (⟨"HiddenBidsModel", "notes", "(IZ)V"⟩, 22), (⟨"HiddenBidsModel", "pays", "(II)V"⟩, 22), (⟨"HiddenBidsModel", "shares", "(I)V"⟩, 22), (⟨"HiddenBidsModel", "coinsAll", "()I"⟩, 22)]
theorem lw_r1 : ∀ q ∈ lw_privs_1, lw_okq q := List.forall_mem_cons.mpr ⟨lw_p0, List.forall_mem_cons.mpr ⟨lw_p1, List.forall_mem_cons.mpr ⟨lw_p2, List.forall_mem_cons.mpr ⟨lw_p3, List.forall_mem_cons.mpr ⟨lw_p4, List.forall_mem_cons.mpr ⟨lw_p5, List.forall_mem_cons.mpr ⟨lw_p6, List.forall_mem_cons.mpr ⟨lw_p7, List.forall_mem_cons.mpr ⟨lw_p8, List.forall_mem_cons.mpr ⟨lw_p9, List.forall_mem_cons.mpr ⟨lw_p10, List.forall_mem_cons.mpr ⟨lw_p11, List.forall_mem_cons.mpr ⟨lw_p12, List.forall_mem_cons.mpr ⟨lw_p13, List.forall_mem_cons.mpr ⟨lw_p14, List.forall_mem_cons.mpr ⟨lw_p15, fun _ h => absurd h List.not_mem_nil⟩⟩⟩⟩⟩⟩⟩⟩⟩⟩⟩⟩⟩⟩⟩⟩
theorem lw_p16 : lw_okq (⟨"HiddenBidsModel", "looks", "(II)Z"⟩, 22) := ⟨⟨by decide +kernel, by decide +kernel⟩, List.mem_of_getElem? (i := 619) (by decide +kernel), List.mem_of_getElem? (i := 817) (by decide +kernel), List.mem_of_getElem? (i := 818) (by decide +kernel)⟩
theorem lw_p17 : lw_okq (⟨"HiddenBidsModel", "holdsOne", "(IIIIII)I"⟩, 22) := ⟨⟨by decide +kernel, by decide +kernel⟩, List.mem_of_getElem? (i := 619) (by decide +kernel), List.mem_of_getElem? (i := 821) (by decide +kernel), List.mem_of_getElem? (i := 822) (by decide +kernel)⟩
theorem lw_p18 : lw_okq (⟨"HiddenBidsModel", "tries", "(IIIIIII)V"⟩, 22) := ⟨⟨by decide +kernel, by decide +kernel⟩, List.mem_of_getElem? (i := 619) (by decide +kernel), List.mem_of_getElem? (i := 825) (by decide +kernel), List.mem_of_getElem? (i := 826) (by decide +kernel)⟩
theorem lw_p19 : lw_okq (⟨"HiddenBidsModel", "holdsTwo", "(III)I"⟩, 22) := ⟨⟨by decide +kernel, by decide +kernel⟩, List.mem_of_getElem? (i := 619) (by decide +kernel), List.mem_of_getElem? (i := 829) (by decide +kernel), List.mem_of_getElem? (i := 830) (by decide +kernel)⟩
theorem lw_p20 : lw_okq (⟨"HiddenBidsModel", "plays", "()I"⟩, 22) := ⟨⟨by decide +kernel, by decide +kernel⟩, List.mem_of_getElem? (i := 619) (by decide +kernel), List.mem_of_getElem? (i := 865) (by decide +kernel), List.mem_of_getElem? (i := 866) (by decide +kernel)⟩
theorem lw_p21 : lw_okq (⟨"HiddenBidsModel", "reads", "()Z"⟩, 22) := ⟨⟨by decide +kernel, by decide +kernel⟩, List.mem_of_getElem? (i := 619) (by decide +kernel), List.mem_of_getElem? (i := 869) (by decide +kernel), List.mem_of_getElem? (i := 870) (by decide +kernel)⟩
theorem lw_p22 : lw_okq (⟨"HiddenBidsModel", "number", "(IZ)Z"⟩, 22) := ⟨⟨by decide +kernel, by decide +kernel⟩, List.mem_of_getElem? (i := 619) (by decide +kernel), List.mem_of_getElem? (i := 873) (by decide +kernel), List.mem_of_getElem? (i := 874) (by decide +kernel)⟩
theorem lw_p23 : lw_okq (⟨"HiddenBidsModel", "sign", "(I)Z"⟩, 22) := ⟨⟨by decide +kernel, by decide +kernel⟩, List.mem_of_getElem? (i := 619) (by decide +kernel), List.mem_of_getElem? (i := 877) (by decide +kernel), List.mem_of_getElem? (i := 878) (by decide +kernel)⟩
theorem lw_p24 : lw_okq (⟨"HiddenBidsModel", "isAt", "(II)Z"⟩, 22) := ⟨⟨by decide +kernel, by decide +kernel⟩, List.mem_of_getElem? (i := 619) (by decide +kernel), List.mem_of_getElem? (i := 881) (by decide +kernel), List.mem_of_getElem? (i := 882) (by decide +kernel)⟩
theorem lw_p25 : lw_okq (⟨"HiddenBidsModel", "calls", "()I"⟩, 22) := ⟨⟨by decide +kernel, by decide +kernel⟩, List.mem_of_getElem? (i := 619) (by decide +kernel), List.mem_of_getElem? (i := 885) (by decide +kernel), List.mem_of_getElem? (i := 886) (by decide +kernel)⟩
def lw_privs_2 : List (MethodName × Nat) := [(⟨"HiddenBidsModel", "looks", "(II)Z"⟩, 22), (⟨"HiddenBidsModel", "holdsOne", "(IIIIII)I"⟩, 22), (⟨"HiddenBidsModel", "tries", "(IIIIIII)V"⟩, 22), (⟨"HiddenBidsModel", "holdsTwo", "(III)I"⟩, 22), (⟨"HiddenBidsModel", "plays", "()I"⟩, 22), (⟨"HiddenBidsModel", "reads", "()Z"⟩, 22), (⟨"HiddenBidsModel", "number", "(IZ)Z"⟩, 22), (⟨"HiddenBidsModel", "sign", "(I)Z"⟩, 22), (⟨"HiddenBidsModel", "isAt", "(II)Z"⟩, 22), (⟨"HiddenBidsModel", "calls", "()I"⟩, 22)]
theorem lw_r2 : ∀ q ∈ lw_privs_2, lw_okq q := List.forall_mem_cons.mpr ⟨lw_p16, List.forall_mem_cons.mpr ⟨lw_p17, List.forall_mem_cons.mpr ⟨lw_p18, List.forall_mem_cons.mpr ⟨lw_p19, List.forall_mem_cons.mpr ⟨lw_p20, List.forall_mem_cons.mpr ⟨lw_p21, List.forall_mem_cons.mpr ⟨lw_p22, List.forall_mem_cons.mpr ⟨lw_p23, List.forall_mem_cons.mpr ⟨lw_p24, List.forall_mem_cons.mpr ⟨lw_p25, fun _ h => absurd h List.not_mem_nil⟩⟩⟩⟩⟩⟩⟩⟩⟩⟩
def lw_privs : List (MethodName × Nat) := lw_privs_1 ++ (lw_privs_2)
def lw_tbl : List Cond := k2_sels lw_privs ++ tables_1
theorem lw_privs_ok : ∀ q ∈ lw_privs, lw_okq q := by
  show ∀ q ∈ lw_privs_1 ++ (lw_privs_2), lw_okq q
  exact List.forall_mem_append.mpr ⟨lw_r1, lw_r2⟩
-- ===== end of PART A; then your names; then what follows =====
def RX0 : String := "HiddenBids$Adviser"
def TX0 : u_T := fun k => match k with
  | 0 => ("HiddenBids$Adviser", "outcome", "LHiddenBids$Outcome;", true)
  | _ => ("HiddenBids$Adviser", "trial", "[I", true)
def tyX0 : Nat → FieldType := fun k => match k with
  | 0 => .object "HiddenBids$Outcome"
  | _ => .array .int
abbrev wsX00 : List Cond := u_ws RX0 TX0 2
theorem nmX0 : ∀ a, a < 2 → ∀ b, b < 2 → a ≠ b → (TX0 a).2.1 ≠ (TX0 b).2.1 := by decide +kernel
theorem tyX0_ok : ∀ k, k < 2 → parseFieldDescriptor (TX0 k).2.2.1 = some (tyX0 k) := by decide +kernel
abbrev cX0_init : ByteArray := prog_2_method_1_code
def yX0_init : MethodName := ⟨RX0, "<init>", "(LHiddenBids$Outcome;)V"⟩
abbrev cX0_bestReply : ByteArray := prog_2_method_2_code
def yX0_bestReply : MethodName := ⟨RX0, "bestReply", "(LHiddenBids$State;I)I"⟩
abbrev cX0_bestOpenBid : ByteArray := prog_2_method_3_code
def yX0_bestOpenBid : MethodName := ⟨RX0, "bestOpenBid", "(LHiddenBids$State;II)I"⟩
abbrev cX0_gainByOpenBid : ByteArray := prog_2_method_4_code
def yX0_gainByOpenBid : MethodName := ⟨RX0, "gainByOpenBid", "(LHiddenBids$State;II)I"⟩
abbrev cX0_leastGain : ByteArray := prog_2_method_5_code
def yX0_leastGain : MethodName := ⟨RX0, "leastGain", "(LHiddenBids$State;IIII)I"⟩
abbrev cX0_gainOfTrial : ByteArray := prog_2_method_6_code
def yX0_gainOfTrial : MethodName := ⟨RX0, "gainOfTrial", "(LHiddenBids$State;III)I"⟩
abbrev cX0_gainInLastRound : ByteArray := prog_2_method_7_code
def yX0_gainInLastRound : MethodName := ⟨RX0, "gainInLastRound", "(III)I"⟩
def RX1 : String := "HiddenBids$History"
def TX1 : u_T := fun k => match k with
  | 0 => ("HiddenBids$History", "states", "[LHiddenBids$State;", true)
  | _ => ("HiddenBids$History", "size", "I", false)
def tyX1 : Nat → FieldType := fun k => match k with
  | 0 => .array (.object "HiddenBids$State")
  | _ => .int
abbrev wsX10 : List Cond := u_ws RX1 TX1 2
theorem nmX1 : ∀ a, a < 2 → ∀ b, b < 2 → a ≠ b → (TX1 a).2.1 ≠ (TX1 b).2.1 := by decide +kernel
theorem tyX1_ok : ∀ k, k < 2 → parseFieldDescriptor (TX1 k).2.2.1 = some (tyX1 k) := by decide +kernel
abbrev cX1_init : ByteArray := prog_3_method_1_code
def yX1_init : MethodName := ⟨RX1, "<init>", "()V"⟩
abbrev cX1_add : ByteArray := prog_3_method_2_code
def yX1_add : MethodName := ⟨RX1, "add", "(LHiddenBids$State;)LHiddenBids$State;"⟩
abbrev cX1_takeLatest : ByteArray := prog_3_method_3_code
def yX1_takeLatest : MethodName := ⟨RX1, "takeLatest", "(LHiddenBids$State;)LHiddenBids$State;"⟩
def RX2 : String := "HiddenBids$Outcome"
def TX2 : u_T := fun k => match k with
  | 0 => ("HiddenBids$Outcome", "winner", "I", false)
  | 1 => ("HiddenBids$Outcome", "greatest", "I", false)
  | 2 => ("HiddenBids$Outcome", "leaders", "I", false)
  | 3 => ("HiddenBids$Outcome", "pot", "I", false)
  | 4 => ("HiddenBids$Outcome", "paid", "[I", true)
  | _ => ("HiddenBids$Outcome", "got", "[I", true)
def tyX2 : Nat → FieldType := fun k => match k with
  | 0 => .int
  | 1 => .int
  | 2 => .int
  | 3 => .int
  | 4 => .array .int
  | _ => .array .int
abbrev wsX20 : List Cond := u_ws RX2 TX2 6
theorem nmX2 : ∀ a, a < 6 → ∀ b, b < 6 → a ≠ b → (TX2 a).2.1 ≠ (TX2 b).2.1 := by decide +kernel
theorem tyX2_ok : ∀ k, k < 6 → parseFieldDescriptor (TX2 k).2.2.1 = some (tyX2 k) := by decide +kernel
abbrev cX2_init : ByteArray := prog_4_method_1_code
def yX2_init : MethodName := ⟨RX2, "<init>", "()V"⟩
abbrev cX2_work : ByteArray := prog_4_method_2_code
def yX2_work : MethodName := ⟨RX2, "work", "(LHiddenBids$State;[I)V"⟩
abbrev cX2_findWinner : ByteArray := prog_4_method_3_code
def yX2_findWinner : MethodName := ⟨RX2, "findWinner", "(I[I)V"⟩
abbrev cX2_payment : ByteArray := prog_4_method_4_code
def yX2_payment : MethodName := ⟨RX2, "payment", "([III)I"⟩
abbrev cX2_sharePot : ByteArray := prog_4_method_5_code
def yX2_sharePot : MethodName := ⟨RX2, "sharePot", "(I)V"⟩
abbrev cX2_coinsBehind : ByteArray := prog_4_method_6_code
def yX2_coinsBehind : MethodName := ⟨RX2, "coinsBehind", "(LHiddenBids$State;I)I"⟩
def RX3 : String := "HiddenBids$PairList"
def TX3 : u_T := fun k => match k with
  | 0 => ("HiddenBids$PairList", "players", "[I", true)
  | 1 => ("HiddenBids$PairList", "bids", "[I", true)
  | 2 => ("HiddenBids$PairList", "times", "[I", true)
  | 3 => ("HiddenBids$PairList", "wins", "[I", true)
  | _ => ("HiddenBids$PairList", "size", "I", false)
def tyX3 : Nat → FieldType := fun k => match k with
  | 0 => .array .int
  | 1 => .array .int
  | 2 => .array .int
  | 3 => .array .int
  | _ => .int
abbrev wsX30 : List Cond := u_ws RX3 TX3 5
theorem nmX3 : ∀ a, a < 5 → ∀ b, b < 5 → a ≠ b → (TX3 a).2.1 ≠ (TX3 b).2.1 := by decide +kernel
theorem tyX3_ok : ∀ k, k < 5 → parseFieldDescriptor (TX3 k).2.2.1 = some (tyX3 k) := by decide +kernel
abbrev cX3_init : ByteArray := prog_5_method_1_code
def yX3_init : MethodName := ⟨RX3, "<init>", "()V"⟩
abbrev cX3_empty : ByteArray := prog_5_method_2_code
def yX3_empty : MethodName := ⟨RX3, "empty", "()V"⟩
abbrev cX3_copyFrom : ByteArray := prog_5_method_3_code
def yX3_copyFrom : MethodName := ⟨RX3, "copyFrom", "(LHiddenBids$PairList;)V"⟩
abbrev cX3_note : ByteArray := prog_5_method_4_code
def yX3_note : MethodName := ⟨RX3, "note", "(IIZ)V"⟩
abbrev cX3_indexOf : ByteArray := prog_5_method_5_code
def yX3_indexOf : MethodName := ⟨RX3, "indexOf", "(II)I"⟩
abbrev cX3_numberOfPair : ByteArray := prog_5_method_6_code
def yX3_numberOfPair : MethodName := ⟨RX3, "numberOfPair", "(II)I"⟩
def RX4 : String := "HiddenBids$RoundLog"
def TX4 : u_T := fun k => match k with
  | 0 => ("HiddenBids$RoundLog", "numbers", "[I", true)
  | 1 => ("HiddenBids$RoundLog", "size", "I", false)
  | _ => ("HiddenBids$RoundLog", "latest", "I", false)
def tyX4 : Nat → FieldType := fun k => match k with
  | 0 => .array .int
  | 1 => .int
  | _ => .int
abbrev wsX40 : List Cond := u_ws RX4 TX4 3
theorem nmX4 : ∀ a, a < 3 → ∀ b, b < 3 → a ≠ b → (TX4 a).2.1 ≠ (TX4 b).2.1 := by decide +kernel
theorem tyX4_ok : ∀ k, k < 3 → parseFieldDescriptor (TX4 k).2.2.1 = some (tyX4 k) := by decide +kernel
abbrev cX4_init : ByteArray := prog_6_method_1_code
def yX4_init : MethodName := ⟨RX4, "<init>", "()V"⟩
abbrev cX4_empty : ByteArray := prog_6_method_2_code
def yX4_empty : MethodName := ⟨RX4, "empty", "()V"⟩
abbrev cX4_copyFrom : ByteArray := prog_6_method_3_code
def yX4_copyFrom : MethodName := ⟨RX4, "copyFrom", "(LHiddenBids$RoundLog;)V"⟩
abbrev cX4_add : ByteArray := prog_6_method_4_code
def yX4_add : MethodName := ⟨RX4, "add", "(LHiddenBids$Outcome;I[I)V"⟩
abbrev cX4_numberOfRound : ByteArray := prog_6_method_5_code
def yX4_numberOfRound : MethodName := ⟨RX4, "numberOfRound", "(III)I"⟩
abbrev cX4_columnOf : ByteArray := prog_6_method_6_code
def yX4_columnOf : MethodName := ⟨RX4, "columnOf", "(II)I"⟩
def RX5 : String := "HiddenBids$State"
def TX5 : u_T := fun k => match k with
  | 0 => ("HiddenBids$State", "players", "I", false)
  | 1 => ("HiddenBids$State", "pot", "I", false)
  | 2 => ("HiddenBids$State", "rounds", "I", false)
  | 3 => ("HiddenBids$State", "openRounds", "I", false)
  | 4 => ("HiddenBids$State", "tableSize", "I", false)
  | 5 => ("HiddenBids$State", "tableSum", "I", false)
  | 6 => ("HiddenBids$State", "rowSize", "I", false)
  | 7 => ("HiddenBids$State", "coins", "[I", true)
  | 8 => ("HiddenBids$State", "points", "[I", true)
  | 9 => ("HiddenBids$State", "bids", "[I", true)
  | 10 => ("HiddenBids$State", "won", "[I", true)
  | 11 => ("HiddenBids$State", "paid", "[I", true)
  | 12 => ("HiddenBids$State", "got", "[I", true)
  | 13 => ("HiddenBids$State", "settings", "[I", true)
  | 14 => ("HiddenBids$State", "lots", "[I", true)
  | 15 => ("HiddenBids$State", "log", "LHiddenBids$RoundLog;", true)
  | _ => ("HiddenBids$State", "pairs", "LHiddenBids$PairList;", true)
def tyX5 : Nat → FieldType := fun k => match k with
  | 0 => .int
  | 1 => .int
  | 2 => .int
  | 3 => .int
  | 4 => .int
  | 5 => .int
  | 6 => .int
  | 7 => .array .int
  | 8 => .array .int
  | 9 => .array .int
  | 10 => .array .int
  | 11 => .array .int
  | 12 => .array .int
  | 13 => .array .int
  | 14 => .array .int
  | 15 => .object "HiddenBids$RoundLog"
  | _ => .object "HiddenBids$PairList"
abbrev wsX50 : List Cond := u_ws RX5 TX5 17
theorem nmX5 : ∀ a, a < 17 → ∀ b, b < 17 → a ≠ b → (TX5 a).2.1 ≠ (TX5 b).2.1 := by decide +kernel
theorem tyX5_ok : ∀ k, k < 17 → parseFieldDescriptor (TX5 k).2.2.1 = some (tyX5 k) := by decide +kernel
abbrev cX5_init : ByteArray := prog_7_method_1_code
def yX5_init : MethodName := ⟨RX5, "<init>", "()V"⟩
abbrev cX5_copyFrom : ByteArray := prog_7_method_2_code
def yX5_copyFrom : MethodName := ⟨RX5, "copyFrom", "(LHiddenBids$State;)V"⟩
abbrev cX5_startGame : ByteArray := prog_7_method_3_code
def yX5_startGame : MethodName := ⟨RX5, "startGame", "(II)I"⟩
abbrev cX5_addLot : ByteArray := prog_7_method_4_code
def yX5_addLot : MethodName := ⟨RX5, "addLot", "(I)I"⟩
abbrev cX5_makeBid : ByteArray := prog_7_method_5_code
def yX5_makeBid : MethodName := ⟨RX5, "makeBid", "(II)I"⟩
abbrev cX5_changeSetting : ByteArray := prog_7_method_6_code
def yX5_changeSetting : MethodName := ⟨RX5, "changeSetting", "(II)I"⟩
abbrev cX5_settle : ByteArray := prog_7_method_7_code
def yX5_settle : MethodName := ⟨RX5, "settle", "(LHiddenBids$Outcome;)I"⟩
abbrev cX5_emptyTable : ByteArray := prog_7_method_8_code
def yX5_emptyTable : MethodName := ⟨RX5, "emptyTable", "()V"⟩
abbrev cX5_hasPlayer : ByteArray := prog_7_method_9_code
def yX5_hasPlayer : MethodName := ⟨RX5, "hasPlayer", "(I)Z"⟩
abbrev cX5_isOver : ByteArray := prog_7_method_10_code
def yX5_isOver : MethodName := ⟨RX5, "isOver", "()Z"⟩
abbrev cX5_nextStake : ByteArray := prog_7_method_11_code
def yX5_nextStake : MethodName := ⟨RX5, "nextStake", "()I"⟩
abbrev cX5_bidCount : ByteArray := prog_7_method_12_code
def yX5_bidCount : MethodName := ⟨RX5, "bidCount", "()I"⟩
abbrev cX5_othersHaveBids : ByteArray := prog_7_method_13_code
def yX5_othersHaveBids : MethodName := ⟨RX5, "othersHaveBids", "(I)Z"⟩
abbrev cX5_mostCoinsOfOthers : ByteArray := prog_7_method_14_code
def yX5_mostCoinsOfOthers : MethodName := ⟨RX5, "mostCoinsOfOthers", "(I)I"⟩
abbrev cX5_allCoins : ByteArray := prog_7_method_15_code
def yX5_allCoins : MethodName := ⟨RX5, "allCoins", "()I"⟩
abbrev cX5_leader : ByteArray := prog_7_method_16_code
def yX5_leader : MethodName := ⟨RX5, "leader", "()I"⟩
abbrev cX5_canLead : ByteArray := prog_7_method_17_code
def yX5_canLead : MethodName := ⟨RX5, "canLead", "(I)Z"⟩
abbrev cX5_numberOfPlayer : ByteArray := prog_7_method_18_code
def yX5_numberOfPlayer : MethodName := ⟨RX5, "numberOfPlayer", "(II)I"⟩
abbrev cX5_valueAt : ByteArray := prog_7_method_19_code
def yX5_valueAt : MethodName := ⟨RX5, "valueAt", "(II)I"⟩
abbrev cX5_number : ByteArray := prog_7_method_20_code
def yX5_number : MethodName := ⟨RX5, "number", "(I)I"⟩
def RX6 : String := "HiddenBids$Text"
def TX6 : u_T := fun k => match k with
  | 0 => ("HiddenBids$Text", "characters", "[I", true)
  | 1 => ("HiddenBids$Text", "length", "I", false)
  | 2 => ("HiddenBids$Text", "position", "I", false)
  | 3 => ("HiddenBids$Text", "reason", "I", false)
  | 4 => ("HiddenBids$Text", "cause", "I", false)
  | 5 => ("HiddenBids$Text", "commands", "I", false)
  | 6 => ("HiddenBids$Text", "next", "I", false)
  | 7 => ("HiddenBids$Text", "kind", "I", false)
  | 8 => ("HiddenBids$Text", "first", "I", false)
  | _ => ("HiddenBids$Text", "second", "I", false)
def tyX6 : Nat → FieldType := fun k => match k with
  | 0 => .array .int
  | 1 => .int
  | 2 => .int
  | 3 => .int
  | 4 => .int
  | 5 => .int
  | 6 => .int
  | 7 => .int
  | 8 => .int
  | _ => .int
abbrev wsX60 : List Cond := u_ws RX6 TX6 10
theorem nmX6 : ∀ a, a < 10 → ∀ b, b < 10 → a ≠ b → (TX6 a).2.1 ≠ (TX6 b).2.1 := by decide +kernel
theorem tyX6_ok : ∀ k, k < 10 → parseFieldDescriptor (TX6 k).2.2.1 = some (tyX6 k) := by decide +kernel
abbrev cX6_init : ByteArray := prog_8_method_1_code
def yX6_init : MethodName := ⟨RX6, "<init>", "()V"⟩
abbrev cX6_append : ByteArray := prog_8_method_2_code
def yX6_append : MethodName := ⟨RX6, "append", "(I)I"⟩
abbrev cX6_numberOfFault : ByteArray := prog_8_method_3_code
def yX6_numberOfFault : MethodName := ⟨RX6, "numberOfFault", "(I)I"⟩
abbrev cX6_perform : ByteArray := prog_8_method_4_code
def yX6_perform : MethodName := ⟨RX6, "perform", "(LHiddenBids$State;LHiddenBids$Outcome;)V"⟩
abbrev cX6_call : ByteArray := prog_8_method_5_code
def yX6_call : MethodName := ⟨RX6, "call", "(LHiddenBids$State;LHiddenBids$Outcome;)I"⟩
abbrev cX6_readCommand : ByteArray := prog_8_method_6_code
def yX6_readCommand : MethodName := ⟨RX6, "readCommand", "()Z"⟩
abbrev cX6_readValue : ByteArray := prog_8_method_7_code
def yX6_readValue : MethodName := ⟨RX6, "readValue", "()Z"⟩
abbrev cX6_readBid : ByteArray := prog_8_method_8_code
def yX6_readBid : MethodName := ⟨RX6, "readBid", "()Z"⟩
abbrev cX6_readNumber : ByteArray := prog_8_method_9_code
def yX6_readNumber : MethodName := ⟨RX6, "readNumber", "()I"⟩
abbrev cX6_passes : ByteArray := prog_8_method_10_code
def yX6_passes : MethodName := ⟨RX6, "passes", "(I)Z"⟩
abbrev cX6_digitAt : ByteArray := prog_8_method_11_code
def yX6_digitAt : MethodName := ⟨RX6, "digitAt", "(I)I"⟩
abbrev cX6_characterAt : ByteArray := prog_8_method_12_code
def yX6_characterAt : MethodName := ⟨RX6, "characterAt", "(I)I"⟩
def RX7 : String := "HiddenBids"
def TX7 : u_T := fun k => match k with
  | 0 => ("HiddenBids", "history", "LHiddenBids$History;", true)
  | 1 => ("HiddenBids", "snapshot", "LHiddenBids$State;", true)
  | 2 => ("HiddenBids", "text", "LHiddenBids$Text;", true)
  | 3 => ("HiddenBids", "outcome", "LHiddenBids$Outcome;", true)
  | 4 => ("HiddenBids", "adviser", "LHiddenBids$Adviser;", true)
  | 5 => ("HiddenBids", "state", "LHiddenBids$State;", false)
  | 6 => ("HiddenBids", "draft", "LHiddenBids$State;", false)
  | _ => ("HiddenBids", "hasSnapshot", "Z", false)
def tyX7 : Nat → FieldType := fun k => match k with
  | 0 => .object "HiddenBids$History"
  | 1 => .object "HiddenBids$State"
  | 2 => .object "HiddenBids$Text"
  | 3 => .object "HiddenBids$Outcome"
  | 4 => .object "HiddenBids$Adviser"
  | 5 => .object "HiddenBids$State"
  | 6 => .object "HiddenBids$State"
  | _ => .boolean
abbrev wsX70 : List Cond := u_ws RX7 TX7 8
theorem nmX7 : ∀ a, a < 8 → ∀ b, b < 8 → a ≠ b → (TX7 a).2.1 ≠ (TX7 b).2.1 := by decide +kernel
theorem tyX7_ok : ∀ k, k < 8 → parseFieldDescriptor (TX7 k).2.2.1 = some (tyX7 k) := by decide +kernel
abbrev cX7_init : ByteArray := prog_1_method_1_code
def yX7_init : MethodName := ⟨RX7, "<init>", "()V"⟩
abbrev cX7_begin : ByteArray := prog_1_method_2_code
def yX7_begin : MethodName := ⟨RX7, "begin", "(II)I"⟩
abbrev cX7_lot : ByteArray := prog_1_method_3_code
def yX7_lot : MethodName := ⟨RX7, "lot", "(I)I"⟩
abbrev cX7_bid : ByteArray := prog_1_method_4_code
def yX7_bid : MethodName := ⟨RX7, "bid", "(II)I"⟩
abbrev cX7_resolve : ByteArray := prog_1_method_5_code
def yX7_resolve : MethodName := ⟨RX7, "resolve", "()I"⟩
abbrev cX7_set : ByteArray := prog_1_method_6_code
def yX7_set : MethodName := ⟨RX7, "set", "(II)I"⟩
abbrev cX7_playerOf : ByteArray := prog_1_method_7_code
def yX7_playerOf : MethodName := ⟨RX7, "playerOf", "(II)I"⟩
abbrev cX7_lotOf : ByteArray := prog_1_method_8_code
def yX7_lotOf : MethodName := ⟨RX7, "lotOf", "(II)I"⟩
abbrev cX7_roundOf : ByteArray := prog_1_method_9_code
def yX7_roundOf : MethodName := ⟨RX7, "roundOf", "(II)I"⟩
abbrev cX7_record : ByteArray := prog_1_method_10_code
def yX7_record : MethodName := ⟨RX7, "record", "(II)I"⟩
abbrev cX7_count : ByteArray := prog_1_method_11_code
def yX7_count : MethodName := ⟨RX7, "count", "(I)I"⟩
abbrev cX7_winner : ByteArray := prog_1_method_12_code
def yX7_winner : MethodName := ⟨RX7, "winner", "()I"⟩
abbrev cX7_sure : ByteArray := prog_1_method_13_code
def yX7_sure : MethodName := ⟨RX7, "sure", "(I)I"⟩
abbrev cX7_reply : ByteArray := prog_1_method_14_code
def yX7_reply : MethodName := ⟨RX7, "reply", "(I)I"⟩
abbrev cX7_holds : ByteArray := prog_1_method_15_code
def yX7_holds : MethodName := ⟨RX7, "holds", "(II)I"⟩
abbrev cX7_holding : ByteArray := prog_1_method_16_code
def yX7_holding : MethodName := ⟨RX7, "holding", "(II)I"⟩
abbrev cX7_chance : ByteArray := prog_1_method_17_code
def yX7_chance : MethodName := ⟨RX7, "chance", "(I)I"⟩
abbrev cX7_keep : ByteArray := prog_1_method_18_code
def yX7_keep : MethodName := ⟨RX7, "keep", "()I"⟩
abbrev cX7_restore : ByteArray := prog_1_method_19_code
def yX7_restore : MethodName := ⟨RX7, "restore", "()I"⟩
abbrev cX7_undo : ByteArray := prog_1_method_20_code
def yX7_undo : MethodName := ⟨RX7, "undo", "()I"⟩
abbrev cX7_type : ByteArray := prog_1_method_21_code
def yX7_type : MethodName := ⟨RX7, "type", "(I)I"⟩
abbrev cX7_clearText : ByteArray := prog_1_method_22_code
def yX7_clearText : MethodName := ⟨RX7, "clearText", "()I"⟩
abbrev cX7_fault : ByteArray := prog_1_method_23_code
def yX7_fault : MethodName := ⟨RX7, "fault", "(I)I"⟩
abbrev cX7_play : ByteArray := prog_1_method_24_code
def yX7_play : MethodName := ⟨RX7, "play", "()I"⟩
abbrev cX7_freshDraft : ByteArray := prog_1_method_25_code
def yX7_freshDraft : MethodName := ⟨RX7, "freshDraft", "()LHiddenBids$State;"⟩
abbrev cX7_adopt : ByteArray := prog_1_method_26_code
def yX7_adopt : MethodName := ⟨RX7, "adopt", "(I)I"⟩
abbrev cX7_isError : ByteArray := prog_1_method_27_code
def yX7_isError : MethodName := ⟨RX7, "isError", "(I)Z"⟩
def RX8 : String := "HiddenBidsModel"
def TX8 : u_T := fun k => match k with
  | 0 => ("HiddenBidsModel", "s", "[I", true)
  | 1 => ("HiddenBidsModel", "past", "[I", true)
  | 2 => ("HiddenBidsModel", "held", "[I", true)
  | 3 => ("HiddenBidsModel", "tried", "[I", true)
  | 4 => ("HiddenBidsModel", "kept", "[I", true)
  | 5 => ("HiddenBidsModel", "isKept", "Z", false)
  | 6 => ("HiddenBidsModel", "pasts", "I", false)
  | 7 => ("HiddenBidsModel", "runs", "Z", false)
  | 8 => ("HiddenBidsModel", "text", "[I", true)
  | 9 => ("HiddenBidsModel", "typed", "I", false)
  | 10 => ("HiddenBidsModel", "ownThen", "I", false)
  | 11 => ("HiddenBidsModel", "otherThen", "I", false)
  | 12 => ("HiddenBidsModel", "aheadThen", "I", false)
  | 13 => ("HiddenBidsModel", "potThen", "I", false)
  | 14 => ("HiddenBidsModel", "tableThen", "I", false)
  | 15 => ("HiddenBidsModel", "bestBid", "I", false)
  | 16 => ("HiddenBidsModel", "heldNow", "I", false)
  | 17 => ("HiddenBidsModel", "spot", "I", false)
  | 18 => ("HiddenBidsModel", "cause", "I", false)
  | 19 => ("HiddenBidsModel", "commands", "I", false)
  | 20 => ("HiddenBidsModel", "order", "I", false)
  | _ => ("HiddenBidsModel", "told", "[I", true)
def tyX8 : Nat → FieldType := fun k => match k with
  | 0 => .array .int
  | 1 => .array .int
  | 2 => .array .int
  | 3 => .array .int
  | 4 => .array .int
  | 5 => .boolean
  | 6 => .int
  | 7 => .boolean
  | 8 => .array .int
  | 9 => .int
  | 10 => .int
  | 11 => .int
  | 12 => .int
  | 13 => .int
  | 14 => .int
  | 15 => .int
  | 16 => .int
  | 17 => .int
  | 18 => .int
  | 19 => .int
  | 20 => .int
  | _ => .array .int
abbrev wsX80 : List Cond := u_ws RX8 TX8 22
theorem nmX8 : ∀ a, a < 22 → ∀ b, b < 22 → a ≠ b → (TX8 a).2.1 ≠ (TX8 b).2.1 := by decide +kernel
theorem tyX8_ok : ∀ k, k < 22 → parseFieldDescriptor (TX8 k).2.2.1 = some (tyX8 k) := by decide +kernel
abbrev cX8_init : ByteArray := prog_10_method_1_code
def yX8_init : MethodName := ⟨RX8, "<init>", "()V"⟩
abbrev cX8_in : ByteArray := prog_10_method_3_code
def yX8_in : MethodName := ⟨RX8, "in", "(III)Z"⟩
abbrev cX8_copies : ByteArray := prog_10_method_4_code
def yX8_copies : MethodName := ⟨RX8, "copies", "([I[I)V"⟩
abbrev cX8_changes : ByteArray := prog_10_method_5_code
def yX8_changes : MethodName := ⟨RX8, "changes", "()V"⟩
abbrev cX8_isPlayer : ByteArray := prog_10_method_6_code
def yX8_isPlayer : MethodName := ⟨RX8, "isPlayer", "(I)Z"⟩
abbrev cX8_of : ByteArray := prog_10_method_7_code
def yX8_of : MethodName := ⟨RX8, "of", "(II)I"⟩
abbrev cX8_begins : ByteArray := prog_10_method_8_code
def yX8_begins : MethodName := ⟨RX8, "begins", "(II)V"⟩
abbrev cX8_begin : ByteArray := prog_10_method_9_code
def yX8_begin : MethodName := ⟨RX8, "begin", "(II)I"⟩
abbrev cX8_lot : ByteArray := prog_10_method_10_code
def yX8_lot : MethodName := ⟨RX8, "lot", "(I)I"⟩
abbrev cX8_bids : ByteArray := prog_10_method_11_code
def yX8_bids : MethodName := ⟨RX8, "bids", "()I"⟩
abbrev cX8_bid : ByteArray := prog_10_method_12_code
def yX8_bid : MethodName := ⟨RX8, "bid", "(II)I"⟩
abbrev cX8_onTable : ByteArray := prog_10_method_13_code
def yX8_onTable : MethodName := ⟨RX8, "onTable", "()I"⟩
abbrev cX8_greatest : ByteArray := prog_10_method_14_code
def yX8_greatest : MethodName := ⟨RX8, "greatest", "()I"⟩
abbrev cX8_lays : ByteArray := prog_10_method_15_code
def yX8_lays : MethodName := ⟨RX8, "lays", "()V"⟩
abbrev cX8_pays : ByteArray := prog_10_method_16_code
def yX8_pays : MethodName := ⟨RX8, "pays", "(II)V"⟩
abbrev cX8_least : ByteArray := prog_10_method_17_code
def yX8_least : MethodName := ⟨RX8, "least", "(II)I"⟩
abbrev cX8_notes : ByteArray := prog_10_method_18_code
def yX8_notes : MethodName := ⟨RX8, "notes", "(IZ)V"⟩
abbrev cX8_keeps : ByteArray := prog_10_method_19_code
def yX8_keeps : MethodName := ⟨RX8, "keeps", "(IIII)V"⟩
abbrev cX8_shares : ByteArray := prog_10_method_20_code
def yX8_shares : MethodName := ⟨RX8, "shares", "(I)V"⟩
abbrev cX8_resolves : ByteArray := prog_10_method_21_code
def yX8_resolves : MethodName := ⟨RX8, "resolves", "()I"⟩
abbrev cX8_resolve : ByteArray := prog_10_method_22_code
def yX8_resolve : MethodName := ⟨RX8, "resolve", "()I"⟩
abbrev cX8_set : ByteArray := prog_10_method_23_code
def yX8_set : MethodName := ⟨RX8, "set", "(II)I"⟩
abbrev cX8_playerOf : ByteArray := prog_10_method_24_code
def yX8_playerOf : MethodName := ⟨RX8, "playerOf", "(II)I"⟩
abbrev cX8_lotOf : ByteArray := prog_10_method_25_code
def yX8_lotOf : MethodName := ⟨RX8, "lotOf", "(II)I"⟩
abbrev cX8_roundOf : ByteArray := prog_10_method_26_code
def yX8_roundOf : MethodName := ⟨RX8, "roundOf", "(II)I"⟩
abbrev cX8_record : ByteArray := prog_10_method_27_code
def yX8_record : MethodName := ⟨RX8, "record", "(II)I"⟩
abbrev cX8_coinsAll : ByteArray := prog_10_method_28_code
def yX8_coinsAll : MethodName := ⟨RX8, "coinsAll", "()I"⟩
abbrev cX8_count : ByteArray := prog_10_method_29_code
def yX8_count : MethodName := ⟨RX8, "count", "(I)I"⟩
abbrev cX8_winner : ByteArray := prog_10_method_30_code
def yX8_winner : MethodName := ⟨RX8, "winner", "()I"⟩
abbrev cX8_sure : ByteArray := prog_10_method_31_code
def yX8_sure : MethodName := ⟨RX8, "sure", "(I)I"⟩
abbrev cX8_reply : ByteArray := prog_10_method_32_code
def yX8_reply : MethodName := ⟨RX8, "reply", "(I)I"⟩
abbrev cX8_tries : ByteArray := prog_10_method_33_code
def yX8_tries : MethodName := ⟨RX8, "tries", "(IIIIIII)V"⟩
abbrev cX8_holdsOne : ByteArray := prog_10_method_34_code
def yX8_holdsOne : MethodName := ⟨RX8, "holdsOne", "(IIIIII)I"⟩
abbrev cX8_holdsTwo : ByteArray := prog_10_method_35_code
def yX8_holdsTwo : MethodName := ⟨RX8, "holdsTwo", "(III)I"⟩
abbrev cX8_looks : ByteArray := prog_10_method_36_code
def yX8_looks : MethodName := ⟨RX8, "looks", "(II)Z"⟩
abbrev cX8_holds : ByteArray := prog_10_method_37_code
def yX8_holds : MethodName := ⟨RX8, "holds", "(II)I"⟩
abbrev cX8_holding : ByteArray := prog_10_method_38_code
def yX8_holding : MethodName := ⟨RX8, "holding", "(II)I"⟩
abbrev cX8_chance : ByteArray := prog_10_method_39_code
def yX8_chance : MethodName := ⟨RX8, "chance", "(I)I"⟩
abbrev cX8_keep : ByteArray := prog_10_method_40_code
def yX8_keep : MethodName := ⟨RX8, "keep", "()I"⟩
abbrev cX8_restore : ByteArray := prog_10_method_41_code
def yX8_restore : MethodName := ⟨RX8, "restore", "()I"⟩
abbrev cX8_undo : ByteArray := prog_10_method_42_code
def yX8_undo : MethodName := ⟨RX8, "undo", "()I"⟩
abbrev cX8_type : ByteArray := prog_10_method_43_code
def yX8_type : MethodName := ⟨RX8, "type", "(I)I"⟩
abbrev cX8_clearText : ByteArray := prog_10_method_44_code
def yX8_clearText : MethodName := ⟨RX8, "clearText", "()I"⟩
abbrev cX8_isAt : ByteArray := prog_10_method_45_code
def yX8_isAt : MethodName := ⟨RX8, "isAt", "(II)Z"⟩
abbrev cX8_sign : ByteArray := prog_10_method_46_code
def yX8_sign : MethodName := ⟨RX8, "sign", "(I)Z"⟩
abbrev cX8_number : ByteArray := prog_10_method_47_code
def yX8_number : MethodName := ⟨RX8, "number", "(IZ)Z"⟩
abbrev cX8_reads : ByteArray := prog_10_method_48_code
def yX8_reads : MethodName := ⟨RX8, "reads", "()Z"⟩
abbrev cX8_calls : ByteArray := prog_10_method_49_code
def yX8_calls : MethodName := ⟨RX8, "calls", "()I"⟩
abbrev cX8_plays : ByteArray := prog_10_method_50_code
def yX8_plays : MethodName := ⟨RX8, "plays", "()I"⟩
abbrev cX8_fault : ByteArray := prog_10_method_51_code
def yX8_fault : MethodName := ⟨RX8, "fault", "(I)I"⟩
abbrev cX8_play : ByteArray := prog_10_method_52_code
def yX8_play : MethodName := ⟨RX8, "play", "()I"⟩
def RJ9 : String := "java/lang/Math"
def TJ9 : u_T := fun k => match k with
  | _ => ("", "", "", false)
def tyJ9 : Nat → FieldType := fun k => match k with
  | _ => .int
theorem nmJ9 : ∀ a, a < 0 → ∀ b, b < 0 → a ≠ b → (TJ9 a).2.1 ≠ (TJ9 b).2.1 := by decide +kernel
theorem tyJ9_ok : ∀ k, k < 0 → parseFieldDescriptor (TJ9 k).2.2.1 = some (tyJ9 k) := by decide +kernel
abbrev cJ9_max_7cf53 : ByteArray := prog_11_method_65_code
def yJ9_max_7cf53 : MethodName := ⟨RJ9, "max", "(II)I"⟩
abbrev cJ9_min_7cf53 : ByteArray := prog_11_method_69_code
def yJ9_min_7cf53 : MethodName := ⟨RJ9, "min", "(II)I"⟩
def RJ10 : String := "java/lang/System"
def TJ10 : u_T := fun k => match k with
  | _ => ("", "", "", false)
def tyJ10 : Nat → FieldType := fun k => match k with
  | _ => .int
theorem nmJ10 : ∀ a, a < 0 → ∀ b, b < 0 → a ≠ b → (TJ10 a).2.1 ≠ (TJ10 b).2.1 := by decide +kernel
theorem tyJ10_ok : ∀ k, k < 0 → parseFieldDescriptor (TJ10 k).2.2.1 = some (tyJ10 k) := by decide +kernel
def RL : String := "HiddenBidsLaw"
abbrev cL_law : ByteArray := code
def yL_law : MethodName := ⟨RL, "law", "([I)Z"⟩
abbrev vwCl : List vw_C := [(RX0, TX0, 2), (RX1, TX1, 2), (RX2, TX2, 6), (RX3, TX3, 5), (RX4, TX4, 3), (RX5, TX5, 17), (RX6, TX6, 10), (RX7, TX7, 8), (RX8, TX8, 22)]
end
section
/-! AN INTERPRETER of the bytecode that the system uses: a pure function over rows of numbers and of pointers.
Values: a number, or a pointer (none: null; some k: the k-th cell). Cells: (0, n) a row of n numbers, (1, n) a row of n pointers, (c + 2, n) an object of the c-th kind with n slots.
Numbers of all cells stand in one function F, pointers in another, P. -/
abbrev AV : Type := Int ⊕ Option Nat
abbrev FM : Type := Nat → Nat → Int
abbrev PM : Type := Nat → Nat → Option Nat
abbrev KL : Type := List (Nat × Nat)
abbrev LV : Type := List (Option AV)
abbrev AS : Type := Nat × LV × List AV × KL × FM × PM
abbrev RI : Type := Nat × Nat × Nat × Int
abbrev CI : Type := Nat × Instr × Nat × RI
abbrev ME : Type := MethodName × ByteArray × Nat × Option FieldType × Nat × Nat × Nat × List CI
def me_y (e : ME) : MethodName := e.1
def me_cc (e : ME) : ByteArray := e.2.1
def me_ml (e : ME) : Nat := e.2.2.1
def me_rt (e : ME) : Option FieldType := e.2.2.2.1
def me_kd (e : ME) : Nat := e.2.2.2.2.1
def me_na (e : ME) : Nat := e.2.2.2.2.2.1
def me_ix (e : ME) : Nat := e.2.2.2.2.2.2.1
def me_ci (e : ME) : List CI := e.2.2.2.2.2.2.2
def wr (i : Int) : Int := (i + 2147483648) % 4294967296 - 2147483648
def i32 (i : Int) : Int32 := Int32.ofInt i
def inb (i : Int) : Prop := -2147483648 ≤ i ∧ i < 2147483648
def inbB (i : Int) : Bool := decide (-2147483648 ≤ i) && decide (i < 2147483648)
/-- a row or slot written -/
def stt (F : FM) (k j : Nat) (v : Int) : FM := fun a b => if a = k ∧ b = j then v else F a b
def stp_ (P : PM) (k j : Nat) (v : Option Nat) : PM := fun a b => if a = k ∧ b = j then v else P a b
def clF (F : FM) (k : Nat) : FM := fun a b => if a = k then 0 else F a b
def clP (P : PM) (k : Nat) : PM := fun a b => if a = k then none else P a b
def cpF (F : FM) (src sp dst dp n : Nat) : FM := fun a b => if a = dst ∧ dp ≤ b ∧ b < dp + n then F src (sp + (b - dp)) else F a b
def isN (t : FieldType) : Bool := match t with
  | .int => true
  | .boolean => true
  | _ => false
/-- the type of a slot -/
def tyOf (c k : Nat) : FieldType := match c with
  | 0 => tyX0 k
  | 1 => tyX1 k
  | 2 => tyX2 k
  | 3 => tyX3 k
  | 4 => tyX4 k
  | 5 => tyX5 k
  | 6 => tyX6 k
  | 7 => tyX7 k
  | _ => tyX8 k
def brn (pc : Nat) (off : Int) : Option Nat := if 0 ≤ (pc : Int) + off then some ((pc : Int) + off).toNat else none
def cmpc (c : Jvm.ClassFile.Cond) (x y : Int) : Bool := match c with
  | .eq => decide (x = y)
  | .ne => decide (x ≠ y)
  | .lt => decide (x < y)
  | .ge => decide (y ≤ x)
  | .gt => decide (y < x)
  | .le => decide (x ≤ y)
def ldI (L : LV) (i : Nat) : Option AV := match L[i]? with
  | some (some (.inl v)) => some (.inl v)
  | _ => none
def ldA (L : LV) (i : Nat) : Option AV := match L[i]? with
  | some (some (.inr (some k))) => some (.inr (some k))
  | _ => none
def s_load (pc len : Nat) (o : Option AV) (L : LV) (S : List AV) (kd : KL) (F : FM) (P : PM) : Option AS := match o with
  | some v => some (pc + len, L, v :: S, kd, F, P)
  | none => none
def s_storeI (pc len i : Nat) (L : LV) (S : List AV) (kd : KL) (F : FM) (P : PM) : Option AS := match S with
  | .inl v :: S' => if i < L.length then some (pc + len, L.set i (some (.inl v)), S', kd, F, P) else none
  | _ => none
def s_storeA (pc len i : Nat) (L : LV) (S : List AV) (kd : KL) (F : FM) (P : PM) : Option AS := match S with
  | .inr (some v) :: S' => if i < L.length then some (pc + len, L.set i (some (.inr (some v))), S', kd, F, P) else none
  | _ => none
def s_iinc (pc len i : Nat) (n : Int) (L : LV) (S : List AV) (kd : KL) (F : FM) (P : PM) : Option AS := match L[i]? with
  | some (some (.inl v)) => some (pc + len, L.set i (some (.inl (wr (v + n)))), S, kd, F, P)
  | _ => none
def s_bin (pc len : Nat) (f : Int → Int → Int) (L : LV) (S : List AV) (kd : KL) (F : FM) (P : PM) : Option AS := match S with
  | .inl y :: .inl x :: S' => some (pc + len, L, .inl (f x y) :: S', kd, F, P)
  | _ => none
def s_binD (pc len : Nat) (f : Int → Int → Int) (L : LV) (S : List AV) (kd : KL) (F : FM) (P : PM) : Option AS := match S with
  | .inl y :: .inl x :: S' => if y = 0 then none else some (pc + len, L, .inl (f x y) :: S', kd, F, P)
  | _ => none
def s_neg (pc len : Nat) (L : LV) (S : List AV) (kd : KL) (F : FM) (P : PM) : Option AS := match S with
  | .inl x :: S' => some (pc + len, L, .inl (wr (-x)) :: S', kd, F, P)
  | _ => none
def s_dup (pc len : Nat) (L : LV) (S : List AV) (kd : KL) (F : FM) (P : PM) : Option AS := match S with
  | v :: S' => some (pc + len, L, v :: v :: S', kd, F, P)
  | _ => none
def s_dup2 (pc len : Nat) (L : LV) (S : List AV) (kd : KL) (F : FM) (P : PM) : Option AS := match S with
  | v :: w :: S' => some (pc + len, L, v :: w :: v :: w :: S', kd, F, P)
  | _ => none
def s_pop (pc len : Nat) (L : LV) (S : List AV) (kd : KL) (F : FM) (P : PM) : Option AS := match S with
  | _ :: S' => some (pc + len, L, S', kd, F, P)
  | _ => none
def s_goto (o : Option Nat) (L : LV) (S : List AV) (kd : KL) (F : FM) (P : PM) : Option AS := match o with
  | some t => some (t, L, S, kd, F, P)
  | none => none
def s_icmp (pc : Nat) (c : Jvm.ClassFile.Cond) (o : Option Nat) (L : LV) (S : List AV) (kd : KL) (F : FM) (P : PM) : Option AS := match o, S with
  | some t, .inl y :: .inl x :: S' => some (if cmpc c x y = true then t else pc + 3, L, S', kd, F, P)
  | _, _ => none
def s_ifc (pc : Nat) (c : Jvm.ClassFile.Cond) (o : Option Nat) (L : LV) (S : List AV) (kd : KL) (F : FM) (P : PM) : Option AS := match o, S with
  | some t, .inl x :: S' => some (if cmpc c x 0 = true then t else pc + 3, L, S', kd, F, P)
  | _, _ => none
def s_iald (pc : Nat) (L : LV) (S : List AV) (kd : KL) (F : FM) (P : PM) : Option AS := match S with
  | .inl i :: .inr (some k) :: S' => match kd[k]? with
    | some (0, n) => if 0 ≤ i ∧ i < n then some (pc + 1, L, .inl (F k i.toNat) :: S', kd, F, P) else none
    | _ => none
  | _ => none
def s_aald (pc : Nat) (L : LV) (S : List AV) (kd : KL) (F : FM) (P : PM) : Option AS := match S with
  | .inl i :: .inr (some k) :: S' => match kd[k]? with
    | some (1, n) => if 3 ≤ k ∧ 0 ≤ i ∧ i < n then some (pc + 1, L, .inr (P k i.toNat) :: S', kd, F, P) else none
    | _ => none
  | _ => none
def s_iast (pc : Nat) (L : LV) (S : List AV) (kd : KL) (F : FM) (P : PM) : Option AS := match S with
  | .inl v :: .inl i :: .inr (some k) :: S' => match kd[k]? with
    | some (0, n) => if 3 ≤ k ∧ 0 ≤ i ∧ i < n then some (pc + 1, L, S', kd, stt F k i.toNat v, P) else none
    | _ => none
  | _ => none
def s_aast (pc : Nat) (L : LV) (S : List AV) (kd : KL) (F : FM) (P : PM) : Option AS := match S with
  | .inr (some v) :: .inl i :: .inr (some k) :: S' => match kd[k]? with
    | some (1, n) => if 3 ≤ k ∧ 0 ≤ i ∧ i < n ∧ 3 ≤ v ∧ kd[v]? = some (7, 17) then some (pc + 1, L, S', kd, F, stp_ P k i.toNat (some v)) else none
    | _ => none
  | _ => none
def s_alen (pc : Nat) (L : LV) (S : List AV) (kd : KL) (F : FM) (P : PM) : Option AS := match S with
  | .inr (some k) :: S' => match kd[k]? with
    | some (0, n) => if n < 2147483648 then some (pc + 1, L, .inl (n : Int) :: S', kd, F, P) else none
    | _ => none
  | _ => none
def s_getf (pc ci j : Nat) (L : LV) (S : List AV) (kd : KL) (F : FM) (P : PM) : Option AS := match S with
  | .inr (some k) :: S' => match kd[k]? with
    | some (c, n) => if c = ci + 2 ∧ j < n ∧ 3 ≤ k then some (pc + 3, L, (if isN (tyOf ci j) = true then .inl (F k j) else .inr (P k j)) :: S', kd, F, P) else none
    | _ => none
  | _ => none
def s_putf (pc ci j : Nat) (L : LV) (S : List AV) (kd : KL) (F : FM) (P : PM) : Option AS := match S with
  | .inl v :: .inr (some k) :: S' => match kd[k]? with
    | some (c, n) => if c = ci + 2 ∧ j < n ∧ 3 ≤ k ∧ (tyOf ci j = .int ∨ tyOf ci j = .boolean ∧ (v = 0 ∨ v = 1)) then some (pc + 3, L, S', kd, stt F k j v, P) else none
    | _ => none
  | .inr v :: .inr (some k) :: S' => match kd[k]? with
    | some (c, n) => if c = ci + 2 ∧ j < n ∧ 3 ≤ k ∧ isN (tyOf ci j) = false then some (pc + 3, L, S', kd, F, stp_ P k j v) else none
    | _ => none
  | _ => none
def s_new (pc ci n : Nat) (L : LV) (S : List AV) (kd : KL) (F : FM) (P : PM) : Option AS :=
  some (pc + 3, L, .inr (some kd.length) :: S, kd ++ [(ci + 2, n)], clF F kd.length, clP P kd.length)
def s_newa (pc : Nat) (L : LV) (S : List AV) (kd : KL) (F : FM) (P : PM) : Option AS := match S with
  | .inl n :: S' => if 0 ≤ n ∧ n ≤ 100000 then some (pc + 2, L, .inr (some kd.length) :: S', kd ++ [(0, n.toNat)], clF F kd.length, P) else none
  | _ => none
def s_anew (pc : Nat) (L : LV) (S : List AV) (kd : KL) (F : FM) (P : PM) : Option AS := match S with
  | .inl n :: S' => if 0 ≤ n ∧ n ≤ 100000 then some (pc + 3, L, .inr (some kd.length) :: S', kd ++ [(1, n.toNat)], F, clP P kd.length) else none
  | _ => none
def s_gets (pc i : Nat) (L : LV) (S : List AV) (kd : KL) (F : FM) (P : PM) : Option AS :=
  some (pc + 3, L, .inr (some i) :: S, kd, F, P)
def s_tab (pc : Nat) (dflt lo hi : Int) (offs : Array Int) (L : LV) (S : List AV) (kd : KL) (F : FM) (P : PM) : Option AS := match S with
  | .inl x :: S' => if lo ≤ x ∧ x ≤ hi then (match offs[(x - lo).toNat]? with
    | some off => s_goto (brn pc off) L S' kd F P
    | none => none) else s_goto (brn pc dflt) L S' kd F P
  | _ => none
def s_look (pc : Nat) (dflt : Int) (ps : Array (Int × Int)) (L : LV) (S : List AV) (kd : KL) (F : FM) (P : PM) : Option AS := match S with
  | .inl x :: S' => if (ps.toList.zip (ps.toList.drop 1)).all (fun (a, next) => a.1 < next.1) = true then s_goto (brn pc (Op.lookupswitch.offset ps.toList dflt x)) L S' kd F P else none
  | _ => none
def s_copy (d pc : Nat) (L : LV) (S : List AV) (kd : KL) (F : FM) (P : PM) : Option AS := match S with
  | .inl n :: .inl dp :: .inr (some k1) :: .inl sp :: .inr (some k0) :: S' => match kd[k0]?, kd[k1]? with
    | some (0, n0), some (0, n1) => if 2 ≤ d ∧ S' = [] ∧ 3 ≤ k1 ∧ 0 ≤ n ∧ 0 ≤ sp ∧ 0 ≤ dp ∧ sp + n ≤ n0 ∧ dp + n ≤ n1 then some (pc + 3, L, S', kd, cpF F k0 sp.toNat k1 dp.toNat n.toNat, P) else none
    | _, _ => none
  | _ => none
def s_mm (d pc : Nat) (f : Int → Int → Int) (L : LV) (S : List AV) (kd : KL) (F : FM) (P : PM) : Option AS := match S with
  | .inl y :: .inl x :: S' => if 2 ≤ d ∧ S'.length ≤ 4 then some (pc + 3, L, .inl (f x y) :: S', kd, F, P) else none
  | _ => none
def s_oini (d pc : Nat) (L : LV) (S : List AV) (kd : KL) (F : FM) (P : PM) : Option AS := match S with
  | .inr (some _) :: S' => if 1 ≤ d ∧ S' = [] then some (pc + 3, L, S', kd, F, P) else none
  | _ => none
/-- one instruction that is no call of the system's own and no return -/
def stp (d pc len : Nat) (ri : RI) (ins : Instr) (L : LV) (S : List AV) (kd : KL) (F : FM) (P : PM) : Option AS := match ins with
  | .iconst n => s_load pc len (some (.inl n)) L S kd F P
  | .bipush n => s_load pc len (some (.inl n)) L S kd F P
  | .sipush n => s_load pc len (some (.inl n)) L S kd F P
  | .ldc _ => s_load pc len (some (.inl ri.2.2.2)) L S kd F P
  | .iload i => s_load pc len (ldI L i) L S kd F P
  | .iload_n i => s_load pc len (ldI L i.val) L S kd F P
  | .aload i => s_load pc len (ldA L i) L S kd F P
  | .aload_n i => s_load pc len (ldA L i.val) L S kd F P
  | .istore i => s_storeI pc len i L S kd F P
  | .istore_n i => s_storeI pc len i.val L S kd F P
  | .astore i => s_storeA pc len i L S kd F P
  | .astore_n i => s_storeA pc len i.val L S kd F P
  | .iinc i n => s_iinc pc len i n L S kd F P
  | .iadd => s_bin pc len (fun x y => wr (x + y)) L S kd F P
  | .isub => s_bin pc len (fun x y => wr (x - y)) L S kd F P
  | .imul => s_bin pc len (fun x y => wr (x * y)) L S kd F P
  | .iand => s_bin pc len (fun x y => (i32 x &&& i32 y).toInt) L S kd F P
  | .idiv => s_binD pc len (fun x y => wr (Int.tdiv x y)) L S kd F P
  | .irem => s_binD pc len (fun x y => wr (x - Int.tdiv x y * y)) L S kd F P
  | .ineg => s_neg pc len L S kd F P
  | .dup => s_dup pc len L S kd F P
  | .dup2 => s_dup2 pc len L S kd F P
  | .pop => s_pop pc len L S kd F P
  | .goto off => s_goto (brn pc off) L S kd F P
  | .if_icmp c off => s_icmp pc c (brn pc off) L S kd F P
  | .ifCond c off => s_ifc pc c (brn pc off) L S kd F P
  | .iaload => s_iald pc L S kd F P
  | .aaload => s_aald pc L S kd F P
  | .iastore => s_iast pc L S kd F P
  | .aastore => s_aast pc L S kd F P
  | .arraylength => s_alen pc L S kd F P
  | .getfield _ => s_getf pc ri.1 ri.2.1 L S kd F P
  | .putfield _ => s_putf pc ri.1 ri.2.1 L S kd F P
  | .new _ => s_new pc ri.1 ri.2.1 L S kd F P
  | .newarray t => if t = .int then s_newa pc L S kd F P else none
  | .anewarray _ => s_anew pc L S kd F P
  | .getstatic _ => s_gets pc ri.1 L S kd F P
  | .tableswitch dflt lo hi offs => s_tab pc dflt lo hi offs L S kd F P
  | .lookupswitch dflt ps => s_look pc dflt ps L S kd F P
  | .invokestatic _ => if ri.2.1 = 2 then s_copy d pc L S kd F P else if ri.2.1 = 3 then s_mm d pc (fun x y => if x < y then y else x) L S kd F P else if ri.2.1 = 4 then s_mm d pc (fun x y => if y < x then y else x) L S kd F P else none
  | .invokespecial _ => if ri.2.1 = 5 then s_oini d pc L S kd F P else none
  | _ => none
/-- a return: its answer -/
def fin (rt : Option FieldType) (ins : Instr) (S : List AV) : Option (Option AV) := match ins with
  | .ireturn => match S with
    | [.inl v] => if rt = some .int ∨ rt = some .boolean ∧ (v = 0 ∨ v = 1) then some (some (.inl v)) else none
    | _ => none
  | .areturn => match S with
    | [.inr v] => match rt with
      | some (.object _) => some (some (.inr v))
      | _ => none
    | _ => none
  | .return_ => match S with
    | [] => if rt = none then some none else none
    | _ => none
  | _ => none
def isFin (ins : Instr) : Bool := match ins with
  | .ireturn => true
  | .areturn => true
  | .return_ => true
  | _ => false
/-- a call of the system's own: which, linked how (0: as ever, 1: a nest mate's) -/
def cal (ri : RI) (ins : Instr) : Option Nat := match ins with
  | .invokevirtual _ => some ri.1
  | .invokestatic _ => if ri.2.1 < 2 then some ri.1 else none
  | .invokespecial _ => if ri.2.1 < 2 then some ri.1 else none
  | _ => none
/-- the arguments of a call (the receiver, if there is one, among them) and what lies below them -/
def spl (n : Nat) (S : List AV) : Option (List AV × List AV) := if n ≤ S.length then some ((S.take n).reverse, S.drop n) else none
def ftc (pc : Nat) : List CI → Option CI
  | [] => none
  | e :: l => if e.1 = pc then some e else ftc pc l
abbrev RS : Type := Option AV × KL × FM × PM
abbrev CF : Type := Nat → List AV → KL → FM → PM → Option RS
def psh (r : Option AV) (S : List AV) : List AV := match r with
  | some v => v :: S
  | none => S
/-- the receiver is as the call wants it -/
def rcv (ce : ME) (kd : KL) (as : List AV) : Bool := match me_kd ce with
  | 0 => (match as with
    | .inr (some k) :: _ => decide (3 ≤ k) && (match kd[k]? with
      | some (c, _) => decide (c = me_ix ce + 2)
      | none => false)
    | _ => false)
  | 1 => true
  | _ => (match as with
    | .inr (some _) :: _ => true
    | _ => false)
def nar (ce : ME) : Nat := me_na ce + (if me_kd ce = 1 then 0 else 1)
def go (pg : Nat → Option ME) (d : Nat) (cf : CF) (me : ME) : Nat → Nat → LV → List AV → KL → FM → PM → Option RS
  | 0, _, _, _, _, _, _ => none
  | f + 1, pc, L, S, kd, F, P => match ftc pc (me_ci me) with
    | none => none
    | some e => if isFin e.2.1 = true then (match fin (me_rt me) e.2.1 S with
        | some r => some (r, kd, F, P)
        | none => none)
      else (match cal e.2.2.2 e.2.1 with
        | some i => (match pg i with
          | none => none
          | some ce => (match spl (nar ce) S with
            | none => none
            | some (as, S') => if S'.length ≤ 8 ∧ rcv ce kd as = true then (match cf i as kd F P with
              | none => none
              | some (r, kd1, F1, P1) => go pg d cf me f (e.1 + 3) L (psh r S') kd1 F1 P1) else none))
        | none => (match stp d e.1 e.2.2.1 e.2.2.2 e.2.1 L S kd F P with
          | none => none
          | some (pc', L', S', kd', F', P') => go pg d cf me f pc' L' S' kd' F' P'))
def lvl (pg : Nat → Option ME) : Nat → Nat → CF
  | 0, _ => fun _ _ _ _ _ => none
  | d + 1, f => fun i as kd F P => match pg i with
    | none => none
    | some me => if as.length = nar me ∧ as.length ≤ me_ml me then go pg d (lvl pg d f) me f 0 (as.map some ++ List.replicate (me_ml me - as.length) none) [] kd F P else none
end
section
/-! THE INTERPRETER IS SOUND, an instruction a row. K: where the cells stand (base, the three rows that were there before, kinds' numbers, the heap at the start). -/
abbrev GX : Type := Program × Launch × Env × Room × State × MethodId × Array Value × List Frame × Method × Code
abbrev KX : Type := Nat × (Nat → Nat) × (Nat → ClassId) × (Nat → Nat → Nat) × ClassId × ClassId × Heap × (Nat → Nat) × FM
def kz (K : KX) : Nat := K.1
def kx (K : KX) : Nat → Nat := K.2.1
def kC (K : KX) : Nat → ClassId := K.2.2.1
def kI (K : KX) : Nat → Nat → Nat := K.2.2.2.1
def kcI (K : KX) : ClassId := K.2.2.2.2.1
def kcR (K : KX) : ClassId := K.2.2.2.2.2.1
def kH (K : KX) : Heap := K.2.2.2.2.2.2.1
def kn (K : KX) : Nat → Nat := K.2.2.2.2.2.2.2.1
def kf (K : KX) : FM := K.2.2.2.2.2.2.2.2
abbrev kD (K : KX) : va_G := (kC K, kI K)
def ad (K : KX) (k : Nat) : Nat := if k < 3 then kx K k else kz K + (k - 3)
def gv (K : KX) (v : AV) : Value := match v with
  | .inl i => .int (i32 i)
  | .inr r => va_rf (r.map (ad K))
def okv (v : AV) : Prop := match v with
  | .inl i => inb i
  | .inr _ => True
def sval (K : KX) (c j : Nat) (i : Int) (r : Option Nat) : Value := if isN (tyOf c j) = true then .int (i32 i) else va_rf (r.map (ad K))
def ob (K : KX) (c n : Nat) (f : Nat → Int) (q : Nat → Option Nat) : List Value := (List.range n).map (fun j => sval K c j (f j) (q j))
def cel (K : KX) (e : Nat × Nat) (f : Nat → Int) (q : Nat → Option Nat) : va_E := match e with
  | (0, n) => .inl (kcI K, (n, .inl (fun j => i32 (f j))))
  | (1, n) => .inl (kcR K, (n, .inr (.inr (.inr (.inr (fun j => (q j).map (ad K)))))))
  | (c + 2, n) => .inr (c, ob K c n f q)
def WI (K : KX) (kd : KL) (F : FM) (P : PM) (H : Heap) : Prop :=
  3 ≤ kd.length ∧ H.size + 3 = kz K + kd.length ∧ (∀ q, q < kz K → H[q]? = (kH K)[q]?) ∧ (∀ k e, 3 ≤ k → kd[k]? = some e → va_at (kD K) vwCl (ad K k, cel K e (F k) (P k)) H) ∧ (∀ k, k < 3 → kd[k]? = some (0, kn K k) ∧ F k = kf K k)
def zA (K : KX) : Nat → Prop := fun q => kz K ≤ q
abbrev RNG : String := "HiddenBids"
def NWs : List Jvm.Cond := [.methodLinkNest RX5 38 yX4_init RNG, .methodLinkNest RX5 45 yX3_init RNG, .methodLinkNest RX7 25 yX6_init RNG, .methodLinkNest RX7 32 yX2_init RNG, .methodLinkNest RX6 41 yX7_isError RNG, .fieldLinkNest RX5 50 RNG "FIRST_SETTINGS" "[I" RNG, .fieldLinkNest RX5 114 RNG "GREATEST_SETTINGS" "[I" RNG]
def TF (K : KX) (U : State) : Prop :=
  (kH K).size = kz K ∧ va_K (kD K) vwCl [(kcI K, .int), (kcR K, .object RX5)] U ∧ (∀ w ∈ NWs, va_Nw w U) ∧ va_AO RX5 U ∧ (∀ k, k < 3 → va_T .int (kx K k) (kn K k) (fun j => .int (i32 (kf K k j))) (zA K) U (kH K)) ∧ va_Z RNG "FIRST_SETTINGS" "[I" (.ref (kx K 1)) (zA K) U (kH K) ∧ va_Z RNG "GREATEST_SETTINGS" "[I" (.ref (kx K 2)) (zA K) U (kH K)
def WL : List Jvm.Cond := lw_tbl.filter goodWord
def LI (K : KX) (L : LV) (ls : Array Slot) : Prop := ls.size = L.length ∧ lv_wf ls ∧ ∀ (i : Nat) (v : AV), L[i]? = some (some v) → ls[i]? = some (Slot.val (gv K v))
def XI (K : KX) (locs : List Loc) : Prop := ∀ q ∈ locs, kz K ≤ q.base
def ksz (kd : KL) : Nat := (kd.map Prod.snd).sum
def gW (g : GX) (H : Heap) (locs : List Loc) (cells slots : Nat) (Q : State → Prop) (fr : JFrame) : Prop :=
  W g.1 g.2.1 g.2.2.1 g.2.2.2.1 g.2.2.2.2.1 g.2.2.2.2.2.1 g.2.2.2.2.2.2.1 g.2.2.2.2.2.2.2.1 g.2.2.2.2.2.2.2.2.1 g.2.2.2.2.2.2.2.2.2 H locs cells slots Q fr
def NX (g : GX) (K : KX) (Q : State → Prop) (c0 s0 pc : Nat) (L : LV) (S : List AV) (kd : KL) (F : FM) (P : PM) : Prop :=
  ∀ ls H locs, LI K L ls → WI K kd F P H → XI K locs → gW g H locs (kd.length - c0) (ksz kd - s0) Q (F0 g.2.2.2.2.2.1 pc ls (S.map (gv K)))
def Fx (g : GX) (K : KX) (d : Nat) (me : ME) : Prop :=
  g.1.tables.exec = Jvm.exec ∧ g.2.2.2.2.2.2.2.2.2.code = me_cc me ∧ g.2.2.2.2.2.2.2.2.2.maxLocals = me_ml me ∧ g.2.2.2.2.1.vm.findClass (me_y me).cls = some g.2.2.2.2.2.1.cls ∧ (∀ w ∈ WL, w.before g.2.2.2.2.2.2.1 g.2.2.2.2.1 = true) ∧ TF K g.2.2.2.2.1 ∧ ((me_y me).name = "<init>" → g.2.2.2.2.2.2.2.2.1.name = "<init>") ∧ d ≤ g.2.2.2.1.frames ∧ 39 * d ≤ g.2.2.2.1.locals
theorem i32_toInt {i : Int} (h : inb i) : (i32 i).toInt = i := Int32.toInt_ofInt_of_le (by have := h.1; omega) (by have := h.2; omega)
theorem i32_wr (i : Int) : i32 (wr i) = i32 i := by
  unfold i32
  rw [Int32.ofInt_eq_iff_bmod_eq_toInt, Int32.toInt_ofInt]
  unfold wr
  show Int.bmod _ _ = Int.bmod _ 4294967296
  simp only [Int.bmod]
  omega
theorem inb_wr (i : Int) : inb (wr i) := by unfold inb wr; omega
theorem inb_toInt (x : Int32) : inb x.toInt := ⟨by have := x.le_toInt; omega, by have := x.toInt_lt; omega⟩
theorem i32_of (x : Int32) : i32 x.toInt = x := Int32.ofInt_toInt x
theorem wr_id {i : Int} (h : inb i) : wr i = i := by unfold wr; unfold inb at h; omega
theorem i32_add (a b : Int) : i32 (wr (a + b)) = i32 a + i32 b := by rw [i32_wr]; exact Int32.ofInt_add a b
theorem i32_sub (a b : Int) : i32 (wr (a - b)) = i32 a - i32 b := by rw [i32_wr]; exact Int32.ofInt_sub a b
theorem i32_mul (a b : Int) : i32 (wr (a * b)) = i32 a * i32 b := by rw [i32_wr]; exact Int32.ofInt_mul a b
theorem i32_neg (a : Int) : i32 (wr (-a)) = -i32 a := by rw [i32_wr]; exact Int32.ofInt_neg a
theorem i32_div {a b : Int} (ha : inb a) (hb : inb b) : i32 (wr (Int.tdiv a b)) = i32 a / i32 b := by
  rw [i32_wr, ← Int32.toInt_inj, Int32.toInt_div, i32_toInt ha, i32_toInt hb]
  exact Int32.toInt_ofInt
theorem i32_rem {a b : Int} (ha : inb a) (hb : inb b) : i32 (wr (a - Int.tdiv a b * b)) = i32 a - i32 a / i32 b * i32 b := by
  rw [i32_sub, ← i32_div ha hb, i32_wr (Int.tdiv a b), ← i32_mul, i32_wr]
theorem i32_le {a b : Int} (ha : inb a) (hb : inb b) : i32 a ≤ i32 b ↔ a ≤ b := by rw [Int32.le_iff_toInt_le, i32_toInt ha, i32_toInt hb]
theorem i32_lt {a b : Int} (ha : inb a) (hb : inb b) : i32 a < i32 b ↔ a < b := by rw [Int32.lt_iff_toInt_lt, i32_toInt ha, i32_toInt hb]
theorem i32_eq {a b : Int} (ha : inb a) (hb : inb b) : i32 a = i32 b ↔ a = b := by rw [← Int32.toInt_inj, i32_toInt ha, i32_toInt hb]
theorem i32_0 : (0 : Int32) = i32 0 := by decide
theorem inb_0 : inb 0 := by unfold inb; omega
theorem i32_n {a : Int} (h : inb a) : (i32 a).toNatClampNeg = a.toNat := by show (i32 a).toInt.toNat = _; rw [i32_toInt h]
theorem i32_in {a : Int} {n : Nat} (h : inb a) (h0 : 0 ≤ a) (h1 : a < n) : vp_in (i32 a) n := vp_in_iff.mpr (by rw [i32_toInt h]; exact ⟨h0, h1⟩)
theorem i32_8 {n : Int} (h0 : -128 ≤ n) (h1 : n < 128) : (Int8.ofInt n).toInt32 = i32 n := by
  rw [← Int32.toInt_inj, Int8.toInt_toInt32, i32_toInt (by unfold inb; omega)]
  exact Int8.toInt_ofInt_of_le (by omega) (by omega)
theorem i32_16 {n : Int} (h0 : -32768 ≤ n) (h1 : n < 32768) : (Int16.ofInt n).toInt32 = i32 n := by
  rw [← Int32.toInt_inj, Int16.toInt_toInt32, i32_toInt (by unfold inb; omega)]
  exact Int16.toInt_ofInt_of_le (by omega) (by omega)
theorem inbB_spec {i : Int} (h : inbB i = true) : inb i := by
  simp only [inbB, Bool.and_eq_true, decide_eq_true_eq] at h
  exact h
theorem gv_cat (K : KX) (v : AV) : (gv K v).category = 1 := by
  rcases v with i | r
  · rfl
  · cases r <;> rfl
theorem gv_cats (K : KX) (S : List AV) : ((S.map (gv K)).map fun v => v.category).sum = S.length := by
  induction S with
  | nil => rfl
  | cons v S ih => simp only [List.map_cons, List.sum_cons, List.length_cons, ih, gv_cat]; omega
theorem WL_lw {w : Jvm.Cond} (h : w ∈ WL) : w ∈ lw_tbl := (List.mem_filter.mp h).1
theorem WL_good {w : Jvm.Cond} (h : w ∈ WL) : goodWord w = true := (List.mem_filter.mp h).2
theorem WL_of {p : Nat} {w : Jvm.Cond} (h : lw_tbl[p]? = some w) (hg : goodWord w = true) : w ∈ WL := List.mem_filter.mpr ⟨List.mem_of_getElem? h, hg⟩
theorem WL_GoodIn {ws : List Jvm.Cond} (h : ∀ w ∈ ws, w ∈ WL) : GoodIn WL ws := fun w hw => ⟨h w hw, good_of_word (WL_good (h w hw))⟩
/-! ## locals -/
def lvk (K : KX) (L : LV) : List (Nat × Value) := (List.range L.length).filterMap (fun i => match L[i]? with
  | some (some v) => some (i, gv K v)
  | _ => none)
theorem lvk_mem {K : KX} {L : LV} {q : Nat × Value} (h : q ∈ lvk K L) : ∃ v, L[q.1]? = some (some v) ∧ q.2 = gv K v := by
  unfold lvk at h
  obtain ⟨i, -, hi⟩ := List.mem_filterMap.mp h
  split at hi
  · next v hv => cases hi; exact ⟨v, hv, rfl⟩
  · cases hi
theorem lvk_in {K : KX} {L : LV} {i : Nat} {v : AV} (h : L[i]? = some (some v)) : (i, gv K v) ∈ lvk K L := by
  unfold lvk
  refine List.mem_filterMap.mpr ⟨i, List.mem_range.mpr (List.getElem?_eq_some_iff.mp h).1, ?_⟩
  rw [h]
theorem LI_has {K : KX} {L : LV} {ls : Array Slot} (h : LI K L ls) : lv_has ls L.length (lvk K L) := ⟨h.1, h.2.1, fun q hq => by
  obtain ⟨v, h1, h2⟩ := lvk_mem hq
  rw [h2]
  exact h.2.2 _ _ h1⟩
theorem LI_set {K : KX} {L : LV} {ls : Array Slot} {i : Nat} {v : AV} {lv : List (Nat × Value)} (hsub : ∀ q ∈ lvk K L, q ∈ lv) (h : lv_has ls L.length ((i, gv K v) :: lv.filter (fun q => !(q.1 == i) && !(q.1 + 1 == i && q.2.category == 2)))) : LI K (L.set i (some v)) ls := by
  refine ⟨by rw [List.length_set]; exact h.1, h.2.1, fun j w hj => ?_⟩
  rw [List.getElem?_set] at hj
  by_cases hij : i = j
  · subst hij
    rw [if_pos rfl] at hj
    split at hj
    · cases hj
      exact h.2.2 (i, gv K v) List.mem_cons_self
    · cases hj
  · rw [if_neg hij] at hj
    refine h.2.2 (j, gv K w) (List.mem_cons_of_mem _ (List.mem_filter.mpr ⟨hsub _ (lvk_in hj), ?_⟩))
    have : (j == i) = false := by simp; omega
    simp [this, gv_cat]
/-! ## the world -/
theorem WI_at {K : KX} {kd : KL} {F : FM} {P : PM} {H : Heap} (h : WI K kd F P H) {k : Nat} {e : Nat × Nat} (h3 : 3 ≤ k) (hk : kd[k]? = some e) : va_P (kD K) vwCl [(ad K k, cel K e (F k) (P k))] H := by
  intro i q hi
  have h1 : i < 1 := (List.getElem?_eq_some_iff.mp hi).1
  rw [show i = 0 by omega] at hi
  cases hi
  exact h.2.2.2.1 k e h3 hk
theorem ad_lt {K : KX} {kd : KL} {F : FM} {P : PM} {H : Heap} (h : WI K kd F P H) {k : Nat} {e : Nat × Nat} (h3 : 3 ≤ k) (hk : kd[k]? = some e) : kz K ≤ ad K k ∧ ad K k < H.size := by
  have hl := (List.getElem?_eq_some_iff.mp hk).1
  have h2 := h.2.1
  unfold ad
  rw [if_neg (by omega)]
  omega
theorem ad_inj {K : KX} {k j : Nat} (h3 : 3 ≤ k) (j3 : 3 ≤ j) (h : ad K k = ad K j) : k = j := by
  unfold ad at h
  rw [if_neg (by omega), if_neg (by omega)] at h
  omega
/-- one cell is written anew -/
theorem WI_put {K : KX} {kd : KL} {F F' : FM} {P P' : PM} {H H' : Heap} (h : WI K kd F P H) {k : Nat} {e : Nat × Nat} (h3 : 3 ≤ k) (hk : kd[k]? = some e) (hat : va_at (kD K) vwCl (ad K k, cel K e (F' k) (P' k)) H') (hz : H'.size = H.size) (ho : ∀ q, q ≠ ad K k → H'[q]? = H[q]?) (hF : ∀ j, j ≠ k → F' j = F j) (hP : ∀ j, j ≠ k → P' j = P j) : WI K kd F' P' H' := by
  obtain ⟨a0, a1, a2, a3, a4⟩ := id h
  have hlt := ad_lt h h3 hk
  refine ⟨a0, by rw [hz]; exact a1, fun q hq => (ho q (by omega)).trans (a2 q hq), fun j e' j3 hj => ?_, fun j j3 => ⟨(a4 j j3).1, by rw [hF j (by omega)]; exact (a4 j j3).2⟩⟩
  by_cases hjk : j = k
  · subst hjk
    cases hk.symm.trans hj
    exact hat
  · rw [hF j hjk, hP j hjk]
    exact (a3 j e' j3 hj).kept (ho _ (fun z => hjk (ad_inj j3 h3 z)))
/-- a new cell comes -/
theorem WI_new {K : KX} {kd : KL} {F F' : FM} {P P' : PM} {H H' : Heap} (h : WI K kd F P H) {e : Nat × Nat} (hat : va_at (kD K) vwCl (ad K kd.length, cel K e (F' kd.length) (P' kd.length)) H') (hz : H'.size = H.size + 1) (ho : ∀ q, q < H.size → H'[q]? = H[q]?) (hF : ∀ j, j ≠ kd.length → F' j = F j) (hP : ∀ j, j ≠ kd.length → P' j = P j) : WI K (kd ++ [e]) F' P' H' := by
  obtain ⟨a0, a1, a2, a3, a4⟩ := id h
  refine ⟨by simp; omega, by rw [hz, List.length_append]; simp; omega, fun q hq => (ho q (by omega)).trans (a2 q hq), fun j e' j3 hj => ?_, fun j j3 => ⟨by rw [List.getElem?_append_left (by omega)]; exact (a4 j j3).1, by rw [hF j (by omega)]; exact (a4 j j3).2⟩⟩
  by_cases hl : j < kd.length
  · rw [List.getElem?_append_left hl] at hj
    rw [hF j (by omega), hP j (by omega)]
    exact (a3 j e' j3 hj).kept (ho _ (ad_lt h j3 hj).2)
  · rw [List.getElem?_append_right (by omega)] at hj
    have hz : j - kd.length < 1 := (List.getElem?_eq_some_iff.mp hj).1
    have hjl : j = kd.length := by omega
    subst hjl
    rw [Nat.sub_self] at hj
    cases hj
    exact hat
theorem ad_new {K : KX} {kd : KL} {F : FM} {P : PM} {H : Heap} (h : WI K kd F P H) : ad K kd.length = H.size := by
  have h0 := h.1
  have h2 := h.2.1
  unfold ad
  rw [if_neg (by omega)]
  omega
end
section
section STEPS
variable {g : GX} {K : KX} {d : Nat} {me : ME} {Q : State → Prop} {c0 s0 pc : Nat} {L : LV} {S : List AV} {kd : KL} {F : FM} {P : PM}
abbrev fx_x (h : Fx g K d me) := h.1
theorem nx_const (fx : Fx g K d me) {ins : Instr} {len : Nat} {v : Int} (h : ∀ (H : Heap) (locs : List Loc) (cells slots : Nat) (ls : Array Slot) (rest : List Value), gW g H locs cells slots Q (F0 g.2.2.2.2.2.1 (pc + len) ls (.int (i32 v) :: rest)) → gW g H locs cells slots Q (F0 g.2.2.2.2.2.1 pc ls rest)) (nx : NX g K Q c0 s0 (pc + len) L (.inl v :: S) kd F P) : NX g K Q c0 s0 pc L S kd F P :=
  fun ls H locs hL hW hX => h H locs _ _ ls _ (nx ls H locs hL hW hX)
theorem nx_iconst (fx : Fx g K d me) {v : Int} (hd : decode (me_cc me) pc = .ok (.iconst v, 1)) (nx : NX g K Q c0 s0 (pc + 1) L (.inl v :: S) kd F P) : NX g K Q c0 s0 pc L S kd F P :=
  fun ls H locs hL hW hX => lv_iconst fx.1 fx.2.1 hd rfl (nx ls H locs hL hW hX)
theorem nx_bipush (fx : Fx g K d me) {v : Int} (hd : decode (me_cc me) pc = .ok (.bipush v, 2)) (h0 : -128 ≤ v) (h1 : v < 128) (nx : NX g K Q c0 s0 (pc + 2) L (.inl v :: S) kd F P) : NX g K Q c0 s0 pc L S kd F P :=
  fun ls H locs hL hW hX => lv_bipush fx.1 fx.2.1 hd (i32_8 h0 h1) (nx ls H locs hL hW hX)
theorem nx_sipush (fx : Fx g K d me) {v : Int} (hd : decode (me_cc me) pc = .ok (.sipush v, 3)) (h0 : -32768 ≤ v) (h1 : v < 32768) (nx : NX g K Q c0 s0 (pc + 3) L (.inl v :: S) kd F P) : NX g K Q c0 s0 pc L S kd F P :=
  fun ls H locs hL hW hX => lv_sipush fx.1 fx.2.1 hd (i32_16 h0 h1) (nx ls H locs hL hW hX)
theorem nx_ldc (fx : Fx g K d me) {v : Int} {idx : Nat} (hd : decode (me_cc me) pc = .ok (.ldc idx, 2)) (hw : Jvm.Cond.constant (me_y me).cls idx (i32 v) ∈ WL) (nx : NX g K Q c0 s0 (pc + 2) L (.inl v :: S) kd F P) : NX g K Q c0 s0 pc L S kd F P :=
  fun ls H locs hL hW hX => lv_ldc fx.1 fx.2.1 fx.2.2.2.1 (fx.2.2.2.2.1 _ hw) hd (nx ls H locs hL hW hX)
theorem ldI_spec {i : Nat} {v : AV} (h : ldI L i = some v) : ∃ x, v = .inl x ∧ L[i]? = some (some (.inl x)) := by
  unfold ldI at h
  split at h
  · next x hx => cases h; exact ⟨x, rfl, hx⟩
  · cases h
theorem ldA_spec {i : Nat} {v : AV} (h : ldA L i = some v) : ∃ x, v = .inr (some x) ∧ L[i]? = some (some (.inr (some x))) := by
  unfold ldA at h
  split at h
  · next x hx => cases h; exact ⟨x, rfl, hx⟩
  · cases h
theorem nx_iload (fx : Fx g K d me) {i : Nat} {v : AV} (hd : decode (me_cc me) pc = .ok (.iload i, 2)) (hl : ldI L i = some v) (nx : NX g K Q c0 s0 (pc + 2) L (v :: S) kd F P) : NX g K Q c0 s0 pc L S kd F P := by
  obtain ⟨x, rfl, hx⟩ := ldI_spec hl
  exact fun ls H locs hL hW hX => lv_iload fx.1 fx.2.1 hd (hL.2.2 _ _ hx) (nx ls H locs hL hW hX)
theorem nx_iload_n (fx : Fx g K d me) {i : Fin 4} {v : AV} (hd : decode (me_cc me) pc = .ok (.iload_n i, 1)) (hl : ldI L i.val = some v) (nx : NX g K Q c0 s0 (pc + 1) L (v :: S) kd F P) : NX g K Q c0 s0 pc L S kd F P := by
  obtain ⟨x, rfl, hx⟩ := ldI_spec hl
  exact fun ls H locs hL hW hX => lv_iload_n fx.1 fx.2.1 hd rfl (hL.2.2 _ _ hx) (nx ls H locs hL hW hX)
theorem nx_aload (fx : Fx g K d me) {i : Nat} {v : AV} (hd : decode (me_cc me) pc = .ok (.aload i, 2)) (hl : ldA L i = some v) (nx : NX g K Q c0 s0 (pc + 2) L (v :: S) kd F P) : NX g K Q c0 s0 pc L S kd F P := by
  obtain ⟨x, rfl, hx⟩ := ldA_spec hl
  exact fun ls H locs hL hW hX => lv_aload fx.1 fx.2.1 hd (hL.2.2 _ _ hx) (nx ls H locs hL hW hX)
theorem nx_aload_n (fx : Fx g K d me) {i : Fin 4} {v : AV} (hd : decode (me_cc me) pc = .ok (.aload_n i, 1)) (hl : ldA L i.val = some v) (nx : NX g K Q c0 s0 (pc + 1) L (v :: S) kd F P) : NX g K Q c0 s0 pc L S kd F P := by
  obtain ⟨x, rfl, hx⟩ := ldA_spec hl
  exact fun ls H locs hL hW hX => lv_aload_n fx.1 fx.2.1 hd rfl (hL.2.2 _ _ hx) (nx ls H locs hL hW hX)
theorem nx_istore (fx : Fx g K d me) {i : Nat} {x : Int} (hd : decode (me_cc me) pc = .ok (.istore i, 2)) (hi : i < L.length) (nx : NX g K Q c0 s0 (pc + 2) (L.set i (some (.inl x))) S kd F P) : NX g K Q c0 s0 pc L (.inl x :: S) kd F P :=
  fun ls H locs hL hW hX => lv_istore fx.1 fx.2.1 hd (LI_has hL) hi rfl (fun ls' hl' => nx ls' H locs (LI_set (v := .inl x) (fun _ h => h) hl') hW hX)
theorem nx_istore_n (fx : Fx g K d me) {i : Fin 4} {x : Int} (hd : decode (me_cc me) pc = .ok (.istore_n i, 1)) (hi : i.val < L.length) (nx : NX g K Q c0 s0 (pc + 1) (L.set i.val (some (.inl x))) S kd F P) : NX g K Q c0 s0 pc L (.inl x :: S) kd F P :=
  fun ls H locs hL hW hX => lv_istore_n fx.1 fx.2.1 hd rfl (LI_has hL) hi rfl (fun ls' hl' => nx ls' H locs (LI_set (v := .inl x) (fun _ h => h) hl') hW hX)
theorem nx_astore (fx : Fx g K d me) {i : Nat} {x : Nat} (hd : decode (me_cc me) pc = .ok (.astore i, 2)) (hi : i < L.length) (nx : NX g K Q c0 s0 (pc + 2) (L.set i (some (.inr (some x)))) S kd F P) : NX g K Q c0 s0 pc L (.inr (some x) :: S) kd F P :=
  fun ls H locs hL hW hX => lv_astore fx.1 fx.2.1 hd (LI_has hL) hi rfl (fun ls' hl' => nx ls' H locs (LI_set (v := .inr (some x)) (fun _ h => h) hl') hW hX)
theorem nx_astore_n (fx : Fx g K d me) {i : Fin 4} {x : Nat} (hd : decode (me_cc me) pc = .ok (.astore_n i, 1)) (hi : i.val < L.length) (nx : NX g K Q c0 s0 (pc + 1) (L.set i.val (some (.inr (some x)))) S kd F P) : NX g K Q c0 s0 pc L (.inr (some x) :: S) kd F P :=
  fun ls H locs hL hW hX => lv_astore_n fx.1 fx.2.1 hd rfl (LI_has hL) hi rfl (fun ls' hl' => nx ls' H locs (LI_set (v := .inr (some x)) (fun _ h => h) hl') hW hX)
theorem nx_iinc (fx : Fx g K d me) {i : Nat} {n x : Int} (hd : decode (me_cc me) pc = .ok (.iinc i n, 3)) (hi : L[i]? = some (some (.inl x))) (nx : NX g K Q c0 s0 (pc + 3) (L.set i (some (.inl (wr (x + n))))) S kd F P) : NX g K Q c0 s0 pc L S kd F P :=
  fun ls H locs hL hW hX => lv_iinc (lv := (i, gv K (.inl x)) :: lvk K L) (k := 0) fx.1 fx.2.1 hd ⟨hL.1, hL.2.1, fun q hq => by
    rcases List.mem_cons.mp hq with h | h
    · rw [h]; exact hL.2.2 _ _ hi
    · exact (LI_has hL).2.2 q h⟩ rfl (i32_add x n).symm (List.getElem?_eq_some_iff.mp hi).1 rfl (fun ls' hl' => nx ls' H locs (LI_set (v := .inl (wr (x + n))) (fun q h => List.mem_cons_of_mem _ h) hl') hW hX)
theorem nx_iadd (fx : Fx g K d me) {x y : Int} (hd : decode (me_cc me) pc = .ok (.iadd, 1)) (nx : NX g K Q c0 s0 (pc + 1) L (.inl (wr (x + y)) :: S) kd F P) : NX g K Q c0 s0 pc L (.inl y :: .inl x :: S) kd F P :=
  fun ls H locs hL hW hX => lv_iadd fx.1 fx.2.1 hd (by have := nx ls H locs hL hW hX; simp only [List.map_cons, gv, i32_add] at this; exact this)
theorem nx_isub (fx : Fx g K d me) {x y : Int} (hd : decode (me_cc me) pc = .ok (.isub, 1)) (nx : NX g K Q c0 s0 (pc + 1) L (.inl (wr (x - y)) :: S) kd F P) : NX g K Q c0 s0 pc L (.inl y :: .inl x :: S) kd F P :=
  fun ls H locs hL hW hX => lv_isub fx.1 fx.2.1 hd (by have := nx ls H locs hL hW hX; simp only [List.map_cons, gv, i32_sub] at this; exact this)
theorem nx_imul (fx : Fx g K d me) {x y : Int} (hd : decode (me_cc me) pc = .ok (.imul, 1)) (nx : NX g K Q c0 s0 (pc + 1) L (.inl (wr (x * y)) :: S) kd F P) : NX g K Q c0 s0 pc L (.inl y :: .inl x :: S) kd F P :=
  fun ls H locs hL hW hX => lv_imul fx.1 fx.2.1 hd (by have := nx ls H locs hL hW hX; simp only [List.map_cons, gv, i32_mul] at this; exact this)
theorem nx_iand (fx : Fx g K d me) {x y : Int} (hd : decode (me_cc me) pc = .ok (.iand, 1)) (nx : NX g K Q c0 s0 (pc + 1) L (.inl (i32 x &&& i32 y).toInt :: S) kd F P) : NX g K Q c0 s0 pc L (.inl y :: .inl x :: S) kd F P :=
  fun ls H locs hL hW hX => lv_iand fx.1 fx.2.1 hd (by have := nx ls H locs hL hW hX; simp only [List.map_cons, gv, i32_of] at this; exact this)
theorem nx_ineg (fx : Fx g K d me) {x : Int} (hd : decode (me_cc me) pc = .ok (.ineg, 1)) (nx : NX g K Q c0 s0 (pc + 1) L (.inl (wr (-x)) :: S) kd F P) : NX g K Q c0 s0 pc L (.inl x :: S) kd F P :=
  fun ls H locs hL hW hX => lv_ineg fx.1 fx.2.1 hd (by have := nx ls H locs hL hW hX; simp only [List.map_cons, gv, i32_neg] at this; exact this)
theorem nx_idiv (fx : Fx g K d me) {x y : Int} (hd : decode (me_cc me) pc = .ok (.idiv, 1)) (hx : inb x) (hy : inb y) (h0 : y ≠ 0) (nx : NX g K Q c0 s0 (pc + 1) L (.inl (wr (Int.tdiv x y)) :: S) kd F P) : NX g K Q c0 s0 pc L (.inl y :: .inl x :: S) kd F P :=
  fun ls H locs hL hW hX => lv_idiv fx.1 fx.2.1 hd (fun h => h0 ((i32_eq hy inb_0).mp (h.trans i32_0))) (by have := nx ls H locs hL hW hX; simp only [List.map_cons, gv, i32_div hx hy] at this; exact this)
theorem nx_irem (fx : Fx g K d me) {x y : Int} (hd : decode (me_cc me) pc = .ok (.irem, 1)) (hx : inb x) (hy : inb y) (h0 : y ≠ 0) (nx : NX g K Q c0 s0 (pc + 1) L (.inl (wr (x - Int.tdiv x y * y)) :: S) kd F P) : NX g K Q c0 s0 pc L (.inl y :: .inl x :: S) kd F P :=
  fun ls H locs hL hW hX => lv_irem fx.1 fx.2.1 hd (fun h => h0 ((i32_eq hy inb_0).mp (h.trans i32_0))) (by have := nx ls H locs hL hW hX; simp only [List.map_cons, gv, i32_rem hx hy] at this; exact this)
theorem nx_dup (fx : Fx g K d me) {v : AV} (hd : decode (me_cc me) pc = .ok (.dup, 1)) (nx : NX g K Q c0 s0 (pc + 1) L (v :: v :: S) kd F P) : NX g K Q c0 s0 pc L (v :: S) kd F P :=
  fun ls H locs hL hW hX => lv_dup fx.1 fx.2.1 hd (gv_cat K v) (nx ls H locs hL hW hX)
theorem nx_dup2 (fx : Fx g K d me) {v w : AV} (hd : decode (me_cc me) pc = .ok (.dup2, 1)) (nx : NX g K Q c0 s0 (pc + 1) L (v :: w :: v :: w :: S) kd F P) : NX g K Q c0 s0 pc L (v :: w :: S) kd F P :=
  fun ls H locs hL hW hX => lv_dup2_11 fx.1 fx.2.1 hd (gv_cat K v) (gv_cat K w) (nx ls H locs hL hW hX)
theorem nx_pop (fx : Fx g K d me) {v : AV} (hd : decode (me_cc me) pc = .ok (.pop, 1)) (nx : NX g K Q c0 s0 (pc + 1) L S kd F P) : NX g K Q c0 s0 pc L (v :: S) kd F P :=
  fun ls H locs hL hW hX => lv_pop fx.1 fx.2.1 hd (gv_cat K v) (nx ls H locs hL hW hX)
theorem brn_spec {off : Int} {t : Nat} (h : brn pc off = some t) : (pc : Int) + off = (t : Int) := by
  unfold brn at h
  split at h
  · cases h; omega
  · cases h
theorem nx_goto (fx : Fx g K d me) {off : Int} {t : Nat} (hd : decode (me_cc me) pc = .ok (.goto off, 3)) (ht : brn pc off = some t) (nx : NX g K Q c0 s0 t L S kd F P) : NX g K Q c0 s0 pc L S kd F P :=
  fun ls H locs hL hW hX => lv_goto fx.1 fx.2.1 hd (brn_spec ht) (nx ls H locs hL hW hX)
theorem nx_icmp (fx : Fx g K d me) {c : Jvm.ClassFile.Cond} {off : Int} {t : Nat} {x y : Int} (hd : decode (me_cc me) pc = .ok (.if_icmp c off, 3)) (ht : brn pc off = some t) (hx : inb x) (hy : inb y) (nx : NX g K Q c0 s0 (if cmpc c x y = true then t else pc + 3) L S kd F P) : NX g K Q c0 s0 pc L (.inl y :: .inl x :: S) kd F P := by
  intro ls H locs hL hW hX
  have h := nx ls H locs hL hW hX
  cases c <;> simp only [cmpc, decide_eq_true_eq] at h
  · exact lv_icmp_eq fx.1 fx.2.1 hd (brn_spec ht) (fun q => by rw [if_pos ((i32_eq hx hy).mp q)] at h; exact h) (fun q => by rw [if_neg (fun z => q ((i32_eq hx hy).mpr z))] at h; exact h)
  · exact lv_icmp_ne fx.1 fx.2.1 hd (brn_spec ht) (fun q => by rw [if_pos (fun z => q ((i32_eq hx hy).mpr z))] at h; exact h) (fun q => by rw [if_neg (fun z => z ((i32_eq hx hy).mp q))] at h; exact h)
  · exact lv_icmp_lt fx.1 fx.2.1 hd (brn_spec ht) (fun q => by rw [if_pos ((i32_lt hx hy).mp q)] at h; exact h) (fun q => by rw [if_neg (fun z => q ((i32_lt hx hy).mpr z))] at h; exact h)
  · exact lv_icmp_ge fx.1 fx.2.1 hd (brn_spec ht) (fun q => by rw [if_pos ((i32_le hy hx).mp q)] at h; exact h) (fun q => by rw [if_neg (fun z => q ((i32_le hy hx).mpr z))] at h; exact h)
  · exact lv_icmp_gt fx.1 fx.2.1 hd (brn_spec ht) (fun q => by rw [if_pos ((i32_lt hy hx).mp q)] at h; exact h) (fun q => by rw [if_neg (fun z => q ((i32_lt hy hx).mpr z))] at h; exact h)
  · exact lv_icmp_le fx.1 fx.2.1 hd (brn_spec ht) (fun q => by rw [if_pos ((i32_le hx hy).mp q)] at h; exact h) (fun q => by rw [if_neg (fun z => q ((i32_le hx hy).mpr z))] at h; exact h)
theorem nx_ifc (fx : Fx g K d me) {c : Jvm.ClassFile.Cond} {off : Int} {t : Nat} {x : Int} (hd : decode (me_cc me) pc = .ok (.ifCond c off, 3)) (ht : brn pc off = some t) (hx : inb x) (nx : NX g K Q c0 s0 (if cmpc c x 0 = true then t else pc + 3) L S kd F P) : NX g K Q c0 s0 pc L (.inl x :: S) kd F P := by
  intro ls H locs hL hW hX
  have h := nx ls H locs hL hW hX
  have hy := inb_0
  cases c <;> simp only [cmpc, decide_eq_true_eq] at h
  · exact lv_if_eq fx.1 fx.2.1 hd (brn_spec ht) (fun q => by rw [if_pos ((i32_eq hx hy).mp (q.trans i32_0))] at h; exact h) (fun q => by rw [if_neg (fun z => q (((i32_eq hx hy).mpr z).trans i32_0.symm))] at h; exact h)
  · exact lv_if_ne fx.1 fx.2.1 hd (brn_spec ht) (fun q => by rw [if_pos (fun z => q (((i32_eq hx hy).mpr z).trans i32_0.symm))] at h; exact h) (fun q => by rw [if_neg (fun z => z ((i32_eq hx hy).mp (q.trans i32_0)))] at h; exact h)
  · exact lv_if_lt fx.1 fx.2.1 hd (brn_spec ht) (fun q => by rw [if_pos ((i32_lt hx hy).mp (by rw [← i32_0]; exact q))] at h; exact h) (fun q => by rw [if_neg (fun z => q (by rw [i32_0]; exact (i32_lt hx hy).mpr z))] at h; exact h)
  · exact lv_if_ge fx.1 fx.2.1 hd (brn_spec ht) (fun q => by rw [if_pos ((i32_le hy hx).mp (by rw [← i32_0]; exact q))] at h; exact h) (fun q => by rw [if_neg (fun z => q (by rw [i32_0]; exact (i32_le hy hx).mpr z))] at h; exact h)
  · exact lv_if_gt fx.1 fx.2.1 hd (brn_spec ht) (fun q => by rw [if_pos ((i32_lt hy hx).mp (by rw [← i32_0]; exact q))] at h; exact h) (fun q => by rw [if_neg (fun z => q (by rw [i32_0]; exact (i32_lt hy hx).mpr z))] at h; exact h)
  · exact lv_if_le fx.1 fx.2.1 hd (brn_spec ht) (fun q => by rw [if_pos ((i32_le hx hy).mp (by rw [← i32_0]; exact q))] at h; exact h) (fun q => by rw [if_neg (fun z => q (by rw [i32_0]; exact (i32_le hx hy).mpr z))] at h; exact h)
theorem nx_tab (fx : Fx g K d me) {dflt lo hi : Int} {offs : Array Int} {len : Nat} {x : Int} {st : AS} (hd : decode (me_cc me) pc = .ok (.tableswitch dflt lo hi offs, len)) (hx : inb x) (hs : s_tab pc dflt lo hi offs L (.inl x :: S) kd F P = some st) (nx : NX g K Q c0 s0 st.1 st.2.1 st.2.2.1 st.2.2.2.1 st.2.2.2.2.1 st.2.2.2.2.2) : NX g K Q c0 s0 pc L (.inl x :: S) kd F P := by
  simp only [s_tab] at hs
  split at hs
  · next h =>
    split at hs
    · next off ho =>
      unfold s_goto at hs
      split at hs
      · next t ht =>
        cases hs
        exact fun ls H locs hL hW hX => lv_tableIn fx.1 fx.2.1 hd (by rw [i32_toInt hx]; omega) (by rw [i32_toInt hx]; omega) (by rw [i32_toInt hx]; exact ho) (brn_spec ht) (nx ls H locs hL hW hX)
      · cases hs
    · cases hs
  · next h =>
    unfold s_goto at hs
    split at hs
    · next t ht =>
      cases hs
      exact fun ls H locs hL hW hX => lv_tableOut fx.1 fx.2.1 hd (by rw [i32_toInt hx]; omega) (brn_spec ht) (nx ls H locs hL hW hX)
    · cases hs
theorem nx_look (fx : Fx g K d me) {dflt : Int} {ps : Array (Int × Int)} {len : Nat} {x : Int} {st : AS} (hd : decode (me_cc me) pc = .ok (.lookupswitch dflt ps, len)) (hx : inb x) (hs : s_look pc dflt ps L (.inl x :: S) kd F P = some st) (nx : NX g K Q c0 s0 st.1 st.2.1 st.2.2.1 st.2.2.2.1 st.2.2.2.2.1 st.2.2.2.2.2) : NX g K Q c0 s0 pc L (.inl x :: S) kd F P := by
  simp only [s_look] at hs
  split at hs
  · next h =>
    unfold s_goto at hs
    split at hs
    · next t ht =>
      cases hs
      exact fun ls H locs hL hW hX => lv_lookup fx.1 fx.2.1 hd h (by rw [i32_toInt hx]) (brn_spec ht) (nx ls H locs hL hW hX)
    · cases hs
  · cases hs
theorem nx_mmax (fx : Fx g K d me) {idx : Nat} {x y : Int} (hml : L.length = me_ml me) (hd : decode (me_cc me) pc = .ok (.invokestatic idx, 3)) (hl : Jvm.Cond.methodLink (me_y me).cls idx Lib.Math.max.name ∈ WL) (hst : Jvm.Cond.static Lib.Math.max.name ∈ WL) (hin : Jvm.Cond.initialized "java/lang/Math" ∈ WL) (hco : Jvm.Cond.code Lib.Math.max.name Lib.Math.max.code 2 (some .int) ∈ WL) (h2 : 2 ≤ d) (h4 : S.length ≤ 4) (hx : inb x) (hy : inb y) (hc : kd.length - c0 ≤ g.2.2.2.1.cells ∧ ksz kd - s0 ≤ g.2.2.2.1.slots) (nx : NX g K Q c0 s0 (pc + 3) L (.inl (if x < y then y else x) :: S) kd F P) : NX g K Q c0 s0 pc L (.inl y :: .inl x :: S) kd F P :=
  fun ls H locs hL hW hX => va_mmax fx.1 fx.2.1 (by rw [fx.2.2.1, hL.1, hml]) fx.2.2.2.1 (fx.2.2.2.2.1 _ hl) (fx.2.2.2.2.1 _ hst) (fx.2.2.2.2.1 _ hin) (fx.2.2.2.2.1 _ hco) (by have := fx.2.2.2.2.2.2.2.1; omega) (by have := fx.2.2.2.2.2.2.2.2; rw [gv_cats]; omega) hc.1 hc.2 hd (by
    have e := nx ls H locs hL hW hX
    simp only [List.map_cons, gv] at e
    have e2 : i32 (if x < y then y else x) = if i32 x < i32 y then i32 y else i32 x := by
      by_cases q : x < y
      · rw [if_pos q, if_pos ((i32_lt hx hy).mpr q)]
      · rw [if_neg q, if_neg (fun z => q ((i32_lt hx hy).mp z))]
    rw [e2] at e
    exact e)
theorem nx_mmin (fx : Fx g K d me) {idx : Nat} {x y : Int} (hml : L.length = me_ml me) (hd : decode (me_cc me) pc = .ok (.invokestatic idx, 3)) (hl : Jvm.Cond.methodLink (me_y me).cls idx Lib.Math.min.name ∈ WL) (hst : Jvm.Cond.static Lib.Math.min.name ∈ WL) (hin : Jvm.Cond.initialized "java/lang/Math" ∈ WL) (hco : Jvm.Cond.code Lib.Math.min.name Lib.Math.min.code 2 (some .int) ∈ WL) (h2 : 2 ≤ d) (h4 : S.length ≤ 4) (hx : inb x) (hy : inb y) (hc : kd.length - c0 ≤ g.2.2.2.1.cells ∧ ksz kd - s0 ≤ g.2.2.2.1.slots) (nx : NX g K Q c0 s0 (pc + 3) L (.inl (if y < x then y else x) :: S) kd F P) : NX g K Q c0 s0 pc L (.inl y :: .inl x :: S) kd F P :=
  fun ls H locs hL hW hX => va_mmin fx.1 fx.2.1 (by rw [fx.2.2.1, hL.1, hml]) fx.2.2.2.1 (fx.2.2.2.2.1 _ hl) (fx.2.2.2.2.1 _ hst) (fx.2.2.2.2.1 _ hin) (fx.2.2.2.2.1 _ hco) (by have := fx.2.2.2.2.2.2.2.1; omega) (by have := fx.2.2.2.2.2.2.2.2; rw [gv_cats]; omega) hc.1 hc.2 hd (by
    have e := nx ls H locs hL hW hX
    simp only [List.map_cons, gv] at e
    have e2 : i32 (if y < x then y else x) = if i32 y < i32 x then i32 y else i32 x := by
      by_cases q : y < x
      · rw [if_pos q, if_pos ((i32_lt hy hx).mpr q)]
      · rw [if_neg q, if_neg (fun z => q ((i32_lt hy hx).mp z))]
    rw [e2] at e
    exact e)
theorem nx_oini (fx : Fx g K d me) {idx k : Nat} (hml : L.length = me_ml me) (hd : decode (me_cc me) pc = .ok (.invokespecial idx, 3)) (hl : Jvm.Cond.methodLink (me_y me).cls idx objectInit ∈ WL) (hst : Jvm.Cond.instanceMethod objectInit ∈ WL) (hco : Jvm.Cond.code objectInit ⟨#[0xb1]⟩ 1 none ∈ WL) (h1 : 1 ≤ d) (nx : NX g K Q c0 s0 (pc + 3) L [] kd F P) : NX g K Q c0 s0 pc L [.inr (some k)] kd F P :=
  fun ls H locs hL hW hX => W.objInit fx.1 fx.2.1 fx.2.2.2.1 (fx.2.2.2.2.1 _ hl) (fx.2.2.2.2.1 _ hst) (fx.2.2.2.2.1 _ hco) rfl (by show ls.size = _; rw [fx.2.2.1, hL.1, hml]) rfl hd (by have := fx.2.2.2.2.2.2.2.1; omega) (by have := fx.2.2.2.2.2.2.2.2; show 2 * 0 + 0 + 12 ≤ _; omega) (nx ls H locs hL hW hX)
end STEPS
end
section
section CELLS
variable {g : GX} {K : KX} {d : Nat} {me : ME} {Q : State → Prop} {c0 s0 pc : Nat} {L : LV} {S : List AV} {kd : KL} {F : FM} {P : PM}
theorem clOk : ∀ (c : Nat) (r : vw_C), vwCl[c]? = some r → (∀ k, k < r.2.2 → parseFieldDescriptor (r.2.1 k).2.2.1 = some (tyOf c k)) ∧ (∀ a, a < r.2.2 → ∀ b, b < r.2.2 → a ≠ b → (r.2.1 a).2.1 ≠ (r.2.1 b).2.1) := by
  intro c r h
  match c, h with
  | 0, h => cases h; exact ⟨tyX0_ok, nmX0⟩
  | 1, h => cases h; exact ⟨tyX1_ok, nmX1⟩
  | 2, h => cases h; exact ⟨tyX2_ok, nmX2⟩
  | 3, h => cases h; exact ⟨tyX3_ok, nmX3⟩
  | 4, h => cases h; exact ⟨tyX4_ok, nmX4⟩
  | 5, h => cases h; exact ⟨tyX5_ok, nmX5⟩
  | 6, h => cases h; exact ⟨tyX6_ok, nmX6⟩
  | 7, h => cases h; exact ⟨tyX7_ok, nmX7⟩
  | 8, h => cases h; exact ⟨tyX8_ok, nmX8⟩
  | c + 9, h => simp [vwCl] at h
theorem clDef : ∀ (c : Nat) (r : vw_C), vwCl[c]? = some r → ∀ k, k < r.2.2 → defaultValue (tyOf c k) = if isN (tyOf c k) = true then .int 0 else .null := by
  intro c r h
  match c, h with
  | 0, h => cases h; decide +kernel
  | 1, h => cases h; decide +kernel
  | 2, h => cases h; decide +kernel
  | 3, h => cases h; decide +kernel
  | 4, h => cases h; decide +kernel
  | 5, h => cases h; decide +kernel
  | 6, h => cases h; decide +kernel
  | 7, h => cases h; decide +kernel
  | 8, h => cases h; decide +kernel
  | c + 9, h => simp [vwCl] at h
/-- a row of numbers, one of the three that were there before or one of the system's own -/
theorem rowAt {H : Heap} (fx : Fx g K d me) (hW : WI K kd F P H) {k n : Nat} (hk : kd[k]? = some (0, n)) : ∃ cell : Cell, H[ad K k]? = some cell ∧ g.2.2.2.2.1.isArrayOf cell .int ∧ cell.vm ≠ .unknown ∧ n ≤ cell.slots.size ∧ cell.slots.size.toInt32 = Int32.ofNat n ∧ ∀ j : Nat, j < n → cell.slots[j]? = some (.int (i32 (F k j))) := by
  by_cases h3 : 3 ≤ k
  · have h := hW.2.2.2.1 k _ h3 hk
    have h : H[ad K k]? = some (vp_cell (kcI K) (n, .inl (fun j => i32 (F k j)))) := h
    have hr := (fx.2.2.2.2.2.1.2.1.2 0 _ rfl).1 n (fun j => .int (i32 (F k j)))
    refine ⟨_, h, hr, (fun q => by cases q), ?_, ?_, fun j hj => ?_⟩
    · show n ≤ (arrV _ _ _).slots.size; rw [arrV_size]; exact Nat.le_refl n
    · show (arrV _ _ _).slots.size.toInt32 = _; rw [arrV_size]
    · show (arrV _ _ _).slots[j]? = _; rw [arrV_read _ _ hj]
  · have h3 : k < 3 := by omega
    obtain ⟨e1, e2⟩ := hW.2.2.2.2 k h3
    cases hk.symm.trans e1
    obtain ⟨cell, h1, h2, h4, h5, h6, h7, h8⟩ := fx.2.2.2.2.2.1.2.2.2.2.1 k h3
    have hz := fx.2.2.2.2.2.1.1
    have hlt := (Array.getElem?_eq_some_iff.mp h1).1
    refine ⟨cell, ?_, h2, h4, h5, h6, fun j hj => ?_⟩
    · unfold ad
      rw [if_pos h3, hW.2.2.1 _ (by omega)]
      exact h1
    · rw [e2]; exact h7 j hj
theorem nx_iald (fx : Fx g K d me) {k n : Nat} {i : Int} (hd : decode (me_cc me) pc = .ok (.iaload, 1)) (hk : kd[k]? = some (0, n)) (hi : inb i) (h0 : 0 ≤ i) (h1 : i < n) (nx : NX g K Q c0 s0 (pc + 1) L (.inl (F k i.toNat) :: S) kd F P) : NX g K Q c0 s0 pc L (.inl i :: .inr (some k) :: S) kd F P := by
  intro ls H locs hL hW hX
  obtain ⟨cell, e1, e2, e3, e4, e5, e6⟩ := rowAt fx hW hk
  refine W.iald fx.1 fx.2.1 e1 e2 e3 (j := i32 i) (v := .int (i32 (F k i.toNat))) ?_ (by rw [i32_n hi]; exact e6 _ (by omega)) rfl rfl hd (nx ls H locs hL hW hX)
  have h9 := i32_in hi h0 h1
  unfold vp_in at h9
  intro z
  rcases z with z | z
  · exact h9 (Or.inl z)
  · exact h9 (Or.inr (Nat.le_trans e4 z))
theorem nx_alen (fx : Fx g K d me) {k n : Nat} (hd : decode (me_cc me) pc = .ok (.arraylength, 1)) (hk : kd[k]? = some (0, n)) (nx : NX g K Q c0 s0 (pc + 1) L (.inl (n : Int) :: S) kd F P) : NX g K Q c0 s0 pc L (.inr (some k) :: S) kd F P := by
  intro ls H locs hL hW hX
  obtain ⟨cell, e1, e2, e3, e4, e5, e6⟩ := rowAt fx hW hk
  exact W.alen fx.1 fx.2.1 e1 e2 (e5.trans Int32.ofInt_eq_ofNat.symm) rfl rfl hd (nx ls H locs hL hW hX)
theorem nx_aald (fx : Fx g K d me) {k n : Nat} {i : Int} (hd : decode (me_cc me) pc = .ok (.aaload, 1)) (h3 : 3 ≤ k) (hk : kd[k]? = some (1, n)) (hi : inb i) (h0 : 0 ≤ i) (h1 : i < n) (nx : NX g K Q c0 s0 (pc + 1) L (.inr (P k i.toNat) :: S) kd F P) : NX g K Q c0 s0 pc L (.inl i :: .inr (some k) :: S) kd F P := by
  intro ls H locs hL hW hX
  have e := nx ls H locs hL hW hX
  refine va_aldq (D := kD K) (cl := vwCl) fx.1 fx.2.1 fx.2.2.2.2.2.1.2.1 (WI_at hW h3 hk) 0 1 (C := RX5) (n := n) (f := fun j => (P k j).map (ad K)) rfl rfl (i32_in hi h0 h1) hd ?_
  rw [i32_n hi]
  exact e
theorem XI_add {locs : List Loc} {a : Addr} {i : Nat} (hX : XI K locs) (h : kz K ≤ a) : XI K (locs ++ [⟨a, i⟩]) := by
  intro q hq
  rcases List.mem_append.mp hq with h1 | h1
  · exact hX q h1
  · rw [List.mem_singleton.mp h1]; exact h
theorem nx_iast (fx : Fx g K d me) {k n : Nat} {i v : Int} (hd : decode (me_cc me) pc = .ok (.iastore, 1)) (h3 : 3 ≤ k) (hk : kd[k]? = some (0, n)) (hi : inb i) (h0 : 0 ≤ i) (h1 : i < n) (nx : NX g K Q c0 s0 (pc + 1) L S kd (stt F k i.toNat v) P) : NX g K Q c0 s0 pc L (.inl v :: .inl i :: .inr (some k) :: S) kd F P := by
  intro ls H locs hL hW hX
  have h : H[ad K k]? = some (vp_cell (kcI K) (n, .inl (fun j => i32 (F k j)))) := hW.2.2.2.1 k _ h3 hk
  have hr := (fx.2.2.2.2.2.1.2.1.2 0 _ rfl).1 n (fun j => .int (i32 (F k j)))
  refine W.iast fx.1 fx.2.1 h hr (fun q => by cases q) (j := i32 i) (x := i32 v) ?_ rfl rfl hd (fun H' f1 f2 f3 => nx ls H' _ hL (WI_put hW h3 hk ?_ f2 f3 ?_ (fun _ _ => rfl)) (XI_add hX (ad_lt hW h3 hk).1))
  · have := i32_in hi h0 h1
    unfold vp_in at this
    show ¬ (_ ∨ (arrV _ _ _).slots.size ≤ _)
    rw [arrV_size]
    exact this
  · show H'[ad K k]? = some (vp_cell (kcI K) (n, .inl (fun j => i32 (stt F k i.toNat v k j))))
    rw [f1]
    rw [vp_cell_i, vp_cell_i, arrV_store]
    congr 2
    funext q
    rw [i32_n hi]
    unfold updV stt
    by_cases hq : q = i.toNat
    · rw [if_pos hq, if_pos ⟨rfl, hq⟩]
    · rw [if_neg hq, if_neg (fun z => hq z.2)]
  · intro j hj
    funext q
    unfold stt
    rw [if_neg (fun z => hj z.1)]
theorem nx_aast (fx : Fx g K d me) {k n v : Nat} {i : Int} (hd : decode (me_cc me) pc = .ok (.aastore, 1)) (h3 : 3 ≤ k) (hk : kd[k]? = some (1, n)) (hi : inb i) (h0 : 0 ≤ i) (h1 : i < n) (v3 : 3 ≤ v) (hv : kd[v]? = some (7, 17)) (nx : NX g K Q c0 s0 (pc + 1) L S kd F (stp_ P k i.toNat (some v))) : NX g K Q c0 s0 pc L (.inr (some v) :: .inl i :: .inr (some k) :: S) kd F P := by
  intro ls H locs hL hW hX
  have h : H[ad K k]? = some (vp_cell (kcR K) (n, .inr (.inr (.inr (.inr (fun j => (P k j).map (ad K))))))) := hW.2.2.2.1 k _ h3 hk
  have hvv := hW.2.2.2.1 v _ v3 hv
  obtain ⟨r', hr', cellV, g1, g2, g3, -⟩ := hvv
  have hr : r' = (RX5, TX5, 17) := (Option.some.inj hr').symm
  subst hr
  have hcls := (fx.2.2.2.2.2.1.2.1.1 5 _ rfl).2
  obtain ⟨kA, comp, k1, k2, k3, -⟩ := (fx.2.2.2.2.2.1.2.1.2 1 _ rfl).2
  have hcomp : comp = (kD K).1 5 := Option.some.inj (k3.symm.trans hcls.1)
  subst hcomp
  obtain ⟨kC', hkC, -⟩ := hcls.2
  have hin := i32_in hi h0 h1
  unfold vp_in at hin
  refine W.aast fx.1 fx.2.1 h (fun q z => by cases z) (fun z => by cases z) k1 k2 rfl hkC (j := i32 i) ⟨fun z => hin (Or.inl z), ?_⟩ g1 (fun q z => by rw [g3] at z; cases z) (by rw [g2]; exact hkC) (by rw [g2]; exact va_assign hcls) rfl rfl hd (fun H' f1 f2 f3 => nx ls H' _ hL (WI_put hW h3 hk ?_ f2 f3 (fun _ _ => rfl) ?_) (XI_add hX (ad_lt hW h3 hk).1))
  · show _ < (arrV _ _ _).slots.size
    rw [arrV_size]
    omega
  · show H'[ad K k]? = some (vp_cell (kcR K) (n, .inr (.inr (.inr (.inr (fun j => (stp_ P k i.toNat (some v) k j).map (ad K)))))))
    rw [f1]
    rw [vp_cell_q, vp_cell_q, arrV_store]
    congr 2
    funext q
    rw [i32_n hi]
    unfold updV stp_
    by_cases hq : q = i.toNat
    · rw [if_pos hq, if_pos ⟨rfl, hq⟩]; rfl
    · rw [if_neg hq, if_neg (fun z => hq z.2)]
  · intro j hj
    funext q
    unfold stp_
    rw [if_neg (fun z => hj z.1)]
theorem ob_get {c n j : Nat} {f : Nat → Int} {q : Nat → Option Nat} (hj : j < n) : (ob K c n f q)[j]? = some (sval K c j (f j) (q j)) := by
  unfold ob
  rw [List.getElem?_map, List.getElem?_range hj]
  rfl
theorem nx_getf (fx : Fx g K d me) {k n ci j idx : Nat} {r : vw_C} (hd : decode (me_cc me) pc = .ok (.getfield idx, 3)) (h3 : 3 ≤ k) (hk : kd[k]? = some (ci + 2, n)) (hj : j < n) (hr : vwCl[ci]? = some r) (hjr : j < r.2.2) (hu : ∀ w ∈ u_ws r.1 r.2.1 r.2.2, w ∈ WL) (hl : Jvm.Cond.fieldLink (me_y me).cls idx (r.2.1 j).1 (r.2.1 j).2.1 (r.2.1 j).2.2.1 ∈ WL) (nx : NX g K Q c0 s0 (pc + 3) L ((if isN (tyOf ci j) = true then .inl (F k j) else .inr (P k j)) :: S) kd F P) : NX g K Q c0 s0 pc L (.inr (some k) :: S) kd F P := by
  intro ls H locs hL hW hX
  have e := nx ls H locs hL hW hX
  have e2 : gv K (if isN (tyOf ci j) = true then .inl (F k j) else .inr (P k j)) = sval K ci j (F k j) (P k j) := by
    unfold sval
    split <;> rfl
  rw [List.map_cons, e2] at e
  exact va_get (D := kD K) (cl := vwCl) (T := r.2.1) (C := r.1) (N := r.2.2) (ci := ci) fx.1 fx.2.1 fx.2.2.2.2.1 hu fx.2.2.2.1 fx.2.2.2.2.2.1.2.1 (WI_at hW h3 hk) 0 rfl hr j hjr (fx.2.2.2.2.1 _ hl) (fun _ z => z) (ob_get hj) hd e
theorem ob_set {c n j : Nat} {f : Nat → Int} {q : Nat → Option Nat} {f' : Nat → Int} {q' : Nat → Option Nat} (hf : ∀ i, i ≠ j → f' i = f i) (hq : ∀ i, i ≠ j → q' i = q i) : (ob K c n f q).set j (sval K c j (f' j) (q' j)) = ob K c n f' q' := by
  apply List.ext_getElem?
  intro i
  rw [List.getElem?_set]
  unfold ob
  by_cases hij : j = i
  · subst hij
    rw [if_pos rfl]
    by_cases hn : j < n
    · rw [if_pos (by simp; exact hn), List.getElem?_map, List.getElem?_range hn]; rfl
    · rw [if_neg (by simp; omega), List.getElem?_map, List.getElem?_eq_none (by simp; omega)]; rfl
  · rw [if_neg hij, List.getElem?_map, List.getElem?_map]
    by_cases hn : i < n
    · rw [List.getElem?_range hn]
      show some (sval K c i (f i) (q i)) = some (sval K c i (f' i) (q' i))
      rw [hf i (fun z => hij z.symm), hq i (fun z => hij z.symm)]
    · rw [List.getElem?_eq_none (by simp; omega)]
      rfl
theorem nx_putV (fx : Fx g K d me) {k n ci j idx : Nat} {r : vw_C} {f' : FM} {p' : PM} {v : AV} (hd : decode (me_cc me) pc = .ok (.putfield idx, 3)) (h3 : 3 ≤ k) (hk : kd[k]? = some (ci + 2, n)) (hj : j < n) (hr : vwCl[ci]? = some r) (hjr : j < r.2.2) (hu : ∀ w ∈ u_ws r.1 r.2.1 r.2.2, w ∈ WL) (hl : Jvm.Cond.fieldLink (me_y me).cls idx (r.2.1 j).1 (r.2.1 j).2.1 (r.2.1 j).2.2.1 ∈ WL) (hfin : (r.2.1 j).2.2.2 = false ∨ ((me_y me).name = "<init>" ∧ (r.2.1 j).1 = (me_y me).cls))
    (hn : narrow (tyOf ci j) (gv K v) = gv K v) (hfit : fits (tyOf ci j) (gv K v) = true) (hv : gv K v = sval K ci j (f' k j) (p' k j)) (hF : ∀ a b, ¬ (a = k ∧ b = j) → f' a b = F a b) (hP : ∀ a b, ¬ (a = k ∧ b = j) → p' a b = P a b) (nx : NX g K Q c0 s0 (pc + 3) L S kd f' p') : NX g K Q c0 s0 pc L (v :: .inr (some k) :: S) kd F P := by
  intro ls H locs hL hW hX
  obtain ⟨C, T, N⟩ := r
  dsimp only at hjr hu hl hfin hr
  have hts := fx.2.2.2.2.1
  have hKc := fx.2.2.2.2.2.1.2.1
  obtain ⟨hty, hnm⟩ := clOk ci _ hr
  have hap := va_apart (own := (me_y me).cls) (D := kD K) hts hu (tyOf ci) hty hnm hKc hr
  obtain ⟨r', h1, cell, q1, q2, q3, q4⟩ := hW.2.2.2.1 k _ h3 hk
  have hre : r' = (C, T, N) := Option.some.inj (h1.symm.trans hr)
  subst hre
  obtain ⟨hS, hfc, kC', hkC, hkind⟩ := hKc.1 ci _ hr
  obtain ⟨cf, kf', fi, f, hi, hsl⟩ := hS j hjr
  have hlays := u_lays hts hu hjr
  have hst := (u_facts hfc hkC hlays hi).1
  have hat : ∀ H' : Heap, H'[ad K k]? = some (cell.setSlot ((kD K).2 ci j) (gv K v)) → va_at (kD K) vwCl (ad K k, cel K (ci + 2, n) (f' k) (p' k)) H' := by
    intro H' e1
    refine ⟨_, hr, t_OB.to (V := updV (vp_V (ob K ci n (F k) (P k))) j (gv K v)) ⟨_, e1, q2, q3, t_set q4 hap hjr (gv K v)⟩ (fun i _ => ?_)⟩
    have hlen : j < (ob K ci n (F k) (P k)).length := by unfold ob; simp; exact hj
    rw [vp_updV_set hlen, hv, ob_set (fun i hi => hF k i (fun z => hi z.2)) (fun i hi => hP k i (fun z => hi z.2))]
  have hgo : ∀ (H' : Heap) (i : Nat), H'[ad K k]? = some (cell.setSlot ((kD K).2 ci j) (gv K v)) → H'.size = H.size → (∀ q, q ≠ ad K k → H'[q]? = H[q]?) → gW g H' (locs ++ [⟨ad K k, i⟩]) (kd.length - c0) (ksz kd - s0) Q (F0 g.2.2.2.2.2.1 (pc + 3) ls (S.map (gv K))) :=
    fun H' i e1 e2 e3 => nx ls H' _ hL (WI_put hW h3 hk (hat H' e1) e2 e3 (fun a ha => funext fun b => hF a b (fun z => ha z.1)) (fun a ha => funext fun b => hP a b (fun z => ha z.1))) (XI_add hX (ad_lt hW h3 hk).1)
  by_cases hff : (T j).2.2.2 = false
  · have hlay := hts _ (hu _ (u_in_lay hjr))
    unfold u_lay at hlay
    rw [if_neg (by rw [hff]; decide)] at hlay
    have h6 := u_store hfc hkC hkind hlay hi (hty j hjr) hn hfit
    refine W.putK fx.1 fx.2.1 (f := f) ⟨fx.2.2.2.1, hts _ hl, ⟨_, _, _, hi⟩, hst⟩ (by rw [q2]; exact h6) q1 q3 (by rw [hsl]; exact k2_hasslot (q4 j hjr)) rfl rfl hd fun H' e1 e2 e3 => ?_
    rw [hsl] at e1 ⊢
    exact hgo H' _ e1 e2 e3
  · rcases hfin with h | ⟨hini, hdecl⟩
    · exact absurd h hff
    · have hft : (T j).2.2.2 = true := by cases hb : (T j).2.2.2 <;> simp_all
      have hlay := hts _ (hu _ (u_in_lay hjr))
      unfold u_lay at hlay
      rw [if_pos hft] at hlay
      have hcf : g.2.2.2.2.2.1.cls = cf := by
        obtain ⟨_, _, c', _, _, _, -, -, hf', -, -, -, hown2, -⟩ := Cond.laysFinal_spec hlay
        have e1 : c' = cf := by have := hi.symm.trans hf'; simp at this; exact this.1.symm
        rw [hdecl] at hown2
        rw [← e1]; exact Option.some.inj (fx.2.2.2.1.symm.trans hown2)
      have h6 := u_fits hfc hkC hkind (Or.inr hlay) hi (hty j hjr) hn hfit
      refine W.putFinK fx.1 fx.2.1 fx.2.2.2.1 (hts _ hl) hi hst hcf (fx.2.2.2.2.2.2.1 hini) (by rw [q2]; exact h6) q1 q3 (by rw [hsl]; exact k2_hasslot (q4 j hjr)) rfl rfl hd fun H' e1 e2 e3 => ?_
      rw [hsl] at e1 ⊢
      exact hgo H' _ e1 e2 e3
theorem nx_new (fx : Fx g K d me) {ci n idx : Nat} {r : vw_C} (hd : decode (me_cc me) pc = .ok (.new idx, 3)) (hr : vwCl[ci]? = some r) (hn : n = r.2.2) (hu : ∀ w ∈ u_ws r.1 r.2.1 r.2.2, w ∈ WL) (hcl : Jvm.Cond.classLink (me_y me).cls idx r.1 ∈ WL) (hins : Jvm.Cond.instantiable r.1 r.2.2 ∈ WL) (hini : Jvm.Cond.initialized r.1 ∈ WL) (hc0 : c0 ≤ kd.length) (hs0 : s0 ≤ ksz kd) (hrc : kd.length + 1 - c0 ≤ g.2.2.2.1.cells) (hrs : ksz kd + n - s0 ≤ g.2.2.2.1.slots)
    (nx : NX g K Q c0 s0 (pc + 3) L (.inr (some kd.length) :: S) (kd ++ [(ci + 2, n)]) (clF F kd.length) (clP P kd.length)) : NX g K Q c0 s0 pc L S kd F P := by
  intro ls H locs hL hW hX
  obtain ⟨C, T, N⟩ := r
  dsimp only at hn hu hcl hins hini hr
  subst hn
  have hts := fx.2.2.2.2.1
  have hKn := fx.2.2.2.2.2.1.2.1.1 ci _ hr
  obtain ⟨hty, -⟩ := clOk ci _ hr
  have ha := ad_new hW
  refine W.newcK fx.1 fx.2.1 fx.2.2.2.1 (hts _ hcl) (hts _ hins) (hts _ hini) rfl hd (by omega) (by omega) hKn.2.1 rfl fun H1 kC' hkC e1 z1 o1 => ?_
  have hW1 : WI K (kd ++ [(ci + 2, n)]) (clF F kd.length) (clP P kd.length) H1 := by
    refine WI_new hW ?_ z1 o1 (fun j hj => funext fun b => by unfold clF; rw [if_neg hj]) (fun j hj => funext fun b => by unfold clP; rw [if_neg hj])
    refine ⟨_, hr, t_OB.to (V := fun k => defaultValue (tyOf ci k)) (by rw [ha]; exact u_born (tyOf ci) hts hu hKn hkC e1 hty) (fun j hj => ?_)⟩
    have hj : j < n := hj
    unfold vp_V
    rw [List.getD_eq_getElem?_getD, ob_get hj]
    show defaultValue _ = sval K ci j _ _
    unfold sval clF clP
    rw [if_pos rfl, if_pos rfl, clDef ci _ hr j hj]
    split <;> rfl
  have e := nx ls H1 locs hL hW1 hX
  rw [List.map_cons, show gv K (.inr (some kd.length)) = .ref H.size by show Value.ref (ad K kd.length) = _; rw [ha]] at e
  rw [show (kd ++ [(ci + 2, n)]).length - c0 = kd.length - c0 + 1 by simp; omega, show ksz (kd ++ [(ci + 2, n)]) - s0 = ksz kd - s0 + n by unfold ksz at *; simp at *; omega] at e
  exact e
theorem nx_newa (fx : Fx g K d me) {n : Int} (hd : decode (me_cc me) pc = .ok (.newarray .int, 2)) (harr : Jvm.Cond.arrayClass .int ∈ WL) (h0 : 0 ≤ n) (h1 : n ≤ 100000) (hc0 : c0 ≤ kd.length) (hs0 : s0 ≤ ksz kd) (hrc : kd.length + 1 - c0 ≤ g.2.2.2.1.cells) (hrs : ksz kd + n.toNat - s0 ≤ g.2.2.2.1.slots)
    (nx : NX g K Q c0 s0 (pc + 2) L (.inr (some kd.length) :: S) (kd ++ [(0, n.toNat)]) (clF F kd.length) P) : NX g K Q c0 s0 pc L (.inl n :: S) kd F P := by
  intro ls H locs hL hW hX
  have hts := fx.2.2.2.2.1
  have ha := ad_new hW
  have hb : inb n := by unfold inb; omega
  refine va_newaK (atype := .int) fx.1 fx.2.1 (hts _ harr) rfl hd rfl (n := i32 n) (N := n.toNat) (fun z => by rw [i32_0] at z; have := (i32_lt hb inb_0).mp z; omega) (i32_n hb) (by show n.toNat * 4 ≤ _; omega) (by omega) (by omega) rfl fun H1 cA e1 z1 o1 hAr hNm => ?_
  have hcA : cA = kcI K := by
    have h2 := (fx.2.2.2.2.2.1.2.1.2 0 _ rfl).2
    exact Option.some.inj (hNm.symm.trans h2)
  subst hcA
  have hW1 : WI K (kd ++ [(0, n.toNat)]) (clF F kd.length) P H1 := by
    refine WI_new hW ?_ z1 o1 (fun j hj => funext fun b => by unfold clF; rw [if_neg hj]) (fun j hj => rfl)
    show H1[ad K kd.length]? = some (vp_cell (kcI K) (n.toNat, .inl (fun j => i32 (clF F kd.length kd.length j))))
    rw [ha, e1, vp_cell_i]
    congr 2
    funext j
    unfold clF
    rw [if_pos rfl]
    rfl
  have e := nx ls H1 locs hL hW1 hX
  rw [List.map_cons, show gv K (.inr (some kd.length)) = .ref H.size by show Value.ref (ad K kd.length) = _; rw [ha]] at e
  have e8 : List.length (kd ++ [((0 : Nat), n.toNat)]) - c0 = kd.length - c0 + 1 := by simp; omega
  have e9 : ksz (kd ++ [((0 : Nat), n.toNat)]) - s0 = ksz kd - s0 + n.toNat := by unfold ksz at *; simp at *; omega
  rw [e8, e9] at e
  exact e
theorem nx_anew (fx : Fx g K d me) {n : Int} {idx : Nat} (hd : decode (me_cc me) pc = .ok (.anewarray idx, 3)) (hcl : Jvm.Cond.classLink (me_y me).cls idx RX5 ∈ WL) (h0 : 0 ≤ n) (h1 : n ≤ 100000) (hc0 : c0 ≤ kd.length) (hs0 : s0 ≤ ksz kd) (hrc : kd.length + 1 - c0 ≤ g.2.2.2.1.cells) (hrs : ksz kd + n.toNat - s0 ≤ g.2.2.2.1.slots)
    (nx : NX g K Q c0 s0 (pc + 3) L (.inr (some kd.length) :: S) (kd ++ [(1, n.toNat)]) F (clP P kd.length)) : NX g K Q c0 s0 pc L (.inl n :: S) kd F P := by
  intro ls H locs hL hW hX
  have hts := fx.2.2.2.2.1
  have ha := ad_new hW
  have hb : inb n := by unfold inb; omega
  have hbn : (i32 n).toNatClampNeg = n.toNat := i32_n hb
  refine W.anew fx.1 fx.2.1 fx.2.2.2.1 (hts _ hcl) (va_AO.use fx.2.2.2.2.2.1.2.2.2.1) rfl hd (n := i32 n) rfl (fun z => by rw [i32_0] at z; have := (i32_lt hb inb_0).mp z; omega) (by rw [hbn]; omega) (by omega) (by rw [hbn]; omega) fun cA kA comp f1 f2 f3 f4 => ?_
  rw [hbn]
  generalize hH1 : H.push ({ cls := cA, slots := Array.replicate n.toNat .null, vm := .none } : Cell) = H1
  have z1 : H1.size = H.size + 1 := by rw [← hH1, Array.size_push]
  have e1 : H1[H.size]? = some (arrV cA n.toNat (fun _ => .null)) := by rw [← hH1, Array.getElem?_push_size, ← arrV_new]
  have o1 : ∀ q : Nat, q < H.size → H1[q]? = H[q]? := fun q hq => by rw [← hH1, Array.getElem?_push, if_neg (Nat.ne_of_lt hq)]
  have hcA : cA = kcR K := by
    obtain ⟨kA', comp', -, -, -, h4⟩ := (fx.2.2.2.2.2.1.2.1.2 1 _ rfl).2
    exact Option.some.inj (f1.symm.trans h4)
  subst hcA
  have hW1 : WI K (kd ++ [(1, n.toNat)]) F (clP P kd.length) H1 := by
    refine WI_new hW ?_ z1 o1 (fun j hj => rfl) (fun j hj => funext fun b => by unfold clP; rw [if_neg hj])
    show H1[ad K kd.length]? = some (vp_cell (kcR K) (n.toNat, .inr (.inr (.inr (.inr (fun j => (clP P kd.length kd.length j).map (ad K)))))))
    rw [ha, e1, vp_cell_q]
    congr 2
    funext j
    unfold clP
    rw [if_pos rfl]
    rfl
  have e := nx ls H1 locs hL hW1 hX
  rw [List.map_cons, show gv K (.inr (some kd.length)) = .ref H.size by show Value.ref (ad K kd.length) = _; rw [ha]] at e
  have e8 : List.length (kd ++ [((1 : Nat), n.toNat)]) - c0 = kd.length - c0 + 1 := by simp; omega
  have e9 : ksz (kd ++ [((1 : Nat), n.toNat)]) - s0 = ksz kd - s0 + n.toNat := by unfold ksz at *; simp at *; omega
  rw [e8, e9] at e
  exact e
theorem nx_gets (fx : Fx g K d me) {idx i : Nat} {nm : String} (hd : decode (me_cc me) pc = .ok (.getstatic idx, 3)) (hw : Jvm.Cond.fieldLinkNest (me_y me).cls idx RNG nm "[I" RNG ∈ NWs) (hZ : va_Z RNG nm "[I" (.ref (kx K i)) (zA K) g.2.2.2.2.1 (kH K)) (hi : i < 3) (nx : NX g K Q c0 s0 (pc + 3) L (.inr (some i) :: S) kd F P) : NX g K Q c0 s0 pc L S kd F P := by
  intro ls H locs hL hW hX
  have hN := fx.2.2.2.2.2.1.2.2.1 _ hw
  have hHz := fx.2.2.2.2.2.1.1
  have e := nx ls H locs hL hW hX
  rw [List.map_cons, show gv K (.inr (some i)) = .ref (kx K i) by show Value.ref (ad K i) = _; unfold ad; rw [if_pos hi]] at e
  obtain ⟨cf, kf', fi, f, a, cell, h1, h2, h3, h4, h5, h6, h7, h8⟩ := hZ
  exact va_WgetsN fx.1 fx.2.1 fx.2.2.2.1 (va_Nw.use rfl hN) h1 h2 h3 h4 (by rw [hW.2.2.1 a (by have := (Array.getElem?_eq_some_iff.mp h5).1; omega)]; exact h5) (fun z => by rw [z] at h6; cases h6) h7 rfl hd e
theorem nx_copy (fx : Fx g K d me) {idx k0 k1 n0 n1 : Nat} {n sp dp : Int} (hml : L.length = me_ml me) (hd : decode (me_cc me) pc = .ok (.invokestatic idx, 3)) (hl : Jvm.Cond.methodLink (me_y me).cls idx arraycopyName ∈ WL) (hna : Jvm.Cond.native arraycopyName ∈ WL) (hst : Jvm.Cond.static arraycopyName ∈ WL) (hini : Jvm.Cond.initialized "java/lang/System" ∈ WL) (h2 : 2 ≤ d) (h3 : 3 ≤ k1) (hk0 : kd[k0]? = some (0, n0)) (hk1 : kd[k1]? = some (0, n1)) (bn : inb n) (bs : inb sp) (bd : inb dp) (p1 : 0 ≤ n) (p2 : 0 ≤ sp) (p3 : 0 ≤ dp) (p4 : sp + n ≤ n0) (p5 : dp + n ≤ n1)
    (nx : NX g K Q c0 s0 (pc + 3) L [] kd (cpF F k0 sp.toNat k1 dp.toNat n.toNat) P) : NX g K Q c0 s0 pc L [.inl n, .inl dp, .inr (some k1), .inl sp, .inr (some k0)] kd F P := by
  intro ls H locs hL hW hX
  have hts := fx.2.2.2.2.1
  obtain ⟨cs, e1, e2, e3, e4, e5, e6⟩ := rowAt fx hW hk0
  have hc1 : H[ad K k1]? = some (vp_cell (kcI K) (n1, .inl (fun j => i32 (F k1 j)))) := hW.2.2.2.1 k1 _ h3 hk1
  have hr1 := (fx.2.2.2.2.2.1.2.1.2 0 _ rfl).1 n1 (fun j => .int (i32 (F k1 j)))
  obtain ⟨hob0, c0', hk0', cm0, hkk0⟩ := e2
  obtain ⟨hob1, c1', hk1', cm1, hkk1⟩ := hr1
  have nn : ∀ z : Int, inb z → 0 ≤ z → ¬ i32 z < 0 := fun z hb hz q => by rw [i32_0] at q; have := (i32_lt hb inb_0).mp q; omega
  intro T hT X
  obtain ⟨vm', X', step⟩ := X.arraycopy fx.1 fx.2.2.2.1 (hts _ hl) (hts _ hna) (hts _ hst) (hts _ hini) (src := ad K k0) (dst := ad K k1) (cs := cs) (cd := vp_cell (kcI K) (n1, .inl (fun j => i32 (F k1 j)))) (srcPos := i32 sp) (destPos := i32 dp) (n := i32 n) (by rw [hT]; exact e1) (by rw [hT]; exact hc1)
    hob0 (fun _ h => by cases h) e3 (fun h => by cases h) hk0' hk1' hkk0 hkk1 (by simp [refKind]) (nn _ bs p2) (nn _ bd p3) (nn _ bn p1)
    (by rw [i32_toInt bs, i32_toInt bn]; omega)
    (by rw [i32_toInt bd, i32_toInt bn]; show ¬ _ > ((arrV _ _ _).slots.size : Int); rw [arrV_size]; omega)
    (fun vm₁ _ i hi => by
      have hi : i < (i32 n).toNatClampNeg := hi
      have e : cs.slots.getD ((i32 sp).toNatClampNeg + i) .null = .int (i32 (F k0 (sp.toNat + i))) := by
        rw [i32_n bs, Array.getD_eq_getD_getElem?, e6 _ (by rw [i32_n bn] at hi; omega)]
        rfl
      refine ⟨?_, ?_⟩
      · rw [e]; rfl
      · rw [e]; exact trivial)
    (g := F0 g.2.2.2.2.2.1 pc ls (.int (i32 n) :: .int (i32 dp) :: .ref (ad K k1) :: .int (i32 sp) :: .ref (ad K k0) :: [])) rfl (by rw [fx.2.2.1]; exact hL.1.trans hml) (rest := []) rfl (by rw [fx.2.1]; exact hd) (by have := fx.2.2.2.2.2.2.2.1; omega) (by
      have h9 := fx.2.2.2.2.2.2.2.2
      have h8 : nativeFrameWords "java/lang/System" "arraycopy" 5 ≤ 60 := by decide +kernel
      show 2 * 0 + 0 + _ ≤ _
      omega)
  have e1' : copied cs (vp_cell (kcI K) (n1, .inl (fun j => i32 (F k1 j)))) (i32 sp) (i32 dp) (i32 n) = vp_cell (kcI K) (n1, .inl (va_cpy (fun j => i32 (F k0 j)) (fun j => i32 (F k1 j)) (i32 sp).toNatClampNeg (i32 dp).toNatClampNeg (i32 n).toNatClampNeg)) := va_copiedX (n1 := n1) (sp := (i32 sp).toNatClampNeg) (dp := (i32 dp).toNatClampNeg) (n := (i32 n).toNatClampNeg) (fun z => .int z) cs (kcI K) (fun j => i32 (F k0 j)) (fun j => i32 (F k1 j)) e6 (by rw [i32_n bs, i32_n bn]; omega)
  rw [e1', i32_n bs, i32_n bd, i32_n bn] at X' step
  have hlt : ad K k1 < H.size := (ad_lt hW h3 hk1).2
  generalize hcc : vp_cell (kcI K) (n1, .inl (va_cpy (fun j => i32 (F k0 j)) (fun j => i32 (F k1 j)) sp.toNat dp.toNat n.toNat)) = cc' at X' step
  have hheap : ((T.setVm vm').setCell (ad K k1) cc').heap = H.setIfInBounds (ad K k1) cc' := by rw [← hT]; rfl
  have hW1 : WI K kd (cpF F k0 sp.toNat k1 dp.toNat n.toNat) P (H.setIfInBounds (ad K k1) cc') := by
    refine WI_put hW h3 hk1 ?_ (by simp) (fun q hq => by simp [Array.getElem?_setIfInBounds, Ne.symm hq]) (fun j hj => funext fun b => by unfold cpF; rw [if_neg (fun z => hj z.1)]) (fun _ _ => rfl)
    show (H.setIfInBounds (ad K k1) cc')[ad K k1]? = some (vp_cell (kcI K) (n1, .inl (fun j => i32 (cpF F k0 sp.toNat k1 dp.toNat n.toNat k1 j))))
    rw [Array.getElem?_setIfInBounds, if_pos rfl, if_pos hlt, ← hcc]
    congr 4
    funext j
    unfold va_cpy cpF
    by_cases hq : dp.toNat ≤ j ∧ j < dp.toNat + n.toNat
    · rw [if_pos hq, if_pos ⟨rfl, hq⟩]
    · rw [if_neg hq, if_neg (fun z => hq z.2)]
  obtain ⟨t, a1, b1⟩ := nx ls _ _ hL hW1 (fun q hq => by
    rcases List.mem_append.mp hq with h | h
    · exact hX q h
    · obtain ⟨z, -, hz⟩ := List.mem_map.mp h
      rw [← hz]
      exact (ad_lt hW h3 hk1).1) _ hheap X'
  exact ⟨t, step t a1, b1⟩
end CELLS
end
section
def wAt (p : Nat) (w : Jvm.Cond) : Bool := decide (lw_tbl[p]? = some w) && goodWord w
def nAt (p : Nat) (w : Jvm.Cond) : Bool := decide (NWs[p]? = some w)
theorem wAt_in {p : Nat} {w : Jvm.Cond} (h : wAt p w = true) : w ∈ WL := by
  simp only [wAt, Bool.and_eq_true, decide_eq_true_eq] at h
  exact WL_of h.1 h.2
theorem nAt_in {p : Nat} {w : Jvm.Cond} (h : nAt p w = true) : w ∈ NWs := by
  simp only [nAt, decide_eq_true_eq] at h
  exact List.mem_of_getElem? h
def okG (me : ME) (idx : Nat) (ri : RI) (put : Bool) : Bool := match vwCl[ri.1]? with
  | some r => decide (ri.2.1 < r.2.2) && wAt ri.2.2.1 (.fieldLink (me_y me).cls idx (r.2.1 ri.2.1).1 (r.2.1 ri.2.1).2.1 (r.2.1 ri.2.1).2.2.1) && (!put || !(r.2.1 ri.2.1).2.2.2 || (decide ((me_y me).name = "<init>") && decide ((r.2.1 ri.2.1).1 = (me_y me).cls)))
  | none => false
def okC (pg : Nat → Option ME) (me : ME) (kd idx : Nat) (ri : RI) : Bool := match pg ri.1 with
  | some ce => decide (me_kd ce = kd) && (if ri.2.1 = 0 then wAt ri.2.2.1 (.methodLink (me_y me).cls idx (me_y ce)) else decide (ri.2.1 = 1) && decide (kd ≠ 0) && nAt ri.2.2.1 (.methodLinkNest (me_y me).cls idx (me_y ce) RNG))
  | none => false
def okJ (pg : Nat → Option ME) (me : ME) (ins : Instr) (len : Nat) (ri : RI) : Bool := match ins with
  | .iconst n => decide (len = 1) && inbB n
  | .bipush n => decide (len = 2) && (decide (-128 ≤ n) && decide (n < 128))
  | .sipush n => decide (len = 3) && (decide (-32768 ≤ n) && decide (n < 32768))
  | .ldc idx => decide (len = 2) && (inbB ri.2.2.2 && wAt ri.1 (.constant (me_y me).cls idx (i32 ri.2.2.2)))
  | .iload _ => decide (len = 2)
  | .aload _ => decide (len = 2)
  | .istore _ => decide (len = 2)
  | .astore _ => decide (len = 2)
  | .iload_n _ => decide (len = 1)
  | .aload_n _ => decide (len = 1)
  | .istore_n _ => decide (len = 1)
  | .astore_n _ => decide (len = 1)
  | .iinc _ _ => decide (len = 3)
  | .iadd => decide (len = 1)
  | .isub => decide (len = 1)
  | .imul => decide (len = 1)
  | .iand => decide (len = 1)
  | .idiv => decide (len = 1)
  | .irem => decide (len = 1)
  | .ineg => decide (len = 1)
  | .dup => decide (len = 1)
  | .dup2 => decide (len = 1)
  | .pop => decide (len = 1)
  | .iaload => decide (len = 1)
  | .aaload => decide (len = 1)
  | .iastore => decide (len = 1)
  | .aastore => decide (len = 1)
  | .arraylength => decide (len = 1)
  | .ireturn => decide (len = 1)
  | .areturn => decide (len = 1)
  | .return_ => decide (len = 1)
  | .goto _ => decide (len = 3)
  | .if_icmp _ _ => decide (len = 3)
  | .ifCond _ _ => decide (len = 3)
  | .getfield idx => decide (len = 3) && okG me idx ri false
  | .putfield idx => decide (len = 3) && okG me idx ri true
  | .new idx => decide (len = 3) && (match vwCl[ri.1]? with
    | some r => decide (ri.2.1 = r.2.2) && wAt ri.2.2.1 (.classLink (me_y me).cls idx r.1)
    | none => false)
  | .newarray _ => decide (len = 2)
  | .anewarray idx => decide (len = 3) && wAt ri.1 (.classLink (me_y me).cls idx RX5)
  | .getstatic idx => decide (len = 3) && (decide (ri.1 = 1) && nAt ri.2.1 (.fieldLinkNest (me_y me).cls idx RNG "FIRST_SETTINGS" "[I" RNG) || decide (ri.1 = 2) && nAt ri.2.1 (.fieldLinkNest (me_y me).cls idx RNG "GREATEST_SETTINGS" "[I" RNG))
  | .tableswitch _ _ _ _ => true
  | .lookupswitch _ _ => true
  | .invokevirtual idx => decide (len = 3) && (decide (ri.2.1 = 0) && okC pg me 0 idx ri)
  | .invokestatic idx => decide (len = 3) && (if ri.2.1 = 2 then wAt ri.1 (.methodLink (me_y me).cls idx arraycopyName) else if ri.2.1 = 3 then wAt ri.1 (.methodLink (me_y me).cls idx Lib.Math.max.name) else if ri.2.1 = 4 then wAt ri.1 (.methodLink (me_y me).cls idx Lib.Math.min.name) else okC pg me 1 idx ri)
  | .invokespecial idx => decide (len = 3) && (if ri.2.1 = 5 then wAt ri.1 (.methodLink (me_y me).cls idx objectInit) else okC pg me 2 idx ri)
  | _ => false
def okI (pg : Nat → Option ME) (me : ME) (e : CI) : Bool := decide (decode (me_cc me) e.1 = .ok (e.2.1, e.2.2.1)) && okJ pg me e.2.1 e.2.2.1 e.2.2.2
def GWs : Prop := (∀ (c : Nat) (r : vw_C), vwCl[c]? = some r → (∀ w ∈ u_ws r.1 r.2.1 r.2.2, w ∈ WL) ∧ Jvm.Cond.instantiable r.1 r.2.2 ∈ WL ∧ Jvm.Cond.initialized r.1 ∈ WL) ∧
  (Jvm.Cond.initialized "java/lang/Math" ∈ WL ∧ Jvm.Cond.static Lib.Math.max.name ∈ WL ∧ Jvm.Cond.code Lib.Math.max.name Lib.Math.max.code 2 (some .int) ∈ WL ∧ Jvm.Cond.static Lib.Math.min.name ∈ WL ∧ Jvm.Cond.code Lib.Math.min.name Lib.Math.min.code 2 (some .int) ∈ WL) ∧
  (Jvm.Cond.native arraycopyName ∈ WL ∧ Jvm.Cond.static arraycopyName ∈ WL ∧ Jvm.Cond.initialized "java/lang/System" ∈ WL) ∧
  (Jvm.Cond.instanceMethod objectInit ∈ WL ∧ Jvm.Cond.code objectInit ⟨#[0xb1]⟩ 1 none ∈ WL) ∧ Jvm.Cond.arrayClass .int ∈ WL
def AK (me : ME) (L : LV) (S : List AV) (F : FM) : Prop := L.length = me_ml me ∧ (∀ v ∈ S, okv v) ∧ (∀ (i : Nat) (v : AV), L[i]? = some (some v) → okv v) ∧ ∀ k j, inb (F k j)
theorem AK_push {me : ME} {L : LV} {S : List AV} {F : FM} {v : AV} (h : AK me L S F) (hv : okv v) : AK me L (v :: S) F := ⟨h.1, List.forall_mem_cons.mpr ⟨hv, h.2.1⟩, h.2.2⟩
theorem AK_pop {me : ME} {L : LV} {S : List AV} {F : FM} {v : AV} (h : AK me L (v :: S) F) : AK me L S F ∧ okv v := ⟨⟨h.1, (List.forall_mem_cons.mp h.2.1).2, h.2.2⟩, (List.forall_mem_cons.mp h.2.1).1⟩
theorem AK_set {me : ME} {L : LV} {S : List AV} {F : FM} {v : AV} {i : Nat} (h : AK me L S F) (hv : okv v) : AK me (L.set i (some v)) S F := by
  refine ⟨by rw [List.length_set]; exact h.1, h.2.1, fun j w hj => ?_, h.2.2.2⟩
  rw [List.getElem?_set] at hj
  split at hj
  · split at hj
    · cases hj; exact hv
    · cases hj
  · exact h.2.2.1 j w hj
theorem AK_F {me : ME} {L : LV} {S : List AV} {F F' : FM} (h : AK me L S F) (hF : ∀ k j, inb (F' k j)) : AK me L S F' := ⟨h.1, h.2.1, h.2.2.1, hF⟩
theorem inb_stt {F : FM} {k j : Nat} {v : Int} (h : ∀ k j, inb (F k j)) (hv : inb v) : ∀ a b, inb (stt F k j v a b) := by
  intro a b
  unfold stt
  split
  · exact hv
  · exact h a b
theorem inb_clF {F : FM} {k : Nat} (h : ∀ k j, inb (F k j)) : ∀ a b, inb (clF F k a b) := by
  intro a b
  unfold clF
  split
  · exact inb_0
  · exact h a b
theorem inb_cpF {F : FM} {s sp t dp n : Nat} (h : ∀ k j, inb (F k j)) : ∀ a b, inb (cpF F s sp t dp n a b) := by
  intro a b
  unfold cpF
  split
  · exact h _ _
  · exact h a b
theorem ptr_fit {t : FieldType} (h : defaultValue t = .null) (r : Option Nat) : narrow t (va_rf r) = va_rf r ∧ fits t (va_rf r) = true := by
  cases t <;> first | (simp [defaultValue] at h; done) | (cases r <;> exact ⟨rfl, rfl⟩)
section STP
variable {pg : Nat → Option ME} {d : Nat} {me : ME} {pc len : Nat} {ri : RI} {ins : Instr} {L L' : LV} {S S' : List AV} {kd kd' : KL} {F F' : FM} {P P' : PM} {pc' c0 s0 : Nat}
set_option maxHeartbeats 4000000 in
theorem stp_sound (gw : GWs) (hd : decode (me_cc me) pc = .ok (ins, len)) (ok : okJ pg me ins len ri = true) (hs : stp d pc len ri ins L S kd F P = some (pc', L', S', kd', F', P')) (ak : AK me L S F) :
    (AK me L' S' F' ∧ kd.length ≤ kd'.length ∧ ksz kd ≤ ksz kd') ∧ ∀ (g : GX) (K : KX) (Q : State → Prop), Fx g K d me → c0 ≤ kd.length → s0 ≤ ksz kd → kd'.length - c0 ≤ g.2.2.2.1.cells ∧ ksz kd' - s0 ≤ g.2.2.2.1.slots → NX g K Q c0 s0 pc' L' S' kd' F' P' → NX g K Q c0 s0 pc L S kd F P := by
  unfold stp at hs
  split at hs
  · next n =>
    simp only [okJ, Bool.and_eq_true, decide_eq_true_eq] at ok
    obtain ⟨rfl, ok⟩ := ok
    simp only [s_load, Option.some.injEq, Prod.mk.injEq] at hs
    obtain ⟨rfl, rfl, rfl, rfl, rfl, rfl⟩ := hs
    exact ⟨⟨AK_push ak (inbB_spec ok), Nat.le_refl _, Nat.le_refl _⟩, fun g K Q fx _ _ _ nx => nx_iconst fx hd nx⟩
  · next n =>
    simp only [okJ, Bool.and_eq_true, decide_eq_true_eq] at ok
    obtain ⟨rfl, ok⟩ := ok
    simp only [s_load, Option.some.injEq, Prod.mk.injEq] at hs
    obtain ⟨rfl, rfl, rfl, rfl, rfl, rfl⟩ := hs
    exact ⟨⟨AK_push ak (by show inb n; unfold inb; omega), Nat.le_refl _, Nat.le_refl _⟩, fun g K Q fx _ _ _ nx => nx_bipush fx hd ok.1 ok.2 nx⟩
  · next n =>
    simp only [okJ, Bool.and_eq_true, decide_eq_true_eq] at ok
    obtain ⟨rfl, ok⟩ := ok
    simp only [s_load, Option.some.injEq, Prod.mk.injEq] at hs
    obtain ⟨rfl, rfl, rfl, rfl, rfl, rfl⟩ := hs
    exact ⟨⟨AK_push ak (by show inb n; unfold inb; omega), Nat.le_refl _, Nat.le_refl _⟩, fun g K Q fx _ _ _ nx => nx_sipush fx hd ok.1 ok.2 nx⟩
  · next n =>
    simp only [okJ, Bool.and_eq_true, decide_eq_true_eq] at ok
    obtain ⟨rfl, ok⟩ := ok
    simp only [s_load, Option.some.injEq, Prod.mk.injEq] at hs
    obtain ⟨rfl, rfl, rfl, rfl, rfl, rfl⟩ := hs
    exact ⟨⟨AK_push ak (inbB_spec ok.1), Nat.le_refl _, Nat.le_refl _⟩, fun g K Q fx _ _ _ nx => nx_ldc fx hd (wAt_in ok.2) nx⟩
  · next i =>
    simp only [okJ, decide_eq_true_eq] at ok
    subst ok
    unfold s_load at hs
    split at hs
    · next v hv =>
      cases hs
      obtain ⟨x, rfl, hx⟩ := ldI_spec hv
      exact ⟨⟨AK_push ak (ak.2.2.1 _ _ hx), Nat.le_refl _, Nat.le_refl _⟩, fun g K Q fx _ _ _ nx => nx_iload fx hd hv nx⟩
    · cases hs
  · next i =>
    simp only [okJ, decide_eq_true_eq] at ok
    subst ok
    unfold s_load at hs
    split at hs
    · next v hv =>
      cases hs
      obtain ⟨x, rfl, hx⟩ := ldI_spec hv
      exact ⟨⟨AK_push ak (ak.2.2.1 _ _ hx), Nat.le_refl _, Nat.le_refl _⟩, fun g K Q fx _ _ _ nx => nx_iload_n fx hd hv nx⟩
    · cases hs
  · next i =>
    simp only [okJ, decide_eq_true_eq] at ok
    subst ok
    unfold s_load at hs
    split at hs
    · next v hv =>
      cases hs
      obtain ⟨x, rfl, hx⟩ := ldA_spec hv
      exact ⟨⟨AK_push ak (ak.2.2.1 _ _ hx), Nat.le_refl _, Nat.le_refl _⟩, fun g K Q fx _ _ _ nx => nx_aload fx hd hv nx⟩
    · cases hs
  · next i =>
    simp only [okJ, decide_eq_true_eq] at ok
    subst ok
    unfold s_load at hs
    split at hs
    · next v hv =>
      cases hs
      obtain ⟨x, rfl, hx⟩ := ldA_spec hv
      exact ⟨⟨AK_push ak (ak.2.2.1 _ _ hx), Nat.le_refl _, Nat.le_refl _⟩, fun g K Q fx _ _ _ nx => nx_aload_n fx hd hv nx⟩
    · cases hs
  · next i =>
    simp only [okJ, decide_eq_true_eq] at ok
    subst ok
    unfold s_storeI at hs
    split at hs
    · split at hs
      · next hi =>
        cases hs
        obtain ⟨a1, a2⟩ := AK_pop ak
        exact ⟨⟨AK_set a1 a2, Nat.le_refl _, Nat.le_refl _⟩, fun g K Q fx _ _ _ nx => nx_istore fx hd hi nx⟩
      · cases hs
    · cases hs
  · next i =>
    simp only [okJ, decide_eq_true_eq] at ok
    subst ok
    unfold s_storeI at hs
    split at hs
    · split at hs
      · next hi =>
        cases hs
        obtain ⟨a1, a2⟩ := AK_pop ak
        exact ⟨⟨AK_set a1 a2, Nat.le_refl _, Nat.le_refl _⟩, fun g K Q fx _ _ _ nx => nx_istore_n fx hd hi nx⟩
      · cases hs
    · cases hs
  · next i =>
    simp only [okJ, decide_eq_true_eq] at ok
    subst ok
    unfold s_storeA at hs
    split at hs
    · split at hs
      · next hi =>
        cases hs
        obtain ⟨a1, a2⟩ := AK_pop ak
        exact ⟨⟨AK_set a1 a2, Nat.le_refl _, Nat.le_refl _⟩, fun g K Q fx _ _ _ nx => nx_astore fx hd hi nx⟩
      · cases hs
    · cases hs
  · next i =>
    simp only [okJ, decide_eq_true_eq] at ok
    subst ok
    unfold s_storeA at hs
    split at hs
    · split at hs
      · next hi =>
        cases hs
        obtain ⟨a1, a2⟩ := AK_pop ak
        exact ⟨⟨AK_set a1 a2, Nat.le_refl _, Nat.le_refl _⟩, fun g K Q fx _ _ _ nx => nx_astore_n fx hd hi nx⟩
      · cases hs
    · cases hs
  · next i n =>
    simp only [okJ, decide_eq_true_eq] at ok
    subst ok
    unfold s_iinc at hs
    split at hs
    · next v hv =>
      cases hs
      exact ⟨⟨AK_set ak (inb_wr _), Nat.le_refl _, Nat.le_refl _⟩, fun g K Q fx _ _ _ nx => nx_iinc fx hd hv nx⟩
    · cases hs
  · simp only [okJ, decide_eq_true_eq] at ok
    subst ok
    unfold s_bin at hs
    split at hs
    · cases hs
      obtain ⟨a1, a2⟩ := AK_pop ak
      obtain ⟨a3, a4⟩ := AK_pop a1
      exact ⟨⟨AK_push a3 (inb_wr _), Nat.le_refl _, Nat.le_refl _⟩, fun g K Q fx _ _ _ nx => nx_iadd fx hd nx⟩
    · cases hs
  · simp only [okJ, decide_eq_true_eq] at ok
    subst ok
    unfold s_bin at hs
    split at hs
    · cases hs
      obtain ⟨a1, a2⟩ := AK_pop ak
      obtain ⟨a3, a4⟩ := AK_pop a1
      exact ⟨⟨AK_push a3 (inb_wr _), Nat.le_refl _, Nat.le_refl _⟩, fun g K Q fx _ _ _ nx => nx_isub fx hd nx⟩
    · cases hs
  · simp only [okJ, decide_eq_true_eq] at ok
    subst ok
    unfold s_bin at hs
    split at hs
    · cases hs
      obtain ⟨a1, a2⟩ := AK_pop ak
      obtain ⟨a3, a4⟩ := AK_pop a1
      exact ⟨⟨AK_push a3 (inb_wr _), Nat.le_refl _, Nat.le_refl _⟩, fun g K Q fx _ _ _ nx => nx_imul fx hd nx⟩
    · cases hs
  · simp only [okJ, decide_eq_true_eq] at ok
    subst ok
    unfold s_bin at hs
    split at hs
    · cases hs
      obtain ⟨a1, a2⟩ := AK_pop ak
      obtain ⟨a3, a4⟩ := AK_pop a1
      exact ⟨⟨AK_push a3 (inb_toInt _), Nat.le_refl _, Nat.le_refl _⟩, fun g K Q fx _ _ _ nx => nx_iand fx hd nx⟩
    · cases hs
  · simp only [okJ, decide_eq_true_eq] at ok
    subst ok
    unfold s_binD at hs
    split at hs
    · split at hs
      · cases hs
      · next h0 =>
        cases hs
        obtain ⟨a1, a2⟩ := AK_pop ak
        obtain ⟨a3, a4⟩ := AK_pop a1
        exact ⟨⟨AK_push a3 (inb_wr _), Nat.le_refl _, Nat.le_refl _⟩, fun g K Q fx _ _ _ nx => nx_idiv fx hd a4 a2 h0 nx⟩
    · cases hs
  · simp only [okJ, decide_eq_true_eq] at ok
    subst ok
    unfold s_binD at hs
    split at hs
    · split at hs
      · cases hs
      · next h0 =>
        cases hs
        obtain ⟨a1, a2⟩ := AK_pop ak
        obtain ⟨a3, a4⟩ := AK_pop a1
        exact ⟨⟨AK_push a3 (inb_wr _), Nat.le_refl _, Nat.le_refl _⟩, fun g K Q fx _ _ _ nx => nx_irem fx hd a4 a2 h0 nx⟩
    · cases hs
  · simp only [okJ, decide_eq_true_eq] at ok
    subst ok
    unfold s_neg at hs
    split at hs
    · cases hs
      obtain ⟨a1, a2⟩ := AK_pop ak
      exact ⟨⟨AK_push a1 (inb_wr _), Nat.le_refl _, Nat.le_refl _⟩, fun g K Q fx _ _ _ nx => nx_ineg fx hd nx⟩
    · cases hs
  · simp only [okJ, decide_eq_true_eq] at ok
    subst ok
    unfold s_dup at hs
    split at hs
    · cases hs
      exact ⟨⟨AK_push ak (AK_pop ak).2, Nat.le_refl _, Nat.le_refl _⟩, fun g K Q fx _ _ _ nx => nx_dup fx hd nx⟩
    · cases hs
  · simp only [okJ, decide_eq_true_eq] at ok
    subst ok
    unfold s_dup2 at hs
    split at hs
    · cases hs
      obtain ⟨a1, a2⟩ := AK_pop ak
      obtain ⟨a3, a4⟩ := AK_pop a1
      exact ⟨⟨AK_push (AK_push ak a4) a2, Nat.le_refl _, Nat.le_refl _⟩, fun g K Q fx _ _ _ nx => nx_dup2 fx hd nx⟩
    · cases hs
  · simp only [okJ, decide_eq_true_eq] at ok
    subst ok
    unfold s_pop at hs
    split at hs
    · cases hs
      exact ⟨⟨(AK_pop ak).1, Nat.le_refl _, Nat.le_refl _⟩, fun g K Q fx _ _ _ nx => nx_pop fx hd nx⟩
    · cases hs
  · next off =>
    simp only [okJ, decide_eq_true_eq] at ok
    subst ok
    unfold s_goto at hs
    split at hs
    · next t ht =>
      cases hs
      exact ⟨⟨ak, Nat.le_refl _, Nat.le_refl _⟩, fun g K Q fx _ _ _ nx => nx_goto fx hd ht nx⟩
    · cases hs
  · next c off =>
    simp only [okJ, decide_eq_true_eq] at ok
    subst ok
    unfold s_icmp at hs
    split at hs
    · next t y x S1 ht =>
      cases hs
      obtain ⟨a1, a2⟩ := AK_pop ak
      obtain ⟨a3, a4⟩ := AK_pop a1
      exact ⟨⟨a3, Nat.le_refl _, Nat.le_refl _⟩, fun g K Q fx _ _ _ nx => nx_icmp fx hd ht a4 a2 nx⟩
    · cases hs
  · next c off =>
    simp only [okJ, decide_eq_true_eq] at ok
    subst ok
    unfold s_ifc at hs
    split at hs
    · next t x S1 ht =>
      cases hs
      obtain ⟨a1, a2⟩ := AK_pop ak
      exact ⟨⟨a1, Nat.le_refl _, Nat.le_refl _⟩, fun g K Q fx _ _ _ nx => nx_ifc fx hd ht a2 nx⟩
    · cases hs
  · simp only [okJ, decide_eq_true_eq] at ok
    subst ok
    unfold s_iald at hs
    split at hs
    · split at hs
      · next n hk =>
        split at hs
        · next hb =>
          cases hs
          obtain ⟨a1, a2⟩ := AK_pop ak
          exact ⟨⟨AK_push (AK_pop a1).1 (ak.2.2.2 _ _), Nat.le_refl _, Nat.le_refl _⟩, fun g K Q fx _ _ _ nx => nx_iald fx hd hk a2 hb.1 hb.2 nx⟩
        · cases hs
      · cases hs
    · cases hs
  · simp only [okJ, decide_eq_true_eq] at ok
    subst ok
    unfold s_aald at hs
    split at hs
    · split at hs
      · next n hk =>
        split at hs
        · next hb =>
          cases hs
          obtain ⟨a1, a2⟩ := AK_pop ak
          exact ⟨⟨AK_push (AK_pop a1).1 trivial, Nat.le_refl _, Nat.le_refl _⟩, fun g K Q fx _ _ _ nx => nx_aald fx hd hb.1 hk a2 hb.2.1 hb.2.2 nx⟩
        · cases hs
      · cases hs
    · cases hs
  · simp only [okJ, decide_eq_true_eq] at ok
    subst ok
    unfold s_iast at hs
    split at hs
    · split at hs
      · next n hk =>
        split at hs
        · next hb =>
          cases hs
          obtain ⟨a1, a2⟩ := AK_pop ak
          obtain ⟨a3, a4⟩ := AK_pop a1
          exact ⟨⟨AK_F (AK_pop a3).1 (inb_stt ak.2.2.2 a2), Nat.le_refl _, Nat.le_refl _⟩, fun g K Q fx _ _ _ nx => nx_iast fx hd hb.1 hk a4 hb.2.1 hb.2.2 nx⟩
        · cases hs
      · cases hs
    · cases hs
  · simp only [okJ, decide_eq_true_eq] at ok
    subst ok
    unfold s_aast at hs
    split at hs
    · split at hs
      · next n hk =>
        split at hs
        · next hb =>
          cases hs
          obtain ⟨a1, a2⟩ := AK_pop ak
          obtain ⟨a3, a4⟩ := AK_pop a1
          exact ⟨⟨(AK_pop a3).1, Nat.le_refl _, Nat.le_refl _⟩, fun g K Q fx _ _ _ nx => nx_aast fx hd hb.1 hk a4 hb.2.1 hb.2.2.1 hb.2.2.2.1 hb.2.2.2.2 nx⟩
        · cases hs
      · cases hs
    · cases hs
  · simp only [okJ, decide_eq_true_eq] at ok
    subst ok
    unfold s_alen at hs
    split at hs
    · split at hs
      · next n hk =>
        split at hs
        · next hb =>
          cases hs
          exact ⟨⟨AK_push (AK_pop ak).1 (by show inb _; unfold inb; omega), Nat.le_refl _, Nat.le_refl _⟩, fun g K Q fx _ _ _ nx => nx_alen fx hd hk nx⟩
        · cases hs
      · cases hs
    · cases hs
  · next idx =>
    simp only [okJ, okG, Bool.and_eq_true, decide_eq_true_eq] at ok
    obtain ⟨rfl, ok⟩ := ok
    split at ok
    · next r hr =>
      simp only [Bool.and_eq_true, decide_eq_true_eq] at ok
      unfold s_getf at hs
      split at hs
      · split at hs
        · next c n hk =>
          split at hs
          · next hb =>
            obtain ⟨rfl, hj, h3⟩ := hb
            cases hs
            exact ⟨⟨AK_push (AK_pop ak).1 (by split; exact ak.2.2.2 _ _; trivial), Nat.le_refl _, Nat.le_refl _⟩, fun g K Q fx _ _ _ nx => nx_getf fx hd h3 hk hj hr ok.1.1 (gw.1 _ _ hr).1 (wAt_in ok.1.2) nx⟩
          · cases hs
        · cases hs
      · cases hs
    · cases ok
  · next idx =>
    simp only [okJ, okG, Bool.and_eq_true, decide_eq_true_eq] at ok
    obtain ⟨rfl, ok⟩ := ok
    split at ok
    · next r hr =>
      simp only [Bool.and_eq_true, decide_eq_true_eq] at ok
      have hfin : (r.2.1 ri.2.1).2.2.2 = false ∨ ((me_y me).name = "<init>" ∧ (r.2.1 ri.2.1).1 = (me_y me).cls) := by
        have h := ok.2
        simp at h
        exact h
      unfold s_putf at hs
      split at hs
      · split at hs
        · next c n hk =>
          split at hs
          · next hb =>
            obtain ⟨rfl, hj, h3, hty⟩ := hb
            cases hs
            obtain ⟨a1, a2⟩ := AK_pop ak
            refine ⟨⟨AK_F (AK_pop a1).1 (inb_stt ak.2.2.2 a2), Nat.le_refl _, Nat.le_refl _⟩, fun g K Q fx _ _ _ nx => nx_putV fx hd h3 hk hj hr ok.1.1 (gw.1 _ _ hr).1 (wAt_in ok.1.2) hfin ?_ ?_ ?_ (fun a b hab => by unfold stt; rw [if_neg hab]) (fun a b hab => rfl) nx⟩
            · rcases hty with h | ⟨h, q | q⟩ <;> rw [h]
              · rfl
              · rw [q]; rfl
              · rw [q]; rfl
            · rcases hty with h | ⟨h, q | q⟩ <;> rw [h]
              · rfl
              · rw [q]; rfl
              · rw [q]; rfl
            · have e : isN (tyOf ri.1 ri.2.1) = true := by rcases hty with h | ⟨h, q⟩ <;> rw [h] <;> rfl
              unfold sval stt
              rw [if_pos e, if_pos ⟨rfl, rfl⟩]
              rfl
          · cases hs
        · cases hs
      · split at hs
        · next c n hk =>
          split at hs
          · next hb =>
            obtain ⟨rfl, hj, h3, hty⟩ := hb
            cases hs
            obtain ⟨a1, a2⟩ := AK_pop ak
            have hdf := clDef _ _ hr _ ok.1.1
            rw [if_neg (by rw [hty]; decide)] at hdf
            refine ⟨⟨(AK_pop a1).1, Nat.le_refl _, Nat.le_refl _⟩, fun g K Q fx _ _ _ nx => nx_putV fx hd h3 hk hj hr ok.1.1 (gw.1 _ _ hr).1 (wAt_in ok.1.2) hfin ?_ ?_ ?_ (fun a b hab => rfl) (fun a b hab => by unfold stp_; rw [if_neg hab]) nx⟩
            · exact (ptr_fit hdf _).1
            · exact (ptr_fit hdf _).2
            · unfold sval stp_
              rw [if_neg (by rw [hty]; decide), if_pos ⟨rfl, rfl⟩]
              rfl
          · cases hs
        · cases hs
      · cases hs
    · cases ok
  · next idx =>
    simp only [okJ, Bool.and_eq_true, decide_eq_true_eq] at ok
    obtain ⟨rfl, ok⟩ := ok
    split at ok
    · next r hr =>
      simp only [Bool.and_eq_true, decide_eq_true_eq] at ok
      unfold s_new at hs
      cases hs
      have e1 : (kd ++ [(ri.1 + 2, ri.2.1)]).length = kd.length + 1 := by simp
      have e2 : ksz (kd ++ [(ri.1 + 2, ri.2.1)]) = ksz kd + ri.2.1 := by unfold ksz; simp
      exact ⟨⟨AK_F (AK_push ak trivial) (inb_clF ak.2.2.2), by omega, by omega⟩, fun g K Q fx h1 h2 h3 nx => nx_new fx hd hr ok.1 (gw.1 _ _ hr).1 (wAt_in ok.2) (gw.1 _ _ hr).2.1 (gw.1 _ _ hr).2.2 h1 h2 (by rw [← e1]; exact h3.1) (by rw [← e2]; exact h3.2) nx⟩
    · cases ok
  · next t =>
    simp only [okJ, decide_eq_true_eq] at ok
    subst ok
    split at hs
    · next ht =>
      subst ht
      unfold s_newa at hs
      split at hs
      · next n S1 =>
        split at hs
        · next hb =>
          cases hs
          have e1 : List.length (kd ++ [((0 : Nat), n.toNat)]) = kd.length + 1 := by simp
          have e2 : ksz (kd ++ [((0 : Nat), n.toNat)]) = ksz kd + n.toNat := by unfold ksz; simp
          exact ⟨⟨AK_F (AK_push (AK_pop ak).1 trivial) (inb_clF ak.2.2.2), by omega, by omega⟩, fun g K Q fx h1 h2 h3 nx => nx_newa fx hd gw.2.2.2.2 hb.1 hb.2 h1 h2 (by rw [← e1]; exact h3.1) (by rw [← e2]; exact h3.2) nx⟩
        · cases hs
      · cases hs
    · cases hs
  · next idx =>
    simp only [okJ, Bool.and_eq_true, decide_eq_true_eq] at ok
    obtain ⟨rfl, ok⟩ := ok
    unfold s_anew at hs
    split at hs
    · next n S1 =>
      split at hs
      · next hb =>
        cases hs
        have e1 : List.length (kd ++ [((1 : Nat), n.toNat)]) = kd.length + 1 := by simp
        have e2 : ksz (kd ++ [((1 : Nat), n.toNat)]) = ksz kd + n.toNat := by unfold ksz; simp
        exact ⟨⟨AK_push (AK_pop ak).1 trivial, by omega, by omega⟩, fun g K Q fx h1 h2 h3 nx => nx_anew fx hd (wAt_in ok) hb.1 hb.2 h1 h2 (by rw [← e1]; exact h3.1) (by rw [← e2]; exact h3.2) nx⟩
      · cases hs
    · cases hs
  · next idx =>
    simp only [okJ, Bool.and_eq_true, Bool.or_eq_true, decide_eq_true_eq] at ok
    obtain ⟨rfl, ok⟩ := ok
    unfold s_gets at hs
    cases hs
    refine ⟨⟨AK_push ak trivial, Nat.le_refl _, Nat.le_refl _⟩, fun g K Q fx _ _ _ nx => ?_⟩
    rcases ok with ⟨h, hw⟩ | ⟨h, hw⟩
    · rw [h] at nx
      exact nx_gets fx hd (nAt_in hw) fx.2.2.2.2.2.1.2.2.2.2.2.1 (by omega) nx
    · rw [h] at nx
      exact nx_gets fx hd (nAt_in hw) fx.2.2.2.2.2.1.2.2.2.2.2.2 (by omega) nx
  · next dflt lo hi offs =>
    have hs' := hs
    unfold s_tab at hs
    split at hs
    · next x S1 =>
      obtain ⟨a1, a2⟩ := AK_pop ak
      have hAK : L' = L ∧ S' = S1 ∧ kd' = kd ∧ F' = F := by
        split at hs
        · split at hs
          · unfold s_goto at hs
            split at hs
            · cases hs; exact ⟨rfl, rfl, rfl, rfl⟩
            · cases hs
          · cases hs
        · unfold s_goto at hs
          split at hs
          · cases hs; exact ⟨rfl, rfl, rfl, rfl⟩
          · cases hs
      obtain ⟨rfl, rfl, rfl, rfl⟩ := hAK
      exact ⟨⟨a1, Nat.le_refl _, Nat.le_refl _⟩, fun g K Q fx _ _ _ nx => nx_tab fx hd a2 hs' nx⟩
    · cases hs
  · next dflt ps =>
    have hs' := hs
    unfold s_look at hs
    split at hs
    · next x S1 =>
      obtain ⟨a1, a2⟩ := AK_pop ak
      have hAK : L' = L ∧ S' = S1 ∧ kd' = kd ∧ F' = F := by
        split at hs
        · unfold s_goto at hs
          split at hs
          · cases hs; exact ⟨rfl, rfl, rfl, rfl⟩
          · cases hs
        · cases hs
      obtain ⟨rfl, rfl, rfl, rfl⟩ := hAK
      exact ⟨⟨a1, Nat.le_refl _, Nat.le_refl _⟩, fun g K Q fx _ _ _ nx => nx_look fx hd a2 hs' nx⟩
    · cases hs
  · next idx =>
    simp only [okJ, Bool.and_eq_true, decide_eq_true_eq] at ok
    obtain ⟨rfl, ok⟩ := ok
    split at hs
    · next h2 =>
      rw [if_pos h2] at ok
      unfold s_copy at hs
      split at hs
      · split at hs
        · next n0 n1 e0 e1 =>
          split at hs
          · next hb =>
            obtain ⟨q1, q2, q3, q4, q5, q6, q7, q8⟩ := hb
            subst q2
            cases hs
            obtain ⟨a1, a2⟩ := AK_pop ak
            obtain ⟨a3, a4⟩ := AK_pop a1
            obtain ⟨a5, a6⟩ := AK_pop a3
            obtain ⟨a7, a8⟩ := AK_pop a5
            exact ⟨⟨AK_F (AK_pop a7).1 (inb_cpF ak.2.2.2), Nat.le_refl _, Nat.le_refl _⟩, fun g K Q fx _ _ _ nx => nx_copy fx ak.1 hd (wAt_in ok) gw.2.2.1.1 gw.2.2.1.2.1 gw.2.2.1.2.2 q1 q3 e0 e1 a2 a8 a4 q4 q5 q6 q7 q8 nx⟩
          · cases hs
        · cases hs
      · cases hs
    · next h2 =>
      rw [if_neg h2] at ok
      split at hs
      · next h3 =>
        rw [if_pos h3] at ok
        unfold s_mm at hs
        split at hs
        · next y x S1 =>
          split at hs
          · next hb =>
            cases hs
            obtain ⟨a1, a2⟩ := AK_pop ak
            obtain ⟨a3, a4⟩ := AK_pop a1
            exact ⟨⟨AK_push a3 (by show inb (if x < y then y else x); split; exact a2; exact a4), Nat.le_refl _, Nat.le_refl _⟩, fun g K Q fx _ _ hr nx => nx_mmax fx ak.1 hd (wAt_in ok) gw.2.1.2.1 gw.2.1.1 gw.2.1.2.2.1 hb.1 hb.2 a4 a2 hr nx⟩
          · cases hs
        · cases hs
      · next h3 =>
        rw [if_neg h3] at ok
        split at hs
        · next h4 =>
          rw [if_pos h4] at ok
          unfold s_mm at hs
          split at hs
          · next y x S1 =>
            split at hs
            · next hb =>
              cases hs
              obtain ⟨a1, a2⟩ := AK_pop ak
              obtain ⟨a3, a4⟩ := AK_pop a1
              exact ⟨⟨AK_push a3 (by show inb (if y < x then y else x); split; exact a2; exact a4), Nat.le_refl _, Nat.le_refl _⟩, fun g K Q fx _ _ hr nx => nx_mmin fx ak.1 hd (wAt_in ok) gw.2.1.2.2.2.1 gw.2.1.1 gw.2.1.2.2.2.2 hb.1 hb.2 a4 a2 hr nx⟩
            · cases hs
          · cases hs
        · cases hs
  · next idx =>
    simp only [okJ, Bool.and_eq_true, decide_eq_true_eq] at ok
    obtain ⟨rfl, ok⟩ := ok
    split at hs
    · next h5 =>
      rw [if_pos h5] at ok
      unfold s_oini at hs
      split at hs
      · split at hs
        · next hb =>
          obtain ⟨q1, q2⟩ := hb
          subst q2
          cases hs
          exact ⟨⟨(AK_pop ak).1, Nat.le_refl _, Nat.le_refl _⟩, fun g K Q fx _ _ _ nx => nx_oini fx ak.1 hd (wAt_in ok) gw.2.2.2.1.1 gw.2.2.2.1.2 q1 nx⟩
        · cases hs
      · cases hs
    · cases hs
  · cases hs
end STP
end
section
def OKM (pg : Nat → Option ME) (ce : ME) : Prop :=
  plainName (me_y ce).cls = true ∧ ((me_y ce).cls ≠ "java/lang/invoke/MethodHandle" ∧ (me_y ce).cls ≠ "java/lang/invoke/VarHandle") ∧ (parseMethodDescriptor (me_y ce).desc).map (fun d => d.parameters.length) = some (me_na ce) ∧ Jvm.Cond.code (me_y ce) (me_cc ce) (me_ml ce) (me_rt ce) ∈ WL ∧ Jvm.Cond.initialized (me_y ce).cls ∈ WL ∧
  (me_kd ce = 0 → Jvm.Cond.instanceMethod (me_y ce) ∈ WL ∧ Jvm.Cond.selects (me_y ce).cls (me_y ce) (me_y ce) ∈ WL ∧ ∃ r : vw_C, vwCl[me_ix ce]? = some r ∧ r.1 = (me_y ce).cls) ∧ (me_kd ce = 1 → Jvm.Cond.static (me_y ce) ∈ WL) ∧ (me_kd ce = 2 → Jvm.Cond.instanceMethod (me_y ce) ∈ WL ∧ (me_y ce).name = "<init>" ∧ me_rt ce = none) ∧ me_ml ce ≤ 20 ∧ ∀ e ∈ me_ci ce, okI pg ce e = true
def wsm (ce : ME) : List Jvm.Cond := .code (me_y ce) (me_cc ce) (me_ml ce) (me_rt ce) :: WL
def Mth (K : KX) (l : Launch) (ce : ME) (as : List AV) (kd : KL) (F : FM) (P : PM) (d : Nat) (rs : RS) : Prop :=
  Met l (me_y ce) (wsm ce) ({ frames := d, cells := rs.2.1.length - kd.length, slots := ksz rs.2.1 - ksz kd, locals := 39 * d } : Room) (fun a U => a = (as.map (gv K)).toArray ∧ TF K U ∧ WI K kd F P U.heap) (fun _ _ oc t => oc = .returned (rs.1.map (gv K)) ∧ WI K rs.2.1 rs.2.2.1 rs.2.2.2 t.heap) (rs.2.1.length - kd.length) (ksz rs.2.1 - ksz kd) (zA K)
theorem NWs_tab : ∀ w ∈ NWs, w.onTables = true := by decide +kernel
theorem TF_same {K : KX} {u U : State} (h : u.vm = U.vm) (t : TF K u) : TF K U := by
  have hA : u.vm.Alike U.vm := by rw [h]; exact Vm.Alike.refl _
  obtain ⟨t1, t2, t3, t4, t5, t6, t7⟩ := t
  exact ⟨t1, t2.moved hA, fun w hw => (t3 w hw).same (NWs_tab w hw) h, t4.moved hA, fun k hk => (t5 k hk).moved hA, t6.moved hA, t7.moved hA⟩
theorem NW_warm {s U : State} (hW : s.WarmedH U.vm) (h : ∀ w ∈ NWs, va_Nw w s) : ∀ w ∈ NWs, va_Nw w U := by
  simp only [NWs, List.forall_mem_cons] at h ⊢
  obtain ⟨h1, h2, h3, h4, h5, h6, h7, h8⟩ := h
  exact ⟨h1.warmM hW, h2.warmM hW, h3.warmM hW, h4.warmM hW, h5.warmM hW, h6.warmF hW, h7.warmF hW, fun _ h => absurd h List.not_mem_nil⟩
theorem TF_warm {K : KX} {s U : State} (hW : s.WarmedH U.vm) (t : TF K s) : TF K U := by
  obtain ⟨t1, t2, t3, t4, t5, t6, t7⟩ := t
  exact ⟨t1, t2.moved hW.alike, NW_warm hW t3, t4.moved hW.alike, fun k hk => (t5 k hk).moved hW.alike, t6.moved hW.alike, t7.moved hW.alike⟩
theorem spl_spec {n : Nat} {S as S' : List AV} (h : spl n S = some (as, S')) : S = as.reverse ++ S' ∧ as.length = n := by
  unfold spl at h
  split at h
  · next hn =>
    cases h
    exact ⟨by rw [List.reverse_reverse, List.take_append_drop], by rw [List.length_reverse, List.length_take]; omega⟩
  · cases h
theorem ftc_spec {pc : Nat} : ∀ {l : List CI} {e : CI}, ftc pc l = some e → e ∈ l ∧ e.1 = pc
  | [], e, h => by cases h
  | a :: l, e, h => by
    unfold ftc at h
    split at h
    · next hp => cases h; exact ⟨List.mem_cons_self, hp⟩
    · obtain ⟨h1, h2⟩ := ftc_spec h
      exact ⟨List.mem_cons_of_mem _ h1, h2⟩
theorem rcv0 {ce : ME} {kd : KL} {as : List AV} (hk : me_kd ce = 0) (h : rcv ce kd as = true) : ∃ (k : Nat) (as' : List AV) (n : Nat), as = .inr (some k) :: as' ∧ 3 ≤ k ∧ kd[k]? = some (me_ix ce + 2, n) := by
  simp only [rcv, hk] at h
  split at h
  · next k as' =>
    simp only [Bool.and_eq_true, decide_eq_true_eq] at h
    obtain ⟨k3, h⟩ := h
    split at h
    · next c n hk =>
      simp only [decide_eq_true_eq] at h
      subst h
      exact ⟨k, as', n, rfl, k3, hk⟩
    · cases h
  · cases h
theorem rcv2 {ce : ME} {kd : KL} {as : List AV} (hk : me_kd ce = 2) (h : rcv ce kd as = true) : ∃ (k : Nat) (as' : List AV), as = .inr (some k) :: as' := by
  simp only [rcv, hk] at h
  split at h
  · next k as' => exact ⟨k, as', rfl⟩
  · cases h
section CALLS
variable {g : GX} {K : KX} {d : Nat} {me : ME} {Q : State → Prop} {c0 s0 pc : Nat} {L : LV} {S S' : List AV} {kd : KL} {F : FM} {P : PM} {rs : RS} {pg : Nat → Option ME}
theorem nx_run {ls : Array Slot} {H : Heap} {locs : List Loc} {st : List Value} (hL : LI K L ls) (hX : XI K locs) (hc0 : c0 ≤ kd.length) (hs0 : s0 ≤ ksz kd) (hmono : kd.length ≤ rs.2.1.length ∧ ksz kd ≤ ksz rs.2.1)
    (hrun : va_Run g.1 g.2.1 g.2.2.1 g.2.2.2.1 g.2.2.2.2.1 g.2.2.2.2.2.1 g.2.2.2.2.2.2.1 g.2.2.2.2.2.2.2.1 g.2.2.2.2.2.2.2.2.1 g.2.2.2.2.2.2.2.2.2 H locs (kd.length - c0) (ksz kd - s0) (rs.2.1.length - kd.length) (ksz rs.2.1 - ksz kd) (F0 g.2.2.2.2.2.1 pc ls st) (S'.map (gv K)) (fun _ oc t => oc = .returned (rs.1.map (gv K)) ∧ WI K rs.2.1 rs.2.2.1 rs.2.2.2 t.heap) (zA K))
    (nx : NX g K Q c0 s0 (pc + 3) L (psh rs.1 S') rs.2.1 rs.2.2.1 rs.2.2.2) : gW g H locs (kd.length - c0) (ksz kd - s0) Q (F0 g.2.2.2.2.2.1 pc ls st) := by
  intro T hT X
  obtain ⟨v, st₀, t, T', Lc, e1, X', hLc, e2, e3, ⟨e4, e5⟩, hgo⟩ := hrun T hT X
  have e4 : v = rs.1.map (gv K) := by cases e4; rfl
  subst e4
  rw [show kd.length - c0 + (rs.2.1.length - kd.length) = rs.2.1.length - c0 by omega, show ksz kd - s0 + (ksz rs.2.1 - ksz kd) = ksz rs.2.1 - s0 by omega] at X'
  obtain ⟨t', a1, b1⟩ := nx ls T'.heap (locs ++ Lc) hL (by rw [e2]; exact e5) (fun q hq => by
    rcases List.mem_append.mp hq with h | h
    · exact hX q h
    · exact hLc q h) T' rfl X'
  refine ⟨t', hgo t' ?_, b1⟩
  have e6 : (psh rs.1 S').map (gv K) = (rs.1.map (gv K)).toList ++ S'.map (gv K) := by
    cases rs.1 <;> rfl
  rw [e6] at a1
  exact a1
theorem nx_call {ce : ME} {ins : Instr} {ri : RI} {i : Nat} {as : List AV} {d' : Nat} (fx : Fx g K d me) (okc : OKM pg ce) (hd : decode (me_cc me) pc = .ok (ins, 3)) (ok : okJ pg me ins 3 ri = true) (hcal : cal ri ins = some i) (hpg : pg i = some ce) (hspl : spl (nar ce) S = some (as, S')) (h8 : S'.length ≤ 8) (hrcv : rcv ce kd as = true) (hM : Mth K g.2.1 ce as kd F P d' rs) (hdd : d' + 1 = d) (hml : L.length = me_ml me) (hc0 : c0 ≤ kd.length) (hs0 : s0 ≤ ksz kd) (hmono : kd.length ≤ rs.2.1.length ∧ ksz kd ≤ ksz rs.2.1) (hr : rs.2.1.length - c0 ≤ g.2.2.2.1.cells ∧ ksz rs.2.1 - s0 ≤ g.2.2.2.1.slots)
    (nx : NX g K Q c0 s0 (pc + 3) L (psh rs.1 S') rs.2.1 rs.2.2.1 rs.2.2.2) : NX g K Q c0 s0 pc L S kd F P := by
  intro ls H locs hL hW hX
  obtain ⟨q1, q2, q3, q4, q5, q6, q7, q8, q9, -⟩ := okc
  have hts := fx.2.2.2.2.1
  have hfr := fx.2.2.2.2.2.2.2.1
  have hlo := fx.2.2.2.2.2.2.2.2
  have hgood : GoodIn WL (wsm ce) := WL_GoodIn (fun w hw => by
    rcases List.mem_cons.mp hw with h | h
    · rw [h]; exact q4
    · exact h)
  obtain ⟨hS, hlen⟩ := spl_spec hspl
  have hblind : FrameBlind (fun (a : Array Value) (U : State) => a = (as.map (gv K)).toArray ∧ TF K U ∧ WI K kd F P U.heap) := fun a U g' mk h => ⟨h.1, TF_same (u := U) rfl h.2.1, h.2.2⟩
  have hfix : CallFix g.1 g.2.2.2.2.2.1 g.2.2.2.2.2.2.2.2.2 (me_cc me) (me_ml me) g.2.2.2.2.1 g.2.2.2.2.2.2.1 WL (me_y me).cls := ⟨fx.1, fx.2.1, fx.2.2.1, fx.2.2.2.1, hts⟩
  have hroom : kd.length - c0 + (rs.2.1.length - kd.length) ≤ g.2.2.2.1.cells ∧ ksz kd - s0 + (ksz rs.2.1 - ksz kd) ≤ g.2.2.2.1.slots := by omega
  have hW8 : 2 * (F0 g.2.2.2.2.2.1 pc ls (S.map (gv K))).monitorRoom + ((S'.map (gv K)).map fun v => v.category).sum ≤ 8 := lv_room (by rw [gv_cats]; exact h8)
  have hbase : (rs.2.1.length - kd.length = rs.2.1.length - kd.length ∧ ksz rs.2.1 - ksz kd = ksz rs.2.1 - ksz kd ∧ d' + 1 ≤ g.2.2.2.1.frames ∧ 8 + (me_ml ce + 11) + 39 * d' ≤ g.2.2.2.1.locals) := ⟨rfl, rfl, by omega, by omega⟩
  have hpay := pay_in hts hgood
  have hmem : Jvm.Cond.code (me_y ce) (me_cc ce) (me_ml ce) (me_rt ce) ∈ wsm ce := List.mem_cons_self
  have hsig : ∀ sig, parseMethodDescriptor (me_y ce).desc = some sig → me_na ce = sig.parameters.length := fun sig h => by
    rw [h] at q3
    exact (Option.some.inj q3).symm
  have hpost : ∀ U : State, U.heap = H → g.2.2.2.2.1.WarmedH U.vm → TF K U ∧ WI K kd F P U.heap := fun U hU hw => ⟨TF_warm hw fx.2.2.2.2.2.1, by rw [hU]; exact hW⟩
  unfold cal at hcal
  split at hcal
  · next idx =>
    cases hcal
    simp only [okJ, okC, hpg, Bool.and_eq_true, decide_eq_true_eq] at ok
    obtain ⟨-, ok0, okk, ok⟩ := ok
    rw [if_pos ok0] at ok
    obtain ⟨w1, w2, r, w3, w4⟩ := q6 okk
    obtain ⟨k, as', n, rfl, k3, hk⟩ := rcv0 okk hrcv
    obtain ⟨r', h1, cell, g1, g2, g3, -⟩ := hW.2.2.2.1 k _ k3 hk
    have hre : r' = r := Option.some.inj (h1.symm.trans w3)
    subst hre
    have hn : nar ce = me_na ce + 1 := by unfold nar; rw [okk]; rfl
    refine nx_run hL hX hc0 hs0 hmono (va_runV (C := (me_y ce).cls) (b := ad K k) (As := as'.map (gv K)) (n := me_na ce) hfix hM ⟨⟨hbase.1, hbase.2.1, hbase.2.2.1, hbase.2.2.2, hpay, hmem, hts _ q4, hts _ q5, q2, hsig, hts _ (wAt_in ok)⟩, hts _ w1, hts _ w2⟩ ⟨hblind, ⟨cell, g1, by rw [g3]; rfl, by rw [g2, ← w4]; exact (fx.2.2.2.2.2.1.2.1.1 _ _ w3).2.1⟩, fun U hU hw => ⟨rfl, hpost U hU hw⟩⟩ rfl (by rw [List.length_map]; simp at hlen; omega) (hL.1.trans hml) ?_ hW8 hd hroom) nx
    show S.map (gv K) = _
    rw [hS]
    simp [gv, va_rf]
  · next idx =>
    split at hcal
    · next h2 =>
      cases hcal
      simp only [okJ, Bool.and_eq_true, decide_eq_true_eq] at ok
      obtain ⟨-, ok⟩ := ok
      rw [if_neg (by omega), if_neg (by omega), if_neg (by omega)] at ok
      simp only [okC, hpg, Bool.and_eq_true, decide_eq_true_eq] at ok
      obtain ⟨okk, ok⟩ := ok
      have w1 := q7 okk
      have hn : nar ce = me_na ce := by unfold nar; rw [okk]; rfl
      have hst : S.map (gv K) = (as.map (gv K)).reverse ++ S'.map (gv K) := by rw [hS]; simp
      split at ok
      · exact nx_run hL hX hc0 hs0 hmono (va_runS (As := as.map (gv K)) (n := me_na ce) hfix hM ⟨⟨hbase.1, hbase.2.1, hbase.2.2.1, hbase.2.2.2, hpay, hmem, hts _ q4, hts _ q5, q2, hsig, hts _ (wAt_in ok)⟩, hts _ w1⟩ ⟨hblind, fun U hU hw => ⟨rfl, hpost U hU hw⟩⟩ rfl (by rw [List.length_map]; omega) (hL.1.trans hml) hst hW8 hd hroom) nx
      · simp only [Bool.and_eq_true, decide_eq_true_eq] at ok
        have hN := fx.2.2.2.2.2.1.2.2.1 _ (nAt_in ok.2)
        exact nx_run hL hX hc0 hs0 hmono (va_runSN (As := as.map (gv K)) (n := me_na ce) (host := RNG) hfix hM ⟨⟨⟨hbase.1, hbase.2.1, hbase.2.2.1, hbase.2.2.2, hpay, hmem⟩, hts _ q4, hts _ q5, q2, hsig, va_Nw.use rfl hN⟩, hts _ w1, trivial⟩ ⟨hblind, fun U hU hw => ⟨rfl, hpost U hU hw⟩⟩ rfl (by rw [List.length_map]; omega) (hL.1.trans hml) hst hW8 hd hroom) nx
    · cases hcal
  · next idx =>
    split at hcal
    · next h2 =>
      cases hcal
      simp only [okJ, Bool.and_eq_true, decide_eq_true_eq] at ok
      obtain ⟨-, ok⟩ := ok
      rw [if_neg (by omega)] at ok
      simp only [okC, hpg, Bool.and_eq_true, decide_eq_true_eq] at ok
      obtain ⟨okk, ok⟩ := ok
      obtain ⟨w1, w2, w3⟩ := q8 okk
      have hn : nar ce = me_na ce + 1 := by unfold nar; rw [okk]; rfl
      obtain ⟨k, as', rfl⟩ := rcv2 okk hrcv
      have hst : S.map (gv K) = (as'.map (gv K)).reverse ++ .ref (ad K k) :: S'.map (gv K) := by rw [hS]; simp [gv, va_rf]
      rw [w3] at hmem q4
      split at ok
      · exact nx_run hL hX hc0 hs0 hmono (va_runI (b := ad K k) (As := as'.map (gv K)) (n := me_na ce) hfix hM ⟨⟨hbase.1, hbase.2.1, hbase.2.2.1, hbase.2.2.2, hpay, hmem, hts _ q4, hts _ q5, q2, hsig, hts _ (wAt_in ok)⟩, w2, hts _ w1⟩ ⟨hblind, fun U hU hw => ⟨rfl, hpost U hU hw⟩⟩ rfl (by rw [List.length_map]; simp at hlen; omega) (hL.1.trans hml) hst hW8 hd hroom) nx
      · simp only [Bool.and_eq_true, decide_eq_true_eq] at ok
        have hN := fx.2.2.2.2.2.1.2.2.1 _ (nAt_in ok.2)
        exact nx_run hL hX hc0 hs0 hmono (va_runIN (b := ad K k) (As := as'.map (gv K)) (n := me_na ce) (host := RNG) hfix hM ⟨⟨⟨hbase.1, hbase.2.1, hbase.2.2.1, hbase.2.2.2, hpay, hmem⟩, hts _ q4, hts _ q5, q2, hsig, va_Nw.use rfl hN⟩, w2, hts _ w1⟩ ⟨hblind, fun U hU hw => ⟨rfl, hpost U hU hw⟩⟩ rfl (by rw [List.length_map]; simp at hlen; omega) (hL.1.trans hml) hst hW8 hd hroom) nx
    · cases hcal
  · cases hcal
end CALLS
def OKR (kd : KL) (rs : RS) : Prop := (∀ v, rs.1 = some v → okv v) ∧ (∀ k j, inb (rs.2.2.1 k j)) ∧ kd.length ≤ rs.2.1.length ∧ ksz kd ≤ ksz rs.2.1
def FIN (g : GX) (K : KX) (Q : State → Prop) (c0 s0 : Nat) (me : ME) (rs : RS) : Prop := ∀ (pc : Nat) (ins : Instr) (S : List AV) (ls : Array Slot) (H : Heap) (locs : List Loc), decode (me_cc me) pc = .ok (ins, 1) → isFin ins = true → fin (me_rt me) ins S = some rs.1 → WI K rs.2.1 rs.2.2.1 rs.2.2.2 H → XI K locs → gW g H locs (rs.2.1.length - c0) (ksz rs.2.1 - s0) Q (F0 g.2.2.2.2.2.1 pc ls (S.map (gv K)))
def CFok (pg : Nat → Option ME) (d : Nat) (cf : CF) : Prop := ∀ (i : Nat) (as : List AV) (kd : KL) (F : FM) (P : PM) (rs : RS), cf i as kd F P = some rs → (∀ v ∈ as, okv v) → (∀ k j, inb (F k j)) → OKR kd rs ∧ ∀ ce, pg i = some ce → ∀ (K : KX) (l : Launch), ∃ d', d' + 1 = d ∧ Mth K l ce as kd F P d' rs
theorem fin_ok {rt : Option FieldType} {ins : Instr} {S : List AV} {r : Option AV} (h : fin rt ins S = some r) (hS : ∀ v ∈ S, okv v) : ∀ v, r = some v → okv v := by
  intro v hv
  subst hv
  unfold fin at h
  split at h
  · split at h
    · split at h
      · cases h; exact hS _ List.mem_cons_self
      · cases h
    · cases h
  · split at h
    · split at h
      · cases h; exact trivial
      · cases h
    · cases h
  · split at h
    · split at h <;> cases h
    · cases h
  · cases h
theorem len3_of {pg : Nat → Option ME} {me : ME} {ins : Instr} {len i : Nat} {ri : RI} (ok : okJ pg me ins len ri = true) (hc : cal ri ins = some i) : len = 3 := by
  unfold cal at hc
  split at hc <;> first | (simp only [okJ, Bool.and_eq_true, decide_eq_true_eq] at ok; exact ok.1) | cases hc
theorem len1_of {pg : Nat → Option ME} {me : ME} {ins : Instr} {len : Nat} {ri : RI} (ok : okJ pg me ins len ri = true) (hc : isFin ins = true) : len = 1 := by
  unfold isFin at hc
  split at hc <;> first | (simp only [okJ, decide_eq_true_eq] at ok; exact ok) | cases hc
theorem okJ_cal {pg : Nat → Option ME} {me : ME} {ins : Instr} {len i : Nat} {ri : RI} (ok : okJ pg me ins len ri = true) (hc : cal ri ins = some i) : i = ri.1 := by
  unfold cal at hc
  split at hc
  · cases hc; rfl
  · split at hc <;> cases hc; rfl
  · split at hc <;> cases hc; rfl
  · cases hc
set_option maxHeartbeats 2000000 in
theorem go_sound {pg : Nat → Option ME} {d : Nat} {cf : CF} {me : ME} (gw : GWs) (okall : ∀ i ce, pg i = some ce → OKM pg ce) (okme : ∀ e ∈ me_ci me, okI pg me e = true) (hcf : CFok pg d cf) : ∀ (f pc : Nat) (L : LV) (S : List AV) (kd : KL) (F : FM) (P : PM) (rs : RS), go pg d cf me f pc L S kd F P = some rs → AK me L S F →
    OKR kd rs ∧ ∀ (g : GX) (K : KX) (Q : State → Prop) (c0 s0 : Nat), Fx g K d me → c0 ≤ kd.length → s0 ≤ ksz kd → (rs.2.1.length - c0 ≤ g.2.2.2.1.cells ∧ ksz rs.2.1 - s0 ≤ g.2.2.2.1.slots) → FIN g K Q c0 s0 me rs → NX g K Q c0 s0 pc L S kd F P := by
  intro f
  induction f with
  | zero => intro pc L S kd F P rs h; cases h
  | succ f ih =>
    intro pc L S kd F P rs h ak
    unfold go at h
    split at h
    · cases h
    · next e he =>
      obtain ⟨hmem, hpc⟩ := ftc_spec he
      have hok := okme e hmem
      simp only [okI, Bool.and_eq_true, decide_eq_true_eq] at hok
      obtain ⟨hd, ok⟩ := hok
      rw [hpc] at hd h
      split at h
      · next hf =>
        split at h
        · next r hr =>
          cases h
          refine ⟨⟨fin_ok hr ak.2.1, ak.2.2.2, Nat.le_refl _, Nat.le_refl _⟩, fun g K Q c0 s0 fx _ _ _ hfin => ?_⟩
          rw [len1_of ok hf] at hd
          exact fun ls H locs _ hW hX => hfin pc _ S ls H locs hd hf hr hW hX
        · cases h
      · split at h
        · next i hi =>
          have hl3 := len3_of ok hi
          rw [hl3] at hd ok
          split at h
          · cases h
          · next ce hce =>
            split at h
            · cases h
            · next as S' hspl =>
              split at h
              · next hb =>
                split at h
                · cases h
                · next r kd1 F1 P1 hcall =>
                  obtain ⟨hS, hlen⟩ := spl_spec hspl
                  have has : ∀ v ∈ as, okv v := fun v hv => ak.2.1 v (by rw [hS]; exact List.mem_append_left _ (List.mem_reverse.mpr hv))
                  have hS' : ∀ v ∈ S', okv v := fun v hv => ak.2.1 v (by rw [hS]; exact List.mem_append_right _ hv)
                  obtain ⟨⟨o1, o2, o3, o4⟩, hM⟩ := hcf i as kd F P _ hcall has ak.2.2.2
                  have ak1 : AK me L (psh r S') F1 := by
                    refine ⟨ak.1, ?_, ak.2.2.1, o2⟩
                    unfold psh
                    split
                    · next v => exact List.forall_mem_cons.mpr ⟨o1 v rfl, hS'⟩
                    · exact hS'
                  obtain ⟨⟨p1, p2, p3, p4⟩, hgo⟩ := ih _ _ _ _ _ _ _ h ak1
                  dsimp only at o3 o4
                  refine ⟨⟨p1, p2, by omega, by omega⟩, fun g K Q c0 s0 fx h1 h2 hr hfin => ?_⟩
                  obtain ⟨d', hdd, hM'⟩ := hM ce hce K g.2.1
                  exact nx_call fx (okall i ce hce) hd ok hi hce hspl hb.1 hb.2 hM' hdd ak.1 h1 h2 ⟨o3, o4⟩ (by dsimp only; omega) (hgo g K Q c0 s0 fx (by omega) (by omega) hr hfin)
              · cases h
        · split at h
          · cases h
          · next pc' L' S' kd' F' P' hst =>
            obtain ⟨p1, p2, p3, p4⟩ := (ih _ _ _ _ _ _ _ h (stp_sound (c0 := 0) (s0 := 0) gw hd ok hst ak).1.1).1
            obtain ⟨hak, hm1, hm2⟩ := (stp_sound (c0 := 0) (s0 := 0) gw hd ok hst ak).1
            refine ⟨⟨p1, p2, by omega, by omega⟩, fun g K Q c0 s0 fx h1 h2 hr hfin => ?_⟩
            exact (stp_sound gw hd ok hst ak).2 g K Q fx h1 h2 (by omega) ((ih _ _ _ _ _ _ _ h hak).2 g K Q c0 s0 fx (by omega) (by omega) hr hfin)
theorem lv_args_in {K : KX} : ∀ (as : List AV) (j i : Nat) (v : AV), as[i]? = some v → (j + i, gv K v) ∈ lv_args j (as.map (gv K))
  | [], j, i, v, h => by simp at h
  | a :: as, j, 0, v, h => by
    cases h
    exact List.mem_cons_self
  | a :: as, j, i + 1, v, h => by
    rw [List.getElem?_cons_succ] at h
    have e := lv_args_in (K := K) as (j + 1) i v h
    show _ ∈ (_ :: lv_args (if (gv K a).category = 2 then j + 2 else j + 1) (as.map (gv K)))
    rw [gv_cat, if_neg (by decide), show j + (i + 1) = j + 1 + i by omega]
    exact List.mem_cons_of_mem _ e
theorem lg_len {K : KX} : ∀ (as : List AV), (lg_sl (as.map (gv K))).length = as.length
  | [] => rfl
  | a :: as => by
    have e := lg_len (K := K) as
    unfold lg_sl at e ⊢
    rw [List.map_cons, List.flatMap_cons, gv_cat, if_neg (by decide), List.length_append, e]
    simp; omega
def L0 (as : List AV) (n : Nat) : LV := as.map some ++ List.replicate (n - as.length) none
theorem L0_get {as : List AV} {n i : Nat} {v : AV} (h : (L0 as n)[i]? = some (some v)) : as[i]? = some v := by
  unfold L0 at h
  by_cases hi : i < as.length
  · rw [List.getElem?_append_left (by simp; exact hi), List.getElem?_map] at h
    cases hq : as[i]? with
    | none => rw [hq] at h; cases h
    | some w => rw [hq] at h; cases h; rfl
  · rw [List.getElem?_append_right (by simp; omega), List.getElem?_replicate] at h
    split at h <;> cases h
theorem LI_entry {K : KX} {as : List AV} {n : Nat} (h : as.length ≤ n) : LI K (L0 as n) ((lg_sl (as.map (gv K)) ++ List.replicate (n - (lg_sl (as.map (gv K))).length) Slot.unset).toArray) := by
  have e := lv_entry (as.map (gv K)) (n := n) (by rw [lg_len]; exact h)
  refine ⟨by rw [e.1]; unfold L0; simp; omega, e.2.1, fun i v hi => ?_⟩
  have h1 := lv_args_in (K := K) as 0 i v (L0_get hi)
  rw [Nat.zero_add] at h1
  exact e.2.2 _ h1
theorem Mth_of {pg : Nat → Option ME} {d : Nat} {cf : CF} {me : ME} {K : KX} {l : Launch} {f : Nat} {as : List AV} {kd : KL} {F : FM} {P : PM} {rs : RS} (gw : GWs) (okall : ∀ i ce, pg i = some ce → OKM pg ce) (okm : OKM pg me) (hcf : CFok pg d cf) (hlen : as.length ≤ me_ml me) (has : ∀ v ∈ as, okv v) (hF : ∀ k j, inb (F k j)) (h : go pg d cf me f 0 (L0 as (me_ml me)) [] kd F P = some rs) : OKR kd rs ∧ Mth K l me as kd F P d rs := by
  have ak : AK me (L0 as (me_ml me)) [] F := ⟨by unfold L0; simp; omega, fun v hv => absurd hv List.not_mem_nil, fun i v hi => has v (List.mem_of_getElem? (L0_get hi)), hF⟩
  obtain ⟨h1, h2⟩ := go_sound gw okall okm.2.2.2.2.2.2.2.2.2 hcf f 0 _ _ _ _ _ _ h ak
  refine ⟨h1, ?_⟩
  refine Met.ofW (cc := me_cc me) (maxL := me_ml me) (ret := me_rt me) okm.1 rfl ?_
  intro p e s m args below meth c s₁ B hml hv
  obtain ⟨rfl, hT, hW⟩ := hv
  have hts := atoms_spec (ws := wsm me) B.pre
  have fx : Fx (p, l, e, ({ frames := d, cells := rs.2.1.length - kd.length, slots := ksz rs.2.1 - ksz kd, locals := 39 * d } : Room), s, m, (as.map (gv K)).toArray, below, meth, c) K d me :=
    ⟨B.exec, B.bytes, hml, findClass_of_methodNamed B.named, fun w hw => hts w (List.mem_cons_of_mem _ hw), hT, fun hn => (name_of_methodNamed B.named B.method).1.trans hn, Nat.le_refl _, Nat.le_refl _⟩
  have hr := B.returns
  have hlocks := B.notSynchronized
  have key := h2 _ K (MQ below (fun _ _ oc t => oc = .returned (rs.1.map (gv K)) ∧ WI K rs.2.1 rs.2.2.1 rs.2.2.2 t.heap) (as.map (gv K)).toArray s (rs.2.1.length - kd.length) (ksz rs.2.1 - ksz kd) (zA K)) kd.length (ksz kd) fx (Nat.le_refl _) (Nat.le_refl _) ⟨Nat.le_refl _, Nat.le_refl _⟩ ?_ _ _ [] (LI_entry hlen) hW (fun q hq => absurd hq List.not_mem_nil)
  · rw [Nat.sub_self, Nat.sub_self] at key
    rw [lg_entry_eq]
    exact key
  · intro pc ins S ls H locs hd hf hfin hW1 hX
    unfold fin at hfin
    split at hfin
    · split at hfin
      · next v =>
        split at hfin
        · next hb =>
          have hfin := Option.some.inj hfin
          rcases hb with hb | ⟨hb, hv⟩
          · rw [hb] at hr
            exact W.iret fx.1 fx.2.1 hr (fun t ht _ => ⟨by rw [← hfin]; rfl, by rw [ht]; exact hW1⟩) hX hd hlocks
          · rw [hb] at hr
            refine W.zret (ty := .boolean) fx.1 fx.2.1 hr ?_ (fun t ht _ => ⟨by rw [← hfin]; rfl, by rw [ht]; exact hW1⟩) hX hd hlocks
            rcases hv with hv | hv <;> rw [hv] <;> decide
        · cases hfin
      · cases hfin
    · split at hfin
      · next v =>
        split at hfin
        · next n hb =>
          have hfin := Option.some.inj hfin
          rw [hb] at hr
          refine W.aret fx.1 fx.2.1 hr (Or.inl ⟨_, rfl⟩) ?_ (fun t ht _ => ⟨by rw [← hfin]; rfl, by rw [ht]; exact hW1⟩) hX hd hlocks
          cases v
          · exact Or.inl rfl
          · exact Or.inr ⟨_, rfl⟩
        · cases hfin
      · cases hfin
    · split at hfin
      · split at hfin
        · next hb =>
          have hfin := Option.some.inj hfin
          rw [hb] at hr
          exact W.vret fx.1 fx.2.1 hr (fun t ht _ => ⟨by rw [← hfin]; rfl, by rw [ht]; exact hW1⟩) hX hd hlocks
        · cases hfin
      · cases hfin
    · cases hfin
theorem lvl_sound {pg : Nat → Option ME} (gw : GWs) (okall : ∀ i ce, pg i = some ce → OKM pg ce) (f : Nat) : ∀ d, CFok pg d (lvl pg d f)
  | 0 => fun i as kd F P rs h => by cases h
  | d + 1 => fun i as kd F P rs h has hF => by
    have ih := lvl_sound gw okall f d
    unfold lvl at h
    split at h
    · cases h
    · next me hme =>
      split at h
      · next hb =>
        have h0 := fun (K : KX) (l : Launch) => Mth_of (K := K) (l := l) gw okall (okall i me hme) ih hb.2 has hF h
        refine ⟨?_, fun ce hce K l => ⟨d, rfl, ?_⟩⟩
        · exact (go_sound gw okall (okall i me hme).2.2.2.2.2.2.2.2.2 ih f 0 _ _ _ _ _ _ h ⟨by simp; omega, fun v hv => absurd hv List.not_mem_nil, fun i v hi => has v (List.mem_of_getElem? (L0_get hi)), hF⟩).1
        · cases hme.symm.trans hce
          exact (h0 K l).2
      · cases h
end
