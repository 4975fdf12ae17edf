theorem bids_eq {s : Int → Int} (hw : WF s) : sg (fun p => if s (126 + 6 * p + 2) < 0 then 0 else 1) (s 0).toNat = bidsS s := by
  have h0 := hw.1
  exact sg_congr (fun i a b => by
    have h := (hw.2.2.2.1 i a (by omega)).2.2.1
    show (if s (126 + 6 * i + 2) < 0 then (0 : Int) else 1) = if s (126 + 6 * i + 2) = -1 then 0 else 1
    by_cases z : s (126 + 6 * i + 2) < 0
    · rw [if_pos z, if_pos (by omega)]
    · rw [if_neg z, if_neg (by omega)])
theorem beg_coins {s : Int → Int} {n c : Int} (hn : 2 ≤ n ∧ n ≤ 4) : coinsS (beginS s n c) = n * c := by
  unfold coinsS
  rw [beg_0, beg_z (by omega) (by omega) (by omega) (by omega)]
  have h : ∀ k : Nat, (k : Int) ≤ n → sg (fun p => beginS s n c (126 + 6 * p)) k = (k : Int) * c := by
    intro k
    induction k with
    | zero => intro _; simp [sg]
    | succ k ih =>
      intro hk
      show sg (fun p => beginS s n c (126 + 6 * p)) k + beginS s n c (126 + 6 * (k : Int)) = ((k + 1 : Nat) : Int) * c
      rw [ih (by omega), beg_c ⟨by omega, by omega⟩, if_pos (by omega), Int.natCast_succ, Int.add_mul, Int.one_mul]
  rw [h n.toNat (by omega), show ((n.toNat : Nat) : Int) = n by omega, Int.zero_add]
theorem setr_me {F : FM} {k : Nat} {s : Int → Int} (h : F k = s) : F = setr F k s := by rw [← h]; exact (setr_id F k).symm
theorem sp_mlot {d : Nat} {kd : KL} {F : FM} {P : PM} {s : Int → Int} {Pc : FM → Prop} {v : Int} (hd : 3 ≤ d) (hM : shM kd P) (hw : WF s) (hch : Sp (d - 1) 90 [.inr (some 128)] kd (setr F 129 s) P (QN kd P Pc)) (hPc : ∀ F1, Pc F1 → F1 129 = s)  : Sp d 95 [.inr (some 128), .inl v] kd (setr F 129 s) P (QV kd P (fun r F' => r = aLot s v ∧ (if aLot s v ≤ -1000001 then F' = setr F 129 s else ∃ F1, Pc F1 ∧ F' = setr F1 129 (tLot s v)))) := by
  refine Sp_of (me := mX8_lot) (by omega) pX8_lot ⟨rfl, Nat.le_of_ble_eq_true rfl⟩ ?_
  obtain ⟨w0, w1, w2, w3, w4, w5, w6, w7, w8, w9, w10, w11, w12, w13⟩ := id hw
  refine R_iload_n fX8_lot_0 rfl ?_
  refine R_bipush fX8_lot_1 ?_
  refine R_bipush fX8_lot_3 ?_
  refine R_callE fX8_lot_5 rfl rfl pX8_in rfl ⟨Nat.le_of_ble_eq_true rfl, rfl⟩ (sp_min (by omega)) ?_
  refine R_if_ne fX8_lot_8 rfl (fun h8 => ?_) (fun h8 => ?_)
  · have hv : -9 ≤ v ∧ v ≤ 20 := by
      by_cases z : -9 ≤ v ∧ v ≤ 20
      · exact z
      · rw [if_neg z] at h8; omega
    refine R_aload_n fX8_lot_14 rfl ?_
    refine R_getP 0 fX8_lot_15 hM.1 (by omega) rfl rfl rfl hM.2.2.2.2.2.2.2.2.1 ?_
    refine R_iconst fX8_lot_18 ?_
    refine R_iaload fX8_lot_19 hM.2.1 (by omega) ?_
    rw [setr_eq]
    refine R_aload_n fX8_lot_20 rfl ?_
    refine R_getP 0 fX8_lot_21 hM.1 (by omega) rfl rfl rfl hM.2.2.2.2.2.2.2.2.1 ?_
    refine R_bipush fX8_lot_24 ?_
    refine R_iaload fX8_lot_26 hM.2.1 (by omega) ?_
    rw [setr_eq]
    refine R_iadd fX8_lot_27 (by omega) ?_
    refine R_bipush fX8_lot_28 ?_
    refine R_icmp_ne fX8_lot_30 rfl (fun h30 => ?_) (fun h30 => ?_)
    · refine R_aload_n fX8_lot_36 rfl ?_
      refine R_callN fX8_lot_37 rfl rfl pX8_changes rfl ⟨Nat.le_of_ble_eq_true rfl, rcv_v rfl (by omega) hM.1⟩ (hch) (fun F1 q => ?_)
      have e1 := setr_me (hPc F1 q)
      rw [e1]
      refine R_aload_n fX8_lot_40 rfl ?_
      refine R_getP 0 fX8_lot_41 hM.1 (by omega) rfl rfl rfl hM.2.2.2.2.2.2.2.2.1 ?_
      refine R_iconst fX8_lot_44 ?_
      refine R_aload_n fX8_lot_45 rfl ?_
      refine R_getP 0 fX8_lot_46 hM.1 (by omega) rfl rfl rfl hM.2.2.2.2.2.2.2.2.1 ?_
      refine R_iconst fX8_lot_49 ?_
      refine R_iaload fX8_lot_50 hM.2.1 (by omega) ?_
      rw [setr_eq]
      refine R_iadd fX8_lot_51 (by omega) ?_
      refine R_iload_n fX8_lot_52 rfl ?_
      refine R_iastore fX8_lot_53 hM.2.1 (by omega) (by omega) ?_
      rw [stt_setr]
      refine R_aload_n fX8_lot_54 rfl ?_
      refine R_getP 0 fX8_lot_55 hM.1 (by omega) rfl rfl rfl hM.2.2.2.2.2.2.2.2.1 ?_
      refine R_iconst fX8_lot_58 ?_
      refine R_dup2 fX8_lot_59 ?_
      refine R_iaload fX8_lot_60 hM.2.1 (by omega) ?_
      rw [setr_eq]
      rw [up_ne _ _ (by omega)]
      refine R_iconst fX8_lot_61 ?_
      refine R_iadd fX8_lot_62 (by omega) ?_
      refine R_iastore fX8_lot_63 hM.2.1 (by omega) (by omega) ?_
      rw [stt_setr]
      refine R_aload_n fX8_lot_64 rfl ?_
      refine R_getP 0 fX8_lot_65 hM.1 (by omega) rfl rfl rfl hM.2.2.2.2.2.2.2.2.1 ?_
      refine R_iconst fX8_lot_68 ?_
      refine R_iaload fX8_lot_69 hM.2.1 (by omega) ?_
      rw [setr_eq]
      rw [up_eq]
      refine R_ireturn fX8_lot_70 rfl ?_
      have ha : aLot s v = s 4 + 1 := by unfold aLot; rw [if_neg (by omega), if_neg (by omega)]
      have ht : tLot s v = lotS s v := by unfold tLot; rw [if_neg (by omega), if_neg (by omega)]
      exact ⟨_, _, rfl, ha.symm, by rw [if_neg (by omega), ht]; exact ⟨F1, q, rfl⟩⟩
    · refine R_ldc fX8_lot_33 ?_
      refine R_ireturn fX8_lot_35 rfl ?_
      have ha : aLot s v = -1000003 := by unfold aLot; rw [if_neg (by omega), if_pos (by omega)]
      exact ⟨_, _, rfl, ha.symm, by rw [if_pos (by omega)]⟩
  · refine R_ldc fX8_lot_11 ?_
    refine R_ireturn fX8_lot_13 rfl ?_
    have hv : ¬ (-9 ≤ v ∧ v ≤ 20) := fun z => by rw [if_pos z] at h8; omega
    have ha : aLot s v = -1000001 := by unfold aLot; rw [if_pos (by omega)]
    exact ⟨_, _, rfl, ha.symm, by rw [if_pos (by omega)]⟩
theorem sp_mbid {d : Nat} {kd : KL} {F : FM} {P : PM} {s : Int → Int} {Pc : FM → Prop} {p c : Int} (hd : 3 ≤ d) (hM : shM kd P) (hw : WF s) (hch : Sp (d - 1) 90 [.inr (some 128)] kd (setr F 129 s) P (QN kd P Pc)) (hPc : ∀ F1, Pc F1 → F1 129 = s)  : Sp d 97 [.inr (some 128), .inl p, .inl c] kd (setr F 129 s) P (QV kd P (fun r F' => r = aBid s p c ∧ (if aBid s p c ≤ -1000001 then F' = setr F 129 s else ∃ F1, Pc F1 ∧ F' = setr F1 129 (tBid s p c)))) := by
  refine Sp_of (me := mX8_bid) (by omega) pX8_bid ⟨rfl, Nat.le_of_ble_eq_true rfl⟩ ?_
  obtain ⟨w0, w1, w2, w3, w4, w5, w6, w7, w8, w9, w10, w11, w12, w13⟩ := id hw
  refine R_aload_n fX8_bid_0 rfl ?_
  refine R_iload_n fX8_bid_1 rfl ?_
  refine R_callE fX8_bid_2 rfl rfl pX8_isPlayer rfl ⟨Nat.le_of_ble_eq_true rfl, rcv_v rfl (by omega) hM.1⟩ (sp_misPlayer (by omega) hM) ?_
  refine R_if_eq fX8_bid_5 rfl (fun h5 => ?_) (fun h5 => ?_)
  · refine R_ldc fX8_bid_12 ?_
    refine R_ireturn fX8_bid_14 rfl ?_
    have hv : ¬ (0 ≤ p ∧ p < s 0) ∨ c < 0 := by
      first
      | exact Or.inr (by omega)
      | exact Or.inl (fun z => by rw [if_pos z] at h5; omega)
    have ha : aBid s p c = -1000001 := by unfold aBid; rw [if_pos hv]
    exact ⟨_, _, rfl, ha.symm, by rw [if_pos (by omega)]⟩
  · have hp : 0 ≤ p ∧ p < s 0 := by
      by_cases z : 0 ≤ p ∧ p < s 0
      · exact z
      · rw [if_neg z] at h5; omega
    refine R_iload_n fX8_bid_8 rfl ?_
    refine R_if_ge fX8_bid_9 rfl (fun h9 => ?_) (fun h9 => ?_)
    · refine R_aload_n fX8_bid_15 rfl ?_
      refine R_getP 0 fX8_bid_16 hM.1 (by omega) rfl rfl rfl hM.2.2.2.2.2.2.2.2.1 ?_
      refine R_iconst fX8_bid_19 ?_
      refine R_iaload fX8_bid_20 hM.2.1 (by omega) ?_
      rw [setr_eq]
      refine R_if_eq fX8_bid_21 rfl (fun h21 => ?_) (fun h21 => ?_)
      · refine R_ldc fX8_bid_34 ?_
        refine R_ireturn fX8_bid_36 rfl ?_
        have ha : aBid s p c = -1000002 := by unfold aBid; rw [if_neg (by omega), if_pos (by omega)]
        exact ⟨_, _, rfl, ha.symm, by rw [if_pos (by omega)]⟩
      · refine R_iload_n fX8_bid_24 rfl ?_
        refine R_aload_n fX8_bid_25 rfl ?_
        refine R_iload_n fX8_bid_26 rfl ?_
        refine R_iconst fX8_bid_27 ?_
        refine R_callE fX8_bid_28 rfl rfl pX8_of rfl ⟨Nat.le_of_ble_eq_true rfl, rcv_v rfl (by omega) hM.1⟩ (sp_mof (by omega) hM (by omega) (by omega)) ?_
        rw [Int.add_zero]
        refine R_icmp_le fX8_bid_31 rfl (fun h31 => ?_) (fun h31 => ?_)
        · have hcp := w3 p (by omega) (by omega)
          refine R_aload_n fX8_bid_37 rfl ?_
          refine R_callN fX8_bid_38 rfl rfl pX8_changes rfl ⟨Nat.le_of_ble_eq_true rfl, rcv_v rfl (by omega) hM.1⟩ (hch) (fun F1 q => ?_)
          have e1 := setr_me (hPc F1 q)
          rw [e1]
          refine R_aload_n fX8_bid_41 rfl ?_
          refine R_getP 0 fX8_bid_42 hM.1 (by omega) rfl rfl rfl hM.2.2.2.2.2.2.2.2.1 ?_
          refine R_bipush fX8_bid_45 ?_
          refine R_bipush fX8_bid_47 ?_
          refine R_iload_n fX8_bid_49 rfl ?_
          refine R_imul fX8_bid_50 (by omega) ?_
          refine R_iadd fX8_bid_51 (by omega) ?_
          refine R_iconst fX8_bid_52 ?_
          refine R_iadd fX8_bid_53 (by omega) ?_
          refine R_iload_n fX8_bid_54 rfl ?_
          refine R_iastore fX8_bid_55 hM.2.1 (by omega) (by omega) ?_
          rw [stt_setr]
          refine R_aload_n fX8_bid_56 rfl ?_
          refine R_callE fX8_bid_57 rfl rfl pX8_bids rfl ⟨Nat.le_of_ble_eq_true rfl, rcv_v rfl (by omega) hM.1⟩ (sp_mbids (by omega) hM (by rw [up_ne _ _ (by omega)]; omega)) ?_
          rw [show up s (126 + 6 * p + 2) c = bidS s p c from rfl, bids_eq (WF_bid hw hp (by omega))]
          refine R_ireturn fX8_bid_60 rfl ?_
          have ha : aBid s p c = bidsS (bidS s p c) := by unfold aBid; rw [if_neg (by omega), if_neg (by omega)]
          have ht : tBid s p c = bidS s p c := by unfold tBid; rw [if_neg (by omega), if_neg (by omega)]
          have hnn := bids_nn (s := bidS s p c)
          exact ⟨_, _, rfl, ha.symm, by rw [if_neg (by omega), ht]; exact ⟨F1, q, rfl⟩⟩
        · refine R_ldc fX8_bid_34 ?_
          refine R_ireturn fX8_bid_36 rfl ?_
          have ha : aBid s p c = -1000002 := by unfold aBid; rw [if_neg (by omega), if_pos (by omega)]
          exact ⟨_, _, rfl, ha.symm, by rw [if_pos (by omega)]⟩
    · refine R_ldc fX8_bid_12 ?_
      refine R_ireturn fX8_bid_14 rfl ?_
      have hv : ¬ (0 ≤ p ∧ p < s 0) ∨ c < 0 := by
        first
        | exact Or.inr (by omega)
        | exact Or.inl (fun z => by rw [if_pos z] at h5; omega)
      have ha : aBid s p c = -1000001 := by unfold aBid; rw [if_pos hv]
      exact ⟨_, _, rfl, ha.symm, by rw [if_pos (by omega)]⟩
theorem sp_mresolve {d : Nat} {kd : KL} {F : FM} {P : PM} {s : Int → Int} {Pc : FM → Prop}  (hd : 4 ≤ d) (hM : shM kd P) (hw : WF s) (hch : Sp (d - 1) 90 [.inr (some 128)] kd (setr F 129 s) P (QN kd P Pc)) (hPc : ∀ F1, Pc F1 → F1 129 = s)  : Sp d 107 [.inr (some 128)] kd (setr F 129 s) P (QV kd P (fun r F' => r = aRes s ∧ (if aRes s ≤ -1000001 then F' = setr F 129 s else ∃ F1, Pc F1 ∧ F' = setr F1 129 (tRes s)))) := by
  refine Sp_of (me := mX8_resolve) (by omega) pX8_resolve ⟨rfl, Nat.le_of_ble_eq_true rfl⟩ ?_
  obtain ⟨w0, w1, w2, w3, w4, w5, w6, w7, w8, w9, w10, w11, w12, w13⟩ := id hw
  refine R_aload_n fX8_resolve_0 rfl ?_
  refine R_getP 0 fX8_resolve_1 hM.1 (by omega) rfl rfl rfl hM.2.2.2.2.2.2.2.2.1 ?_
  refine R_iconst fX8_resolve_4 ?_
  refine R_iaload fX8_resolve_5 hM.2.1 (by omega) ?_
  rw [setr_eq]
  refine R_if_eq fX8_resolve_6 rfl (fun h6 => ?_) (fun h6 => ?_)
  · refine R_ldc fX8_resolve_22 ?_
    refine R_ireturn fX8_resolve_24 rfl ?_
    have ha : aRes s = -1000002 := by unfold aRes; rw [if_pos (by omega)]
    exact ⟨_, _, rfl, ha.symm, by rw [if_pos (by omega)]⟩
  · refine R_aload_n fX8_resolve_9 rfl ?_
    refine R_callE fX8_resolve_10 rfl rfl pX8_bids rfl ⟨Nat.le_of_ble_eq_true rfl, rcv_v rfl (by omega) hM.1⟩ (sp_mbids (by omega) hM (by omega)) ?_
    rw [bids_eq hw]
    refine R_aload_n fX8_resolve_13 rfl ?_
    refine R_getP 0 fX8_resolve_14 hM.1 (by omega) rfl rfl rfl hM.2.2.2.2.2.2.2.2.1 ?_
    refine R_iconst fX8_resolve_17 ?_
    refine R_iaload fX8_resolve_18 hM.2.1 (by omega) ?_
    rw [setr_eq]
    refine R_icmp_ge fX8_resolve_19 rfl (fun h19 => ?_) (fun h19 => ?_)
    · refine R_aload_n fX8_resolve_25 rfl ?_
      refine R_callN fX8_resolve_26 rfl rfl pX8_changes rfl ⟨Nat.le_of_ble_eq_true rfl, rcv_v rfl (by omega) hM.1⟩ (hch) (fun F1 q => ?_)
      have e1 := setr_me (hPc F1 q)
      rw [e1]
      refine R_aload_n fX8_resolve_29 rfl ?_
      refine R_callV fX8_resolve_30 rfl rfl pX8_resolves rfl ⟨Nat.le_of_ble_eq_true rfl, rcv_v rfl (by omega) hM.1⟩ (sp_mresolves (by omega) hM hw (BD_of hw (by omega)) (by omega)) (fun r F2 z => ?_)
      obtain ⟨z0, z1⟩ := z
      subst z0
      subst z1
      refine R_ireturn fX8_resolve_33 rfl ?_
      have ha : aRes s = wnS s := by unfold aRes; rw [if_neg (by omega)]
      have ht : tRes s = resS s := by unfold tRes; rw [if_neg (by omega)]
      have hwn := wnS_in hw
      exact ⟨_, _, rfl, ha.symm, by rw [if_neg (by omega), ht]; exact ⟨F1, q, rfl⟩⟩
    · refine R_ldc fX8_resolve_22 ?_
      refine R_ireturn fX8_resolve_24 rfl ?_
      have ha : aRes s = -1000002 := by unfold aRes; rw [if_pos (by omega)]
      exact ⟨_, _, rfl, ha.symm, by rw [if_pos (by omega)]⟩
theorem sp_mbegin {d : Nat} {kd : KL} {F : FM} {P : PM} {s : Int → Int} {Pc : FM → Prop} {n c : Int} (hd : 3 ≤ d) (hM : shM kd P) (hw : WF s) (hch : Sp (d - 1) 90 [.inr (some 128)] kd (setr F 129 s) P (QN kd P Pc)) (hPc : ∀ F1, Pc F1 → F1 129 = s)  : Sp d 94 [.inr (some 128), .inl n, .inl c] kd (setr F 129 s) P (QV kd P (fun r F' => r = aBeg s n c ∧ (if aBeg s n c ≤ -1000001 then F' = setr F 129 s else ∃ F1, Pc F1 ∧ F' = setr F1 129 (tBeg s n c)))) := by
  refine Sp_of (me := mX8_begin) (by omega) pX8_begin ⟨rfl, Nat.le_of_ble_eq_true rfl⟩ ?_
  obtain ⟨w0, w1, w2, w3, w4, w5, w6, w7, w8, w9, w10, w11, w12, w13⟩ := id hw
  refine R_iload_n fX8_begin_0 rfl ?_
  refine R_iconst fX8_begin_1 ?_
  refine R_iconst fX8_begin_2 ?_
  refine R_callE fX8_begin_3 rfl rfl pX8_in rfl ⟨Nat.le_of_ble_eq_true rfl, rfl⟩ (sp_min (by omega)) ?_
  refine R_if_eq fX8_begin_6 rfl (fun h6 => ?_) (fun h6 => ?_)
  · refine R_ldc fX8_begin_19 ?_
    refine R_ireturn fX8_begin_21 rfl ?_
    have ha : aBeg s n c = -1000001 := by
      unfold aBeg
      by_cases z1 : n < 2 ∨ 4 < n
      · rw [if_pos z1]
      · rw [if_neg z1]
        by_cases z2 : c < 0 ∨ 30 < c
        · rw [if_pos z2]
        · rw [if_pos (by omega)] at h6 
          first
          | (exfalso; omega)
          | (rw [if_pos (by omega)] at h16; exfalso; omega)
    exact ⟨_, _, rfl, ha.symm, by rw [if_pos (by omega)]⟩
  · refine R_iload_n fX8_begin_9 rfl ?_
    refine R_iconst fX8_begin_10 ?_
    refine R_bipush fX8_begin_11 ?_
    refine R_callE fX8_begin_13 rfl rfl pX8_in rfl ⟨Nat.le_of_ble_eq_true rfl, rfl⟩ (sp_min (by omega)) ?_
    refine R_if_ne fX8_begin_16 rfl (fun h16 => ?_) (fun h16 => ?_)
    · have hn : 2 ≤ n ∧ n ≤ 4 := by
        by_cases z : 2 ≤ n ∧ n ≤ 4
        · exact z
        · rw [if_neg z] at h6; omega
      have hc : 0 ≤ c ∧ c ≤ 30 := by
        by_cases z : 0 ≤ c ∧ c ≤ 30
        · exact z
        · rw [if_neg z] at h16; omega
      refine R_aload_n fX8_begin_22 rfl ?_
      refine R_callN fX8_begin_23 rfl rfl pX8_changes rfl ⟨Nat.le_of_ble_eq_true rfl, rcv_v rfl (by omega) hM.1⟩ (hch) (fun F1 q => ?_)
      have e1 := setr_me (hPc F1 q)
      rw [e1]
      refine R_aload_n fX8_begin_26 rfl ?_
      refine R_iload_n fX8_begin_27 rfl ?_
      refine R_iload_n fX8_begin_28 rfl ?_
      refine R_callN fX8_begin_29 rfl rfl pX8_begins rfl ⟨Nat.le_of_ble_eq_true rfl, rcv_v rfl (by omega) hM.1⟩ (sp_mbegins (by omega) hM) (fun F2 z => ?_)
      subst z
      refine R_iload_n fX8_begin_32 rfl ?_
      refine R_iload_n fX8_begin_33 rfl ?_
      refine R_imulV fX8_begin_34 (wr_id (by unfold inb; rcases (by omega : n = 2 ∨ n = 3 ∨ n = 4) with rfl | rfl | rfl <;> omega)) ?_
      refine R_ireturn fX8_begin_35 rfl ?_
      have ha : aBeg s n c = n * c := by unfold aBeg; rw [if_neg (by omega), if_neg (by omega)]; exact beg_coins hn
      have ht : tBeg s n c = beginS s n c := by unfold tBeg; rw [if_neg (by omega), if_neg (by omega)]
      have hge : -100 ≤ n * c := by rcases (by omega : n = 2 ∨ n = 3 ∨ n = 4) with rfl | rfl | rfl <;> omega
      exact ⟨_, _, rfl, ha.symm, by rw [if_neg (by omega), ht]; exact ⟨F1, q, rfl⟩⟩
    · refine R_ldc fX8_begin_19 ?_
      refine R_ireturn fX8_begin_21 rfl ?_
      have ha : aBeg s n c = -1000001 := by
        unfold aBeg
        by_cases z1 : n < 2 ∨ 4 < n
        · rw [if_pos z1]
        · rw [if_neg z1]
          by_cases z2 : c < 0 ∨ 30 < c
          · rw [if_pos z2]
          · rw [if_pos (by omega)] at h6 
            first
            | (exfalso; omega)
            | (rw [if_pos (by omega)] at h16; exfalso; omega)
      exact ⟨_, _, rfl, ha.symm, by rw [if_pos (by omega)]⟩
