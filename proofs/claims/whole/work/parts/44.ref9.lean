theorem sp_mplayerOf {d : Nat} {kd : KL} {F : FM} {P : PM} {s : Int → Int} {p w : Int} (hd : 2 ≤ d) (hM : shM kd P) (hw : WF s) : Sp d 109 [.inr (some 128), .inl p, .inl w] kd (setr F 129 s) P (QE kd (setr F 129 s) P (rPlayerOf s p w)) := by
  refine Sp_of (me := mX8_playerOf) (by omega) pX8_playerOf ⟨rfl, Nat.le_of_ble_eq_true rfl⟩ ?_
  obtain ⟨w0, w1, w2, w3, w4, w5, w6, w7, w8, w9, w10, w11, w12, w13⟩ := id hw
  refine R_aload_n fX8_playerOf_0 rfl ?_
  refine R_iload_n fX8_playerOf_1 rfl ?_
  refine R_callE fX8_playerOf_2 rfl rfl pX8_isPlayer rfl ⟨Nat.le_of_ble_eq_true rfl, rcv_v rfl (by omega) hM.1⟩ (sp_misPlayer (by omega) hM) ?_
  refine R_if_eq fX8_playerOf_5 rfl (fun h5 => ?_) (fun h5 => ?_)
  · refine R_ldc fX8_playerOf_17 ?_
    refine R_ireturn fX8_playerOf_19 rfl ?_
    simp only [QE]
    unfold rPlayerOf
    rw [if_neg]
    rintro ⟨y1, y2⟩
    first
    | (rw [if_pos y1] at h5; omega)
    | (rw [if_pos y2] at h14; omega)
  · have z5 : 0 ≤ p ∧ p < s 0 := by
      by_cases z : 0 ≤ p ∧ p < s 0
      · exact z
      · rw [if_neg z] at h5; omega
    refine R_iload_n fX8_playerOf_8 rfl ?_
    refine R_iconst fX8_playerOf_9 ?_
    refine R_iconst fX8_playerOf_10 ?_
    refine R_callE fX8_playerOf_11 rfl rfl pX8_in rfl ⟨Nat.le_of_ble_eq_true rfl, rfl⟩ (sp_min (by omega)) ?_
    refine R_if_ne fX8_playerOf_14 rfl (fun h14 => ?_) (fun h14 => ?_)
    · have z14 : 0 ≤ w ∧ w ≤ 5 := by
        by_cases z : 0 ≤ w ∧ w ≤ 5
        · exact z
        · rw [if_neg z] at h14; omega
      refine R_iload_n fX8_playerOf_20 rfl ?_
      refine R_iconst fX8_playerOf_21 ?_
      refine R_icmp_ne fX8_playerOf_22 rfl (fun h22 => ?_) (fun h22 => ?_)
      · refine R_aload_n fX8_playerOf_42 rfl ?_
        refine R_iload_n fX8_playerOf_43 rfl ?_
        refine R_iload_n fX8_playerOf_44 rfl ?_
        refine R_callE fX8_playerOf_45 rfl rfl pX8_of rfl ⟨Nat.le_of_ble_eq_true rfl, rcv_v rfl (by omega) hM.1⟩ (sp_mof (by omega) hM (by omega) (by omega)) ?_
        refine R_ireturn fX8_playerOf_48 rfl ?_
        simp only [QE]
        unfold rPlayerOf
        rw [if_pos ⟨z5, z14⟩]
        first
        | (rw [if_pos (by omega)]; first | rw [if_pos (by omega)] | rw [if_neg (by omega)])
        | rw [if_neg (by omega)]
      · refine R_aload_n fX8_playerOf_25 rfl ?_
        refine R_iload_n fX8_playerOf_26 rfl ?_
        refine R_iconst fX8_playerOf_27 ?_
        refine R_callE fX8_playerOf_28 rfl rfl pX8_of rfl ⟨Nat.le_of_ble_eq_true rfl, rcv_v rfl (by omega) hM.1⟩ (sp_mof (by omega) hM (by omega) (by omega)) ?_
        refine R_if_lt fX8_playerOf_31 rfl (fun h31 => ?_) (fun h31 => ?_)
        · refine R_iconst fX8_playerOf_38 ?_
          refine R_goto fX8_playerOf_39 rfl ?_
          refine R_ireturn fX8_playerOf_48 rfl ?_
          simp only [QE]
          unfold rPlayerOf
          rw [if_pos ⟨z5, z14⟩]
          first
          | (rw [if_pos (by omega)]; first | rw [if_pos (by omega)] | rw [if_neg (by omega)])
          | rw [if_neg (by omega)]
        · refine R_iconst fX8_playerOf_34 ?_
          refine R_goto fX8_playerOf_35 rfl ?_
          refine R_ireturn fX8_playerOf_48 rfl ?_
          simp only [QE]
          unfold rPlayerOf
          rw [if_pos ⟨z5, z14⟩]
          first
          | (rw [if_pos (by omega)]; first | rw [if_pos (by omega)] | rw [if_neg (by omega)])
          | rw [if_neg (by omega)]
    · refine R_ldc fX8_playerOf_17 ?_
      refine R_ireturn fX8_playerOf_19 rfl ?_
      simp only [QE]
      unfold rPlayerOf
      rw [if_neg]
      rintro ⟨y1, y2⟩
      first
      | (rw [if_pos y1] at h5; omega)
      | (rw [if_pos y2] at h14; omega)
theorem sp_mlotOf {d : Nat} {kd : KL} {F : FM} {P : PM} {s : Int → Int} {p w : Int} (hd : 2 ≤ d) (hM : shM kd P) (hw : WF s) : Sp d 110 [.inr (some 128), .inl p, .inl w] kd (setr F 129 s) P (QE kd (setr F 129 s) P (rLotOf s p w)) := by
  refine Sp_of (me := mX8_lotOf) (by omega) pX8_lotOf ⟨rfl, Nat.le_of_ble_eq_true rfl⟩ ?_
  obtain ⟨w0, w1, w2, w3, w4, w5, w6, w7, w8, w9, w10, w11, w12, w13⟩ := id hw
  refine R_iload_n fX8_lotOf_0 rfl ?_
  refine R_iconst fX8_lotOf_1 ?_
  refine R_iconst fX8_lotOf_2 ?_
  refine R_callE fX8_lotOf_3 rfl rfl pX8_in rfl ⟨Nat.le_of_ble_eq_true rfl, rfl⟩ (sp_min (by omega)) ?_
  refine R_if_eq fX8_lotOf_6 rfl (fun h6 => ?_) (fun h6 => ?_)
  · refine R_ldc fX8_lotOf_13 ?_
    refine R_ireturn fX8_lotOf_15 rfl ?_
    simp only [QE]
    unfold rLotOf
    rw [if_neg]
    rintro ⟨y1, y2⟩
    first
    | (exfalso; omega)
    | (rw [if_pos y1] at h6; omega)
  · have z6 : 0 ≤ p ∧ p ≤ 1 := by
      by_cases z : 0 ≤ p ∧ p ≤ 1
      · exact z
      · rw [if_neg z] at h6; omega
    refine R_iload_n fX8_lotOf_9 rfl ?_
    refine R_if_ge fX8_lotOf_10 rfl (fun h10 => ?_) (fun h10 => ?_)
    · refine R_iload_n fX8_lotOf_16 rfl ?_
      refine R_aload_n fX8_lotOf_17 rfl ?_
      refine R_getP 0 fX8_lotOf_18 hM.1 (by omega) rfl rfl rfl hM.2.2.2.2.2.2.2.2.1 ?_
      refine R_iload_n fX8_lotOf_21 rfl ?_
      refine R_if_ne fX8_lotOf_22 rfl (fun h22 => ?_) (fun h22 => ?_)
      · refine R_bipush fX8_lotOf_29 ?_
        refine R_iaload fX8_lotOf_31 hM.2.1 (by omega) ?_
        rw [setr_eq]
        refine R_icmp_lt fX8_lotOf_32 rfl (fun h32 => ?_) (fun h32 => ?_)
        · refine R_aload_n fX8_lotOf_40 rfl ?_
          refine R_getP 0 fX8_lotOf_41 hM.1 (by omega) rfl rfl rfl hM.2.2.2.2.2.2.2.2.1 ?_
          refine R_iload_n fX8_lotOf_44 rfl ?_
          refine R_if_ne fX8_lotOf_45 rfl (fun h45 => ?_) (fun h45 => ?_)
          · refine R_sipush fX8_lotOf_52 ?_
            refine R_iload_n fX8_lotOf_55 rfl ?_
            refine R_iadd fX8_lotOf_56 (by omega) ?_
            refine R_iaload fX8_lotOf_57 hM.2.1 (by omega) ?_
            rw [setr_eq]
            refine R_ireturn fX8_lotOf_58 rfl ?_
            simp only [QE]
            unfold rLotOf
            first
            | (exfalso; omega)
            | (rw [if_pos (by omega), if_pos (by omega), if_neg (by omega)]; done)
            | (rw [if_pos (by omega), if_neg (by omega), if_neg (by omega)]; done)
            | (rw [if_pos (by omega), if_pos (by omega), if_pos (by omega)]; done)
            | (rw [if_pos (by omega), if_neg (by omega), if_pos (by omega)]; done)
          · refine R_iconst fX8_lotOf_48 ?_
            refine R_goto fX8_lotOf_49 rfl ?_
            refine R_iload_n fX8_lotOf_55 rfl ?_
            refine R_iadd fX8_lotOf_56 (by omega) ?_
            refine R_iaload fX8_lotOf_57 hM.2.1 (by omega) ?_
            rw [setr_eq]
            refine R_ireturn fX8_lotOf_58 rfl ?_
            simp only [QE]
            unfold rLotOf
            first
            | (exfalso; omega)
            | (rw [if_pos (by omega), if_pos (by omega), if_neg (by omega)]; done)
            | (rw [if_pos (by omega), if_neg (by omega), if_neg (by omega)]; done)
            | (rw [if_pos (by omega), if_pos (by omega), if_pos (by omega)]; done)
            | (rw [if_pos (by omega), if_neg (by omega), if_pos (by omega)]; done)
        · refine R_ldc fX8_lotOf_35 ?_
          refine R_goto fX8_lotOf_37 rfl ?_
          refine R_ireturn fX8_lotOf_58 rfl ?_
          simp only [QE]
          unfold rLotOf
          first
          | (exfalso; omega)
          | (rw [if_pos (by omega), if_pos (by omega), if_neg (by omega)]; done)
          | (rw [if_pos (by omega), if_neg (by omega), if_neg (by omega)]; done)
          | (rw [if_pos (by omega), if_pos (by omega), if_pos (by omega)]; done)
          | (rw [if_pos (by omega), if_neg (by omega), if_pos (by omega)]; done)
      · refine R_iconst fX8_lotOf_25 ?_
        refine R_goto fX8_lotOf_26 rfl ?_
        refine R_iaload fX8_lotOf_31 hM.2.1 (by omega) ?_
        rw [setr_eq]
        refine R_icmp_lt fX8_lotOf_32 rfl (fun h32 => ?_) (fun h32 => ?_)
        · refine R_aload_n fX8_lotOf_40 rfl ?_
          refine R_getP 0 fX8_lotOf_41 hM.1 (by omega) rfl rfl rfl hM.2.2.2.2.2.2.2.2.1 ?_
          refine R_iload_n fX8_lotOf_44 rfl ?_
          refine R_if_ne fX8_lotOf_45 rfl (fun h45 => ?_) (fun h45 => ?_)
          · refine R_sipush fX8_lotOf_52 ?_
            refine R_iload_n fX8_lotOf_55 rfl ?_
            refine R_iadd fX8_lotOf_56 (by omega) ?_
            refine R_iaload fX8_lotOf_57 hM.2.1 (by omega) ?_
            rw [setr_eq]
            refine R_ireturn fX8_lotOf_58 rfl ?_
            simp only [QE]
            unfold rLotOf
            first
            | (exfalso; omega)
            | (rw [if_pos (by omega), if_pos (by omega), if_neg (by omega)]; done)
            | (rw [if_pos (by omega), if_neg (by omega), if_neg (by omega)]; done)
            | (rw [if_pos (by omega), if_pos (by omega), if_pos (by omega)]; done)
            | (rw [if_pos (by omega), if_neg (by omega), if_pos (by omega)]; done)
          · refine R_iconst fX8_lotOf_48 ?_
            refine R_goto fX8_lotOf_49 rfl ?_
            refine R_iload_n fX8_lotOf_55 rfl ?_
            refine R_iadd fX8_lotOf_56 (by omega) ?_
            refine R_iaload fX8_lotOf_57 hM.2.1 (by omega) ?_
            rw [setr_eq]
            refine R_ireturn fX8_lotOf_58 rfl ?_
            simp only [QE]
            unfold rLotOf
            first
            | (exfalso; omega)
            | (rw [if_pos (by omega), if_pos (by omega), if_neg (by omega)]; done)
            | (rw [if_pos (by omega), if_neg (by omega), if_neg (by omega)]; done)
            | (rw [if_pos (by omega), if_pos (by omega), if_pos (by omega)]; done)
            | (rw [if_pos (by omega), if_neg (by omega), if_pos (by omega)]; done)
        · refine R_ldc fX8_lotOf_35 ?_
          refine R_goto fX8_lotOf_37 rfl ?_
          refine R_ireturn fX8_lotOf_58 rfl ?_
          simp only [QE]
          unfold rLotOf
          first
          | (exfalso; omega)
          | (rw [if_pos (by omega), if_pos (by omega), if_neg (by omega)]; done)
          | (rw [if_pos (by omega), if_neg (by omega), if_neg (by omega)]; done)
          | (rw [if_pos (by omega), if_pos (by omega), if_pos (by omega)]; done)
          | (rw [if_pos (by omega), if_neg (by omega), if_pos (by omega)]; done)
    · refine R_ldc fX8_lotOf_13 ?_
      refine R_ireturn fX8_lotOf_15 rfl ?_
      simp only [QE]
      unfold rLotOf
      rw [if_neg]
      rintro ⟨y1, y2⟩
      first
      | (exfalso; omega)
      | (rw [if_pos y1] at h6; omega)
theorem sp_mrecord {d : Nat} {kd : KL} {F : FM} {P : PM} {s : Int → Int} {p w : Int} (hd : 2 ≤ d) (hM : shM kd P) (hw : WF s) : Sp d 112 [.inr (some 128), .inl p, .inl w] kd (setr F 129 s) P (QE kd (setr F 129 s) P (rRecord s p w)) := by
  refine Sp_of (me := mX8_record) (by omega) pX8_record ⟨rfl, Nat.le_of_ble_eq_true rfl⟩ ?_
  obtain ⟨w0, w1, w2, w3, w4, w5, w6, w7, w8, w9, w10, w11, w12, w13⟩ := id hw
  refine R_iload_n fX8_record_0 rfl ?_
  refine R_if_lt fX8_record_1 rfl (fun h1 => ?_) (fun h1 => ?_)
  · refine R_ldc fX8_record_13 ?_
    refine R_ireturn fX8_record_15 rfl ?_
    simp only [QE]
    unfold rRecord
    rw [if_neg]
    rintro ⟨y1, y2⟩
    first
    | (exfalso; omega)
    | (rw [if_pos y2] at h10; omega)
  · refine R_iload_n fX8_record_4 rfl ?_
    refine R_iconst fX8_record_5 ?_
    refine R_iconst fX8_record_6 ?_
    refine R_callE fX8_record_7 rfl rfl pX8_in rfl ⟨Nat.le_of_ble_eq_true rfl, rfl⟩ (sp_min (by omega)) ?_
    refine R_if_ne fX8_record_10 rfl (fun h10 => ?_) (fun h10 => ?_)
    · have z10 : 0 ≤ w ∧ w ≤ 3 := by
        by_cases z : 0 ≤ w ∧ w ≤ 3
        · exact z
        · rw [if_neg z] at h10; omega
      refine R_iload_n fX8_record_16 rfl ?_
      refine R_aload_n fX8_record_17 rfl ?_
      refine R_getP 0 fX8_record_18 hM.1 (by omega) rfl rfl rfl hM.2.2.2.2.2.2.2.2.1 ?_
      refine R_sipush fX8_record_21 ?_
      refine R_iaload fX8_record_24 hM.2.1 (by omega) ?_
      rw [setr_eq]
      refine R_icmp_lt fX8_record_25 rfl (fun h25 => ?_) (fun h25 => ?_)
      · refine R_aload_n fX8_record_33 rfl ?_
        refine R_getP 0 fX8_record_34 hM.1 (by omega) rfl rfl rfl hM.2.2.2.2.2.2.2.2.1 ?_
        refine R_sipush fX8_record_37 ?_
        refine R_iconst fX8_record_40 ?_
        refine R_iload_n fX8_record_41 rfl ?_
        refine R_imul fX8_record_42 (by omega) ?_
        refine R_iadd fX8_record_43 (by omega) ?_
        refine R_iload_n fX8_record_44 rfl ?_
        refine R_iadd fX8_record_45 (by omega) ?_
        refine R_iaload fX8_record_46 hM.2.1 (by omega) ?_
        rw [setr_eq]
        refine R_ireturn fX8_record_47 rfl ?_
        simp only [QE]
        unfold rRecord
        rw [if_pos (by omega)]
        first
        | rw [if_neg (by omega)]
        | rw [if_pos (by omega)]
      · refine R_ldc fX8_record_28 ?_
        refine R_goto fX8_record_30 rfl ?_
        refine R_ireturn fX8_record_47 rfl ?_
        simp only [QE]
        unfold rRecord
        rw [if_pos (by omega)]
        first
        | rw [if_neg (by omega)]
        | rw [if_pos (by omega)]
    · refine R_ldc fX8_record_13 ?_
      refine R_ireturn fX8_record_15 rfl ?_
      simp only [QE]
      unfold rRecord
      rw [if_neg]
      rintro ⟨y1, y2⟩
      first
      | (exfalso; omega)
      | (rw [if_pos y2] at h10; omega)
theorem sp_mcoinsAll {d : Nat} {kd : KL} {F : FM} {P : PM} {s : Int → Int}  (hd : 2 ≤ d) (hM : shM kd P) (hw : WF s) : Sp d 113 [.inr (some 128)] kd (setr F 129 s) P (QE kd (setr F 129 s) P (coinsS s)) := by
  refine Sp_of (me := mX8_coinsAll) (by omega) pX8_coinsAll ⟨rfl, Nat.le_of_ble_eq_true rfl⟩ ?_
  obtain ⟨w0, w1, w2, w3, w4, w5, w6, w7, w8, w9, w10, w11, w12, w13⟩ := id hw
  have lp : ∀ (N : Nat) (i : Int), 0 ≤ i → i ≤ s 0 → (0 ≤ sg (fun p => s (126 + 6 * p)) i.toNat ∧ sg (fun p => s (126 + 6 * p)) i.toNat ≤ 120 * i) → s 0 - i < N → Rn (d - 1) mX8_coinsAll 9 [some (.inr (some 128)), some (.inl (s 1 + sg (fun p => s (126 + 6 * p)) i.toNat)), some (.inl i)] [] kd (setr F 129 s) P (QE kd (setr F 129 s) P (coinsS s)) := by
    intro N
    induction N with
    | zero => intro i h1 h2 h3 h4; omega
    | succ N ih =>
      intro i h1 h2 h3 h4
      have hpot : 0 ≤ s 1 ∧ s 1 ≤ 120 := by
        have h3 := sg_bound (f := fun p => s (126 + 6 * p)) (a := 0) (b := 120) (n := (s 0).toNat) (fun i h0 h1 => ⟨(w3 i h0 (by omega)).1, (w3 i h0 (by omega)).2.1⟩)
        omega
      refine R_iload_n fX8_coinsAll_9 rfl ?_
      refine R_aload_n fX8_coinsAll_10 rfl ?_
      refine R_getP 0 fX8_coinsAll_11 hM.1 (by omega) rfl rfl rfl hM.2.2.2.2.2.2.2.2.1 ?_
      refine R_iconst fX8_coinsAll_14 ?_
      refine R_iaload fX8_coinsAll_15 hM.2.1 (by omega) ?_
      rw [setr_eq]
      refine R_icmp_ge fX8_coinsAll_16 rfl (fun h16 => ?_) (fun h16 => ?_)
      · refine R_iload_n fX8_coinsAll_34 rfl ?_
        refine R_ireturn fX8_coinsAll_35 rfl ?_
        simp only [QE]; rw [show i = s 0 by omega]; rfl
      · have hci := w3 i h1 (by omega)
        refine R_iload_n fX8_coinsAll_19 rfl ?_
        refine R_aload_n fX8_coinsAll_20 rfl ?_
        refine R_iload_n fX8_coinsAll_21 rfl ?_
        refine R_iconst fX8_coinsAll_22 ?_
        refine R_callE fX8_coinsAll_23 rfl rfl pX8_of rfl ⟨Nat.le_of_ble_eq_true rfl, rcv_v rfl (by omega) hM.1⟩ (sp_mof (by omega) hM ⟨h1, by omega⟩ (by omega)) ?_
        rw [Int.add_zero]
        refine R_iadd fX8_coinsAll_26 (by omega) ?_
        refine R_istore_n fX8_coinsAll_27 rfl ?_
        refine R_iinc fX8_coinsAll_28 rfl (by omega) ?_
        refine R_goto fX8_coinsAll_31 rfl ?_
        have hs := sg_s (f := (fun p => s (126 + 6 * p))) h1
        rw [show s 1 + sg (fun p => s (126 + 6 * p)) i.toNat + s (126 + 6 * i) = s 1 + sg (fun p => s (126 + 6 * p)) (i + 1).toNat by rw [hs]; omega]
        exact ih (i + 1) (by omega) (by omega) (by rw [hs]; omega) (by omega)
  refine R_aload_n fX8_coinsAll_0 rfl ?_
  refine R_getP 0 fX8_coinsAll_1 hM.1 (by omega) rfl rfl rfl hM.2.2.2.2.2.2.2.2.1 ?_
  refine R_iconst fX8_coinsAll_4 ?_
  refine R_iaload fX8_coinsAll_5 hM.2.1 (by omega) ?_
  rw [setr_eq]
  refine R_istore_n fX8_coinsAll_6 rfl ?_
  refine R_iconst fX8_coinsAll_7 ?_
  refine R_istore_n fX8_coinsAll_8 rfl ?_
  have h := lp 5 0 (by omega) (by omega) ⟨Int.le_refl 0, Int.le_refl 0⟩ (by omega)
  rw [show s 1 + sg (fun p => s (126 + 6 * p)) (0 : Int).toNat = s 1 from Int.add_zero _] at h
  exact h
theorem sp_mwinner {d : Nat} {kd : KL} {F : FM} {P : PM} {s : Int → Int}  (hd : 2 ≤ d) (hM : shM kd P) (hw : WF s) : Sp d 115 [.inr (some 128)] kd (setr F 129 s) P (QE kd (setr F 129 s) P ((ldS (fun q => s (126 + 6 * q + 1)) (fun q => s (126 + 6 * q)) (s 0).toNat))) := by
  refine Sp_of (me := mX8_winner) (by omega) pX8_winner ⟨rfl, Nat.le_of_ble_eq_true rfl⟩ ?_
  obtain ⟨w0, w1, w2, w3, w4, w5, w6, w7, w8, w9, w10, w11, w12, w13⟩ := id hw
  have hld : ∀ k : Nat, (k : Int) ≤ s 0 → 0 ≤ (ldS (fun q => s (126 + 6 * q + 1)) (fun q => s (126 + 6 * q)) k) ∧ ((ldS (fun q => s (126 + 6 * q + 1)) (fun q => s (126 + 6 * q)) k) < (k : Int) ∨ k = 0) := by
    intro k
    induction k with
    | zero => intro _; exact ⟨Int.le_refl 0, Or.inr rfl⟩
    | succ k ih =>
      intro hk
      have h1 := ih (by omega)
      by_cases hk0 : k = 0
      · subst hk0; exact ⟨Int.le_refl 0, Or.inl (by show (0 : Int) < 1; omega)⟩
      · have h2 := ldS_s (pt := fun q => s (126 + 6 * q + 1)) (co := fun q => s (126 + 6 * q)) (i := (k : Int)) (by omega)
        rw [show ((k : Int) + 1).toNat = k + 1 by omega, Int.toNat_natCast] at h2
        rw [h2]
        split <;> omega
  have lp : ∀ (N : Nat) (i : Int) (j3 : Option AV), 1 ≤ i → i ≤ s 0 → s 0 - i < N → Rn (d - 1) mX8_winner 4 [some (.inr (some 128)), some (.inl (ldS (fun q => s (126 + 6 * q + 1)) (fun q => s (126 + 6 * q)) i.toNat)), some (.inl i), j3] [] kd (setr F 129 s) P (QE kd (setr F 129 s) P ((ldS (fun q => s (126 + 6 * q + 1)) (fun q => s (126 + 6 * q)) (s 0).toNat))) := by
    intro N
    induction N with
    | zero => intro i j3 h1 h2 h4; omega
    | succ N ih =>
      intro i j3 h1 h2 h4
      have hb := hld i.toNat (by omega)
      have hs := ldS_s (pt := fun q => s (126 + 6 * q + 1)) (co := fun q => s (126 + 6 * q)) h1
      generalize hB : (ldS (fun q => s (126 + 6 * q + 1)) (fun q => s (126 + 6 * q)) i.toNat) = B at *
      refine R_iload_n fX8_winner_4 rfl ?_
      refine R_aload_n fX8_winner_5 rfl ?_
      refine R_getP 0 fX8_winner_6 hM.1 (by omega) rfl rfl rfl hM.2.2.2.2.2.2.2.2.1 ?_
      refine R_iconst fX8_winner_9 ?_
      refine R_iaload fX8_winner_10 hM.2.1 (by omega) ?_
      rw [setr_eq]
      refine R_icmp_ge fX8_winner_11 rfl (fun h11 => ?_) (fun h11 => ?_)
      · refine R_iload_n fX8_winner_63 rfl ?_
        refine R_ireturn fX8_winner_64 rfl ?_
        simp only [QE]; rw [← hB, show i = s 0 by omega]
      · have hq1 := w12 i (by omega) (by omega)
        have hq2 := w12 B (by omega) (by omega)
        refine R_aload_n fX8_winner_14 rfl ?_
        refine R_iload_n fX8_winner_15 rfl ?_
        refine R_iconst fX8_winner_16 ?_
        refine R_callE fX8_winner_17 rfl rfl pX8_of rfl ⟨Nat.le_of_ble_eq_true rfl, rcv_v rfl (by omega) hM.1⟩ (sp_mof (by omega) hM (by omega) (by omega)) ?_
        refine R_aload_n fX8_winner_20 rfl ?_
        refine R_iload_n fX8_winner_21 rfl ?_
        refine R_iconst fX8_winner_22 ?_
        refine R_callE fX8_winner_23 rfl rfl pX8_of rfl ⟨Nat.le_of_ble_eq_true rfl, rcv_v rfl (by omega) hM.1⟩ (sp_mof (by omega) hM (by omega) (by omega)) ?_
        refine R_isub fX8_winner_26 (by omega) ?_
        refine R_istore_n fX8_winner_27 rfl ?_
        refine R_iload_n fX8_winner_28 rfl ?_
        refine R_if_gt fX8_winner_29 rfl (fun h29 => ?_) (fun h29 => ?_)
        · refine R_iload_n fX8_winner_51 rfl ?_
          refine R_goto fX8_winner_52 rfl ?_
          refine R_istore_n fX8_winner_56 rfl ?_
          refine R_iinc fX8_winner_57 rfl (by omega) ?_
          refine R_goto fX8_winner_60 rfl ?_
          have hs2 := hs
          first
          | (rw [if_pos (by omega)] at hs
             have h := ih (i + 1) (some (.inl (s (126 + 6 * i + 1) - s (126 + 6 * B + 1)))) (by omega) (by omega) (by omega)
             rw [hs] at h
             exact h)
          | (rw [if_neg (by omega)] at hs
             have h := ih (i + 1) (some (.inl (s (126 + 6 * i + 1) - s (126 + 6 * B + 1)))) (by omega) (by omega) (by omega)
             rw [hs] at h
             exact h)
        · refine R_iload_n fX8_winner_32 rfl ?_
          refine R_if_ne fX8_winner_33 rfl (fun h33 => ?_) (fun h33 => ?_)
          · refine R_iload_n fX8_winner_55 rfl ?_
            refine R_istore_n fX8_winner_56 rfl ?_
            refine R_iinc fX8_winner_57 rfl (by omega) ?_
            refine R_goto fX8_winner_60 rfl ?_
            have hs2 := hs
            first
            | (rw [if_pos (by omega)] at hs
               have h := ih (i + 1) (some (.inl (s (126 + 6 * i + 1) - s (126 + 6 * B + 1)))) (by omega) (by omega) (by omega)
               rw [hs] at h
               exact h)
            | (rw [if_neg (by omega)] at hs
               have h := ih (i + 1) (some (.inl (s (126 + 6 * i + 1) - s (126 + 6 * B + 1)))) (by omega) (by omega) (by omega)
               rw [hs] at h
               exact h)
          · refine R_aload_n fX8_winner_36 rfl ?_
            refine R_iload_n fX8_winner_37 rfl ?_
            refine R_iconst fX8_winner_38 ?_
            refine R_callE fX8_winner_39 rfl rfl pX8_of rfl ⟨Nat.le_of_ble_eq_true rfl, rcv_v rfl (by omega) hM.1⟩ (sp_mof (by omega) hM (by omega) (by omega)) ?_
            rw [Int.add_zero]
            refine R_aload_n fX8_winner_42 rfl ?_
            refine R_iload_n fX8_winner_43 rfl ?_
            refine R_iconst fX8_winner_44 ?_
            refine R_callE fX8_winner_45 rfl rfl pX8_of rfl ⟨Nat.le_of_ble_eq_true rfl, rcv_v rfl (by omega) hM.1⟩ (sp_mof (by omega) hM (by omega) (by omega)) ?_
            rw [Int.add_zero]
            refine R_icmp_le fX8_winner_48 rfl (fun h48 => ?_) (fun h48 => ?_)
            · refine R_iload_n fX8_winner_55 rfl ?_
              refine R_istore_n fX8_winner_56 rfl ?_
              refine R_iinc fX8_winner_57 rfl (by omega) ?_
              refine R_goto fX8_winner_60 rfl ?_
              have hs2 := hs
              first
              | (rw [if_pos (by omega)] at hs
                 have h := ih (i + 1) (some (.inl (s (126 + 6 * i + 1) - s (126 + 6 * B + 1)))) (by omega) (by omega) (by omega)
                 rw [hs] at h
                 exact h)
              | (rw [if_neg (by omega)] at hs
                 have h := ih (i + 1) (some (.inl (s (126 + 6 * i + 1) - s (126 + 6 * B + 1)))) (by omega) (by omega) (by omega)
                 rw [hs] at h
                 exact h)
            · refine R_iload_n fX8_winner_51 rfl ?_
              refine R_goto fX8_winner_52 rfl ?_
              refine R_istore_n fX8_winner_56 rfl ?_
              refine R_iinc fX8_winner_57 rfl (by omega) ?_
              refine R_goto fX8_winner_60 rfl ?_
              have hs2 := hs
              first
              | (rw [if_pos (by omega)] at hs
                 have h := ih (i + 1) (some (.inl (s (126 + 6 * i + 1) - s (126 + 6 * B + 1)))) (by omega) (by omega) (by omega)
                 rw [hs] at h
                 exact h)
              | (rw [if_neg (by omega)] at hs
                 have h := ih (i + 1) (some (.inl (s (126 + 6 * i + 1) - s (126 + 6 * B + 1)))) (by omega) (by omega) (by omega)
                 rw [hs] at h
                 exact h)
  refine R_iconst fX8_winner_0 ?_
  refine R_istore_n fX8_winner_1 rfl ?_
  refine R_iconst fX8_winner_2 ?_
  refine R_istore_n fX8_winner_3 rfl ?_
  exact lp 5 1 _ (by omega) (by omega) (by omega)
