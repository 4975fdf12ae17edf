theorem sp_mroundOf {d : Nat} {kd : KL} {F : FM} {P : PM} {s : Int → Int} {b w : Int} (hd : 2 ≤ d) (hM : shM kd P) (hw : WF s) (hwb : -2147483648 ≤ w ∧ w < 2147483648) : Sp d 111 [.inr (some 128), .inl b, .inl w] kd (setr F 129 s) P (QE kd (setr F 129 s) P (rRoundOf s b w)) := by
  refine Sp_of (me := mX8_roundOf) (by omega) pX8_roundOf ⟨rfl, Nat.le_of_ble_eq_true rfl⟩ ?_
  obtain ⟨w0, w1, w2, w3, w4, w5, w6, w7, w8, w9, w10, w11, w12, w13⟩ := id hw
  have main : ∀ o : Int, (o = 0 ∨ o = 1) → (o = 1 ↔ (10 ≤ w ∧ w < 10 + s 0)) → Rn (d - 1) mX8_roundOf 23 [some (.inr (some 128)), some (.inl b), some (.inl w), some (.inl o)] [] kd (setr F 129 s) P (QE kd (setr F 129 s) P (rRoundOf s b w)) := by
    intro o ho how
    refine R_iload_n fX8_roundOf_23 rfl ?_
    refine R_if_lt fX8_roundOf_24 rfl (fun h24 => ?_) (fun h24 => ?_)
    · refine R_ldc fX8_roundOf_40 ?_
      refine R_ireturn fX8_roundOf_42 rfl ?_
      simp only [QE]
      unfold rRoundOf
      rw [if_neg]
      rintro ⟨y1, y2⟩
      first
      | (exfalso; omega)
      | (by_cases y3 : 0 ≤ w ∧ w ≤ 3
         · rw [if_pos y3] at h33; omega
         · omega)
    · refine R_iload_n fX8_roundOf_27 rfl ?_
      refine R_iconst fX8_roundOf_28 ?_
      refine R_iconst fX8_roundOf_29 ?_
      refine R_callE fX8_roundOf_30 rfl rfl pX8_in rfl ⟨Nat.le_of_ble_eq_true rfl, rfl⟩ (sp_min (by omega)) ?_
      refine R_if_ne fX8_roundOf_33 rfl (fun h33 => ?_) (fun h33 => ?_)
      · have hcond : 0 ≤ b ∧ (0 ≤ w ∧ w ≤ 3 ∨ 10 ≤ w ∧ w < 10 + s 0) := by
          refine ⟨by omega, ?_⟩
          first
          | (refine Or.inr ?_; omega)
          | (refine Or.inl ?_
             by_cases y3 : 0 ≤ w ∧ w ≤ 3
             · exact y3
             · rw [if_neg y3] at h33; omega)
        refine R_iload_n fX8_roundOf_43 rfl ?_
        refine R_aload_n fX8_roundOf_44 rfl ?_
        refine R_getP 0 fX8_roundOf_45 hM.1 (by omega) rfl rfl rfl hM.2.2.2.2.2.2.2.2.1 ?_
        refine R_bipush fX8_roundOf_48 ?_
        refine R_iaload fX8_roundOf_50 hM.2.1 (by omega) ?_
        rw [setr_eq]
        refine R_icmp_lt fX8_roundOf_51 rfl (fun h51 => ?_) (fun h51 => ?_)
        · refine R_aload_n fX8_roundOf_59 rfl ?_
          refine R_getP 0 fX8_roundOf_60 hM.1 (by omega) rfl rfl rfl hM.2.2.2.2.2.2.2.2.1 ?_
          refine R_bipush fX8_roundOf_63 ?_
          refine R_bipush fX8_roundOf_65 ?_
          refine R_iload_n fX8_roundOf_67 rfl ?_
          refine R_imul fX8_roundOf_68 (by omega) ?_
          refine R_iadd fX8_roundOf_69 (by omega) ?_
          refine R_iload_n fX8_roundOf_70 rfl ?_
          refine R_if_eq fX8_roundOf_71 rfl (fun h71 => ?_) (fun h71 => ?_)
          · refine R_iload_n fX8_roundOf_81 rfl ?_
            refine R_iadd fX8_roundOf_82 (by omega) ?_
            refine R_iaload fX8_roundOf_83 hM.2.1 (by omega) ?_
            rw [setr_eq]
            refine R_ireturn fX8_roundOf_84 rfl ?_
            simp only [QE]
            unfold rRoundOf
            rw [if_pos hcond]
            first
            | (rw [if_neg (by omega)]; done)
            | (rw [if_pos (by omega), if_pos (by omega)]; done)
            | (rw [if_pos (by omega), if_neg (by omega)]; done)
          · refine R_iload_n fX8_roundOf_74 rfl ?_
            refine R_bipush fX8_roundOf_75 ?_
            refine R_isub fX8_roundOf_77 (by omega) ?_
            refine R_goto fX8_roundOf_78 rfl ?_
            refine R_iadd fX8_roundOf_82 (by omega) ?_
            refine R_iaload fX8_roundOf_83 hM.2.1 (by omega) ?_
            rw [setr_eq]
            refine R_ireturn fX8_roundOf_84 rfl ?_
            simp only [QE]
            unfold rRoundOf
            rw [if_pos hcond]
            first
            | (rw [if_neg (by omega)]; done)
            | (rw [if_pos (by omega), if_pos (by omega)]; done)
            | (rw [if_pos (by omega), if_neg (by omega)]; done)
        · refine R_ldc fX8_roundOf_54 ?_
          refine R_goto fX8_roundOf_56 rfl ?_
          refine R_ireturn fX8_roundOf_84 rfl ?_
          simp only [QE]
          unfold rRoundOf
          rw [if_pos hcond]
          first
          | (rw [if_neg (by omega)]; done)
          | (rw [if_pos (by omega), if_pos (by omega)]; done)
          | (rw [if_pos (by omega), if_neg (by omega)]; done)
      · refine R_iload_n fX8_roundOf_36 rfl ?_
        refine R_if_ne fX8_roundOf_37 rfl (fun h37 => ?_) (fun h37 => ?_)
        · have hcond : 0 ≤ b ∧ (0 ≤ w ∧ w ≤ 3 ∨ 10 ≤ w ∧ w < 10 + s 0) := by
            refine ⟨by omega, ?_⟩
            first
            | (refine Or.inr ?_; omega)
            | (refine Or.inl ?_
               by_cases y3 : 0 ≤ w ∧ w ≤ 3
               · exact y3
               · rw [if_neg y3] at h33; omega)
          refine R_iload_n fX8_roundOf_43 rfl ?_
          refine R_aload_n fX8_roundOf_44 rfl ?_
          refine R_getP 0 fX8_roundOf_45 hM.1 (by omega) rfl rfl rfl hM.2.2.2.2.2.2.2.2.1 ?_
          refine R_bipush fX8_roundOf_48 ?_
          refine R_iaload fX8_roundOf_50 hM.2.1 (by omega) ?_
          rw [setr_eq]
          refine R_icmp_lt fX8_roundOf_51 rfl (fun h51 => ?_) (fun h51 => ?_)
          · refine R_aload_n fX8_roundOf_59 rfl ?_
            refine R_getP 0 fX8_roundOf_60 hM.1 (by omega) rfl rfl rfl hM.2.2.2.2.2.2.2.2.1 ?_
            refine R_bipush fX8_roundOf_63 ?_
            refine R_bipush fX8_roundOf_65 ?_
            refine R_iload_n fX8_roundOf_67 rfl ?_
            refine R_imul fX8_roundOf_68 (by omega) ?_
            refine R_iadd fX8_roundOf_69 (by omega) ?_
            refine R_iload_n fX8_roundOf_70 rfl ?_
            refine R_if_eq fX8_roundOf_71 rfl (fun h71 => ?_) (fun h71 => ?_)
            · refine R_iload_n fX8_roundOf_81 rfl ?_
              refine R_iadd fX8_roundOf_82 (by omega) ?_
              refine R_iaload fX8_roundOf_83 hM.2.1 (by omega) ?_
              rw [setr_eq]
              refine R_ireturn fX8_roundOf_84 rfl ?_
              simp only [QE]
              unfold rRoundOf
              rw [if_pos hcond]
              first
              | (rw [if_neg (by omega)]; done)
              | (rw [if_pos (by omega), if_pos (by omega)]; done)
              | (rw [if_pos (by omega), if_neg (by omega)]; done)
            · refine R_iload_n fX8_roundOf_74 rfl ?_
              refine R_bipush fX8_roundOf_75 ?_
              refine R_isub fX8_roundOf_77 (by omega) ?_
              refine R_goto fX8_roundOf_78 rfl ?_
              refine R_iadd fX8_roundOf_82 (by omega) ?_
              refine R_iaload fX8_roundOf_83 hM.2.1 (by omega) ?_
              rw [setr_eq]
              refine R_ireturn fX8_roundOf_84 rfl ?_
              simp only [QE]
              unfold rRoundOf
              rw [if_pos hcond]
              first
              | (rw [if_neg (by omega)]; done)
              | (rw [if_pos (by omega), if_pos (by omega)]; done)
              | (rw [if_pos (by omega), if_neg (by omega)]; done)
          · refine R_ldc fX8_roundOf_54 ?_
            refine R_goto fX8_roundOf_56 rfl ?_
            refine R_ireturn fX8_roundOf_84 rfl ?_
            simp only [QE]
            unfold rRoundOf
            rw [if_pos hcond]
            first
            | (rw [if_neg (by omega)]; done)
            | (rw [if_pos (by omega), if_pos (by omega)]; done)
            | (rw [if_pos (by omega), if_neg (by omega)]; done)
        · refine R_ldc fX8_roundOf_40 ?_
          refine R_ireturn fX8_roundOf_42 rfl ?_
          simp only [QE]
          unfold rRoundOf
          rw [if_neg]
          rintro ⟨y1, y2⟩
          first
          | (exfalso; omega)
          | (by_cases y3 : 0 ≤ w ∧ w ≤ 3
             · rw [if_pos y3] at h33; omega
             · omega)
  refine R_iload_n fX8_roundOf_0 rfl ?_
  refine R_bipush fX8_roundOf_1 ?_
  refine R_icmp_lt fX8_roundOf_3 rfl (fun h3 => ?_) (fun h3 => ?_)
  · refine R_iconst fX8_roundOf_21 ?_
    refine R_istore_n fX8_roundOf_22 rfl ?_
    first
    | (refine main _ (by omega) ⟨fun z => by omega, fun z => ?_⟩
       first
       | (exfalso; omega)
       | (rw [if_pos (by omega)] at h14; omega))
    | (refine main _ (by omega) ⟨fun _ => ?_, fun _ => rfl⟩
       by_cases z : 0 ≤ w - 10 ∧ w - 10 < s 0
       · omega
       · rw [if_neg z] at h14; omega)
  · refine R_aload_n fX8_roundOf_6 rfl ?_
    refine R_iload_n fX8_roundOf_7 rfl ?_
    refine R_bipush fX8_roundOf_8 ?_
    refine R_isub fX8_roundOf_10 (by omega) ?_
    refine R_callE fX8_roundOf_11 rfl rfl pX8_isPlayer rfl ⟨Nat.le_of_ble_eq_true rfl, rcv_v rfl (by omega) hM.1⟩ (sp_misPlayer (by omega) hM) ?_
    refine R_if_eq fX8_roundOf_14 rfl (fun h14 => ?_) (fun h14 => ?_)
    · refine R_iconst fX8_roundOf_21 ?_
      refine R_istore_n fX8_roundOf_22 rfl ?_
      first
      | (refine main _ (by omega) ⟨fun z => by omega, fun z => ?_⟩
         first
         | (exfalso; omega)
         | (rw [if_pos (by omega)] at h14; omega))
      | (refine main _ (by omega) ⟨fun _ => ?_, fun _ => rfl⟩
         by_cases z : 0 ≤ w - 10 ∧ w - 10 < s 0
         · omega
         · rw [if_neg z] at h14; omega)
    · refine R_iconst fX8_roundOf_17 ?_
      refine R_goto fX8_roundOf_18 rfl ?_
      refine R_istore_n fX8_roundOf_22 rfl ?_
      first
      | (refine main _ (by omega) ⟨fun z => by omega, fun z => ?_⟩
         first
         | (exfalso; omega)
         | (rw [if_pos (by omega)] at h14; omega))
      | (refine main _ (by omega) ⟨fun _ => ?_, fun _ => rfl⟩
         by_cases z : 0 ≤ w - 10 ∧ w - 10 < s 0
         · omega
         · rw [if_neg z] at h14; omega)
