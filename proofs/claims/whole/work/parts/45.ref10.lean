theorem sp_msure {d : Nat} {kd : KL} {F : FM} {P : PM} {s : Int → Int} {p : Int} (hd : 2 ≤ d) (hM : shM kd P) (hw : WF s) : Sp d 116 [.inr (some 128), .inl p] kd (setr F 129 s) P (QE kd (setr F 129 s) P (aSure s p)) := by
  refine Sp_of (me := mX8_sure) (by omega) pX8_sure ⟨rfl, Nat.le_of_ble_eq_true rfl⟩ ?_
  obtain ⟨w0, w1, w2, w3, w4, w5, w6, w7, w8, w9, w10, w11, w12, w13⟩ := id hw
  have lp : ∀ (N : Nat) (i : Int), (0 ≤ p ∧ p < s 0) → s 4 ≠ 0 → 0 ≤ i → i ≤ s 0 → (0 ≤ (mxo (fun q => s (126 + 6 * q)) p i.toNat) ∧ (mxo (fun q => s (126 + 6 * q)) p i.toNat) ≤ 120) → s 0 - i < N → Rn (d - 1) mX8_sure 27 [some (.inr (some 128)), some (.inl p), some (.inl (mxo (fun q => s (126 + 6 * q)) p i.toNat)), some (.inl i)] [] kd (setr F 129 s) P (QE kd (setr F 129 s) P (aSure s p)) := by
    intro N
    induction N with
    | zero => intro i hp hs4 h1 h2 h3 h4; omega
    | succ N ih =>
      intro i hp hs4 h1 h2 h3 h4
      have hs := mxo_s (f := fun q => s (126 + 6 * q)) (p := p) h1
      refine R_iload_n fX8_sure_27 rfl ?_
      refine R_aload_n fX8_sure_28 rfl ?_
      refine R_getP 0 fX8_sure_29 hM.1 (by omega) rfl rfl rfl hM.2.2.2.2.2.2.2.2.1 ?_
      refine R_iconst fX8_sure_32 ?_
      refine R_iaload fX8_sure_33 hM.2.1 (by omega) ?_
      rw [setr_eq]
      refine R_icmp_ge fX8_sure_34 rfl (fun h34 => ?_) (fun h34 => ?_)
      · have hi : i = s 0 := by omega
        subst hi
        refine R_iload_n fX8_sure_69 rfl ?_
        refine R_aload_n fX8_sure_70 rfl ?_
        refine R_iload_n fX8_sure_71 rfl ?_
        refine R_iconst fX8_sure_72 ?_
        refine R_callE fX8_sure_73 rfl rfl pX8_of rfl ⟨Nat.le_of_ble_eq_true rfl, rcv_v rfl (by omega) hM.1⟩ (sp_mof (by omega) hM (by omega) (by omega)) ?_
        rw [Int.add_zero]
        refine R_icmp_ge fX8_sure_76 rfl (fun h76 => ?_) (fun h76 => ?_)
        · refine R_ldc fX8_sure_85 ?_
          refine R_ireturn fX8_sure_87 rfl ?_
          simp only [QE]
          unfold aSure
          rw [if_neg (by omega), if_neg hs4]
          first
          | rw [if_pos (by omega)]
          | rw [if_neg (by omega)]
        · refine R_iload_n fX8_sure_79 rfl ?_
          refine R_iconst fX8_sure_80 ?_
          refine R_iadd fX8_sure_81 (by omega) ?_
          refine R_goto fX8_sure_82 rfl ?_
          refine R_ireturn fX8_sure_87 rfl ?_
          simp only [QE]
          unfold aSure
          rw [if_neg (by omega), if_neg hs4]
          first
          | rw [if_pos (by omega)]
          | rw [if_neg (by omega)]
      · refine R_iload_n fX8_sure_37 rfl ?_
        refine R_iload_n fX8_sure_38 rfl ?_
        refine R_icmp_eq fX8_sure_39 rfl (fun h39 => ?_) (fun h39 => ?_)
        · refine R_iload_n fX8_sure_61 rfl ?_
          refine R_istore_n fX8_sure_62 rfl ?_
          refine R_iinc fX8_sure_63 rfl (by omega) ?_
          refine R_goto fX8_sure_66 rfl ?_
          have hci := w3 i h1 (by omega)
          first
          | (rw [if_pos (by omega)] at hs
             have h := ih (i + 1) hp hs4 (by omega) (by omega) (by rw [hs]; omega) (by omega)
             rw [hs] at h
             exact h)
          | (rw [if_neg (by omega)] at hs
             have h := ih (i + 1) hp hs4 (by omega) (by omega) (by rw [hs]; omega) (by omega)
             rw [hs] at h
             exact h)
        · refine R_aload_n fX8_sure_42 rfl ?_
          refine R_iload_n fX8_sure_43 rfl ?_
          refine R_iconst fX8_sure_44 ?_
          refine R_callE fX8_sure_45 rfl rfl pX8_of rfl ⟨Nat.le_of_ble_eq_true rfl, rcv_v rfl (by omega) hM.1⟩ (sp_mof (by omega) hM (by omega) (by omega)) ?_
          rw [Int.add_zero]
          refine R_iload_n fX8_sure_48 rfl ?_
          refine R_icmp_le fX8_sure_49 rfl (fun h49 => ?_) (fun h49 => ?_)
          · refine R_iload_n fX8_sure_61 rfl ?_
            refine R_istore_n fX8_sure_62 rfl ?_
            refine R_iinc fX8_sure_63 rfl (by omega) ?_
            refine R_goto fX8_sure_66 rfl ?_
            have hci := w3 i h1 (by omega)
            first
            | (rw [if_pos (by omega)] at hs
               have h := ih (i + 1) hp hs4 (by omega) (by omega) (by rw [hs]; omega) (by omega)
               rw [hs] at h
               exact h)
            | (rw [if_neg (by omega)] at hs
               have h := ih (i + 1) hp hs4 (by omega) (by omega) (by rw [hs]; omega) (by omega)
               rw [hs] at h
               exact h)
          · refine R_aload_n fX8_sure_52 rfl ?_
            refine R_iload_n fX8_sure_53 rfl ?_
            refine R_iconst fX8_sure_54 ?_
            refine R_callE fX8_sure_55 rfl rfl pX8_of rfl ⟨Nat.le_of_ble_eq_true rfl, rcv_v rfl (by omega) hM.1⟩ (sp_mof (by omega) hM (by omega) (by omega)) ?_
            rw [Int.add_zero]
            refine R_goto fX8_sure_58 rfl ?_
            refine R_istore_n fX8_sure_62 rfl ?_
            refine R_iinc fX8_sure_63 rfl (by omega) ?_
            refine R_goto fX8_sure_66 rfl ?_
            have hci := w3 i h1 (by omega)
            first
            | (rw [if_pos (by omega)] at hs
               have h := ih (i + 1) hp hs4 (by omega) (by omega) (by rw [hs]; omega) (by omega)
               rw [hs] at h
               exact h)
            | (rw [if_neg (by omega)] at hs
               have h := ih (i + 1) hp hs4 (by omega) (by omega) (by rw [hs]; omega) (by omega)
               rw [hs] at h
               exact h)
  refine R_aload_n fX8_sure_0 rfl ?_
  refine R_iload_n fX8_sure_1 rfl ?_
  refine R_callE fX8_sure_2 rfl rfl pX8_isPlayer rfl ⟨Nat.le_of_ble_eq_true rfl, rcv_v rfl (by omega) hM.1⟩ (sp_misPlayer (by omega) hM) ?_
  refine R_if_ne fX8_sure_5 rfl (fun h5 => ?_) (fun h5 => ?_)
  · have hp : 0 ≤ p ∧ p < s 0 := by
      by_cases z : 0 ≤ p ∧ p < s 0
      · exact z
      · rw [if_neg z] at h5; omega
    refine R_aload_n fX8_sure_11 rfl ?_
    refine R_getP 0 fX8_sure_12 hM.1 (by omega) rfl rfl rfl hM.2.2.2.2.2.2.2.2.1 ?_
    refine R_iconst fX8_sure_15 ?_
    refine R_iaload fX8_sure_16 hM.2.1 (by omega) ?_
    rw [setr_eq]
    refine R_if_ne fX8_sure_17 rfl (fun h17 => ?_) (fun h17 => ?_)
    · refine R_iconst fX8_sure_23 ?_
      refine R_istore_n fX8_sure_24 rfl ?_
      refine R_iconst fX8_sure_25 ?_
      refine R_istore_n fX8_sure_26 rfl ?_
      exact lp 5 0 hp (by omega) (by omega) (by omega) ⟨Int.le_refl 0, by show (0 : Int) ≤ 120; omega⟩ (by omega)
    · refine R_ldc fX8_sure_20 ?_
      refine R_ireturn fX8_sure_22 rfl ?_
      simp only [QE]
      unfold aSure
      rw [if_neg (by omega), if_pos (by omega)]
  · refine R_ldc fX8_sure_8 ?_
    refine R_ireturn fX8_sure_10 rfl ?_
    simp only [QE]
    unfold aSure
    rw [if_pos (fun z => by rw [if_pos z] at h5; omega)]
theorem sp_mcount {d : Nat} {kd : KL} {F : FM} {P : PM} {s : Int → Int} {w : Int} (hd : 3 ≤ d) (hM : shM kd P) (hw : WF s) (hk : F 128 5 = 0 ∨ F 128 5 = 1) : Sp d 114 [.inr (some 128), .inl w] kd (setr F 129 s) P (QE kd (setr F 129 s) P (aCount s (F 128 6) (F 128 5) (F 128 9) w)) := by
  refine Sp_of (me := mX8_count) (by omega) pX8_count ⟨rfl, Nat.le_of_ble_eq_true rfl⟩ ?_
  obtain ⟨w0, w1, w2, w3, w4, w5, w6, w7, w8, w9, w10, w11, w12, w13⟩ := id hw
  refine R_iload_n fX8_count_0 rfl ?_
  by_cases cs1_0 : w = 0
  · subst cs1_0
    refine R_tab fX8_count_1 rfl ?_
    refine R_aload_n fX8_count_68 rfl ?_
    refine R_getP 0 fX8_count_69 hM.1 (by omega) rfl rfl rfl hM.2.2.2.2.2.2.2.2.1 ?_
    refine R_iconst fX8_count_72 ?_
    refine R_iaload fX8_count_73 hM.2.1 (by omega) ?_
    rw [setr_eq]
    refine R_ireturn fX8_count_74 rfl ?_
    simp only [QE]; unfold aCount rNumber; rw [if_neg (by omega), if_neg (by omega), if_neg (by omega), if_pos rfl]
  by_cases cs1_1 : w = 1
  · subst cs1_1
    refine R_tab fX8_count_1 rfl ?_
    refine R_aload_n fX8_count_75 rfl ?_
    refine R_getP 0 fX8_count_76 hM.1 (by omega) rfl rfl rfl hM.2.2.2.2.2.2.2.2.1 ?_
    refine R_iconst fX8_count_79 ?_
    refine R_iaload fX8_count_80 hM.2.1 (by omega) ?_
    rw [setr_eq]
    refine R_ireturn fX8_count_81 rfl ?_
    simp only [QE]; unfold aCount rNumber; rw [if_neg (by omega), if_neg (by omega), if_neg (by omega), if_neg (by omega), if_pos rfl]
  by_cases cs1_2 : w = 2
  · subst cs1_2
    refine R_tab fX8_count_1 rfl ?_
    refine R_aload_n fX8_count_82 rfl ?_
    refine R_getP 0 fX8_count_83 hM.1 (by omega) rfl rfl rfl hM.2.2.2.2.2.2.2.2.1 ?_
    refine R_bipush fX8_count_86 ?_
    refine R_iaload fX8_count_88 hM.2.1 (by omega) ?_
    rw [setr_eq]
    refine R_ireturn fX8_count_89 rfl ?_
    simp only [QE]; unfold aCount rNumber; rw [if_neg (by omega), if_neg (by omega), if_neg (by omega), if_neg (by omega), if_neg (by omega), if_pos rfl]
  by_cases cs1_3 : w = 3
  · subst cs1_3
    refine R_tab fX8_count_1 rfl ?_
    refine R_aload_n fX8_count_90 rfl ?_
    refine R_callE fX8_count_91 rfl rfl pX8_onTable rfl ⟨Nat.le_of_ble_eq_true rfl, rcv_v rfl (by omega) hM.1⟩ (sp_monTable (by omega) hM (by omega) w6) ?_
    refine R_ireturn fX8_count_94 rfl ?_
    simp only [QE]; unfold aCount rNumber; rw [if_neg (by omega), if_neg (by omega), if_neg (by omega), if_neg (by omega), if_neg (by omega), if_neg (by omega), if_pos rfl]
  by_cases cs1_4 : w = 4
  · subst cs1_4
    refine R_tab fX8_count_1 rfl ?_
    refine R_aload_n fX8_count_95 rfl ?_
    refine R_getP 0 fX8_count_96 hM.1 (by omega) rfl rfl rfl hM.2.2.2.2.2.2.2.2.1 ?_
    refine R_iconst fX8_count_99 ?_
    refine R_iaload fX8_count_100 hM.2.1 (by omega) ?_
    rw [setr_eq]
    refine R_ireturn fX8_count_101 rfl ?_
    simp only [QE]; unfold aCount rNumber; rw [if_neg (by omega), if_neg (by omega), if_neg (by omega), if_neg (by omega), if_neg (by omega), if_neg (by omega), if_neg (by omega), if_pos rfl]
  by_cases cs1_5 : w = 5
  · subst cs1_5
    refine R_tab fX8_count_1 rfl ?_
    refine R_aload_n fX8_count_102 rfl ?_
    refine R_getP 0 fX8_count_103 hM.1 (by omega) rfl rfl rfl hM.2.2.2.2.2.2.2.2.1 ?_
    refine R_iconst fX8_count_106 ?_
    refine R_iaload fX8_count_107 hM.2.1 (by omega) ?_
    rw [setr_eq]
    refine R_ireturn fX8_count_108 rfl ?_
    simp only [QE]; unfold aCount rNumber; rw [if_neg (by omega), if_neg (by omega), if_neg (by omega), if_neg (by omega), if_neg (by omega), if_neg (by omega), if_neg (by omega), if_neg (by omega), if_pos rfl]
  by_cases cs1_6 : w = 6
  · subst cs1_6
    refine R_tab fX8_count_1 rfl ?_
    refine R_aload_n fX8_count_109 rfl ?_
    refine R_getP 0 fX8_count_110 hM.1 (by omega) rfl rfl rfl hM.2.2.2.2.2.2.2.2.1 ?_
    refine R_iconst fX8_count_113 ?_
    refine R_iaload fX8_count_114 hM.2.1 (by omega) ?_
    rw [setr_eq]
    refine R_ireturn fX8_count_115 rfl ?_
    simp only [QE]; unfold aCount rNumber; rw [if_neg (by omega), if_neg (by omega), if_neg (by omega), if_neg (by omega), if_neg (by omega), if_neg (by omega), if_neg (by omega), if_neg (by omega), if_neg (by omega), if_pos rfl]
  by_cases cs1_7 : w = 7
  · subst cs1_7
    refine R_tab fX8_count_1 rfl ?_
    refine R_aload_n fX8_count_116 rfl ?_
    refine R_callE fX8_count_117 rfl rfl pX8_bids rfl ⟨Nat.le_of_ble_eq_true rfl, rcv_v rfl (by omega) hM.1⟩ (sp_mbids (by omega) hM (by omega)) ?_
    rw [bids_eq hw]
    refine R_ireturn fX8_count_120 rfl ?_
    simp only [QE]; unfold aCount rNumber; rw [if_neg (by omega), if_neg (by omega), if_neg (by omega), if_neg (by omega), if_neg (by omega), if_neg (by omega), if_neg (by omega), if_neg (by omega), if_neg (by omega), if_neg (by omega), if_pos rfl]
  by_cases cs1_8 : w = 8
  · subst cs1_8
    refine R_tab fX8_count_1 rfl ?_
    refine R_aload_n fX8_count_121 rfl ?_
    refine R_callE fX8_count_122 rfl rfl pX8_coinsAll rfl ⟨Nat.le_of_ble_eq_true rfl, rcv_v rfl (by omega) hM.1⟩ (sp_mcoinsAll (by omega) hM hw) ?_
    refine R_ireturn fX8_count_125 rfl ?_
    simp only [QE]; unfold aCount rNumber; rw [if_neg (by omega), if_neg (by omega), if_neg (by omega), if_neg (by omega), if_neg (by omega), if_neg (by omega), if_neg (by omega), if_neg (by omega), if_neg (by omega), if_neg (by omega), if_neg (by omega), if_pos rfl]
  by_cases cs1_9 : w = 9
  · subst cs1_9
    refine R_tab fX8_count_1 rfl ?_
    refine R_aload_n fX8_count_126 rfl ?_
    refine R_getP 0 fX8_count_127 hM.1 (by omega) rfl rfl rfl hM.2.2.2.2.2.2.2.2.1 ?_
    refine R_sipush fX8_count_130 ?_
    refine R_iaload fX8_count_133 hM.2.1 (by omega) ?_
    rw [setr_eq]
    refine R_ireturn fX8_count_134 rfl ?_
    simp only [QE]; unfold aCount rNumber; rw [if_neg (by omega), if_neg (by omega), if_neg (by omega), if_neg (by omega), if_neg (by omega), if_neg (by omega), if_neg (by omega), if_neg (by omega), if_neg (by omega), if_neg (by omega), if_neg (by omega), if_neg (by omega), if_pos rfl]
  by_cases cs1_10 : w = 10
  · subst cs1_10
    refine R_tab fX8_count_1 rfl ?_
    refine R_aload_n fX8_count_135 rfl ?_
    refine R_getI 6 fX8_count_136 hM.1 (by omega) rfl rfl rfl ?_
    refine R_ireturn fX8_count_139 rfl ?_
    simp only [QE]; unfold aCount rNumber; rw [if_pos rfl, setr_ne _ _ (by omega)]
  by_cases cs1_11 : w = 11
  · subst cs1_11
    refine R_tab fX8_count_1 rfl ?_
    refine R_aload_n fX8_count_140 rfl ?_
    refine R_getI 9 fX8_count_141 hM.1 (by omega) rfl rfl rfl ?_
    refine R_ireturn fX8_count_144 rfl ?_
    simp only [QE]; unfold aCount rNumber; rw [if_neg (by omega), if_pos rfl, setr_ne _ _ (by omega)]
  by_cases cs1_12 : w = 12
  · subst cs1_12
    refine R_tab fX8_count_1 rfl ?_
    refine R_aload_n fX8_count_145 rfl ?_
    refine R_getI 5 fX8_count_146 hM.1 (by omega) rfl rfl rfl ?_
    rw [setr_ne _ _ (by omega)]
    refine R_if_eq fX8_count_149 rfl (fun h149 => ?_) (fun h149 => ?_)
    · refine R_iconst fX8_count_156 ?_
      refine R_ireturn fX8_count_157 rfl ?_
      simp only [QE]; unfold aCount rNumber; rw [if_neg (by omega), if_neg (by omega), if_pos rfl]; first | rw [show F 128 5 = 1 by omega] | rw [show F 128 5 = 0 by omega]
    · refine R_iconst fX8_count_152 ?_
      refine R_goto fX8_count_153 rfl ?_
      refine R_ireturn fX8_count_157 rfl ?_
      simp only [QE]; unfold aCount rNumber; rw [if_neg (by omega), if_neg (by omega), if_pos rfl]; first | rw [show F 128 5 = 1 by omega] | rw [show F 128 5 = 0 by omega]
  refine R_tabD fX8_count_1 (by omega) rfl ?_
  refine R_iload_n fX8_count_158 rfl ?_
  refine R_bipush fX8_count_159 ?_
  refine R_bipush fX8_count_161 ?_
  refine R_callE fX8_count_163 rfl rfl pX8_in rfl ⟨Nat.le_of_ble_eq_true rfl, rfl⟩ (sp_min (by omega)) ?_
  refine R_if_eq fX8_count_166 rfl (fun h166 => ?_) (fun h166 => ?_)
  · refine R_ldc fX8_count_184 ?_
    refine R_ireturn fX8_count_186 rfl ?_
    first
    | (have hw21 := hw20
       simp only [QE]; unfold aCount rNumber; rw [if_neg (by omega), if_neg (by omega), if_neg (by omega), if_neg (by omega), if_neg (by omega), if_neg (by omega), if_neg (by omega), if_neg (by omega), if_neg (by omega), if_neg (by omega), if_neg (by omega), if_neg (by omega), if_neg (by omega), if_pos (by omega)])
    | (simp only [QE]; unfold aCount rNumber; rw [if_neg (by omega), if_neg (by omega), if_neg (by omega), if_neg (by omega), if_neg (by omega), if_neg (by omega), if_neg (by omega), if_neg (by omega), if_neg (by omega), if_neg (by omega), if_neg (by omega), if_neg (by omega), if_neg (by omega), if_neg (fun z => by rw [if_pos z] at h166; omega)])
  · refine R_aload_n fX8_count_169 rfl ?_
    refine R_getP 0 fX8_count_170 hM.1 (by omega) rfl rfl rfl hM.2.2.2.2.2.2.2.2.1 ?_
    refine R_bipush fX8_count_173 ?_
    refine R_iload_n fX8_count_175 rfl ?_
    have hw20 : 20 ≤ w ∧ w ≤ 22 := by
      by_cases z : 20 ≤ w ∧ w ≤ 22
      · exact z
      · rw [if_neg z] at h166; omega
    refine R_iadd fX8_count_176 (by omega) ?_
    refine R_bipush fX8_count_177 ?_
    refine R_isub fX8_count_179 (by omega) ?_
    refine R_iaload fX8_count_180 hM.2.1 (by omega) ?_
    rw [setr_eq]
    refine R_goto fX8_count_181 rfl ?_
    refine R_ireturn fX8_count_186 rfl ?_
    first
    | (have hw21 := hw20
       simp only [QE]; unfold aCount rNumber; rw [if_neg (by omega), if_neg (by omega), if_neg (by omega), if_neg (by omega), if_neg (by omega), if_neg (by omega), if_neg (by omega), if_neg (by omega), if_neg (by omega), if_neg (by omega), if_neg (by omega), if_neg (by omega), if_neg (by omega), if_pos (by omega)])
    | (simp only [QE]; unfold aCount rNumber; rw [if_neg (by omega), if_neg (by omega), if_neg (by omega), if_neg (by omega), if_neg (by omega), if_neg (by omega), if_neg (by omega), if_neg (by omega), if_neg (by omega), if_neg (by omega), if_neg (by omega), if_neg (by omega), if_neg (by omega), if_neg (fun z => by rw [if_pos z] at h166; omega)])
