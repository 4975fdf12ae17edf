theorem sp_mbegins {d : Nat} {kd : KL} {F : FM} {P : PM} {s : Int → Int} {n c : Int} (hd : 2 ≤ d) (hM : shM kd P)  : Sp d 93 [.inr (some 128), .inl n, .inl c] kd (setr F 129 s) P (QN kd P (fun F' => F' = setr F 129 (beginS s n c))) := by
  refine Sp_of (me := mX8_begins) (by omega) pX8_begins ⟨rfl, Nat.le_of_ble_eq_true rfl⟩ ?_
  have lp2 : ∀ (N : Nat) (i : Int), 0 ≤ i → i ≤ 4 → 4 - i < N → Rn (d - 1) mX8_begins 51 [some (.inr (some 128)), some (.inl n), some (.inl c), some (.inl i)] [] kd (setr F 129 (fun j => if 126 ≤ j ∧ j < 126 + 6 * (i) ∧ (j - 126) % 6 = 0 then (if (j - 126) / 6 < n then c else 0) else if 126 ≤ j ∧ j < 126 + 6 * (i) ∧ (j - 126) % 6 = 2 then -1 else up (fun j => if 0 ≤ j ∧ j < 2087 then (if 26 ≤ j ∧ j ≤ 28 then s j else 0) else s j) 0 n j)) P (QN kd P (fun F' => F' = setr F 129 (beginS s n c))) := by
    intro N
    induction N with
    | zero => intro i h1 h2 h4; omega
    | succ N ih =>
      intro i h1 h2 h4
      generalize hg : (fun j => if 126 ≤ j ∧ j < 126 + 6 * (i) ∧ (j - 126) % 6 = 0 then (if (j - 126) / 6 < n then c else 0) else if 126 ≤ j ∧ j < 126 + 6 * (i) ∧ (j - 126) % 6 = 2 then -1 else up (fun j => if 0 ≤ j ∧ j < 2087 then (if 26 ≤ j ∧ j ≤ 28 then s j else 0) else s j) 0 n j) = g
      refine R_iload_n fX8_begins_51 rfl ?_
      refine R_iconst fX8_begins_52 ?_
      refine R_icmp_ge fX8_begins_53 rfl (fun h53 => ?_) (fun h53 => ?_)
      · refine R_return fX8_begins_101 rfl ?_
        refine ⟨_, rfl, ?_⟩
        rw [← hg, show i = 4 by omega]
        congr 1
        funext j
        unfold beginS up
        dsimp only
        generalize (if (j - 126) / 6 < n then c else 0) = w
        by_cases z1 : 126 ≤ j ∧ j < 126 + 6 * 4 ∧ (j - 126) % 6 = 0
        · rw [if_pos z1, if_pos (by omega), if_neg (by omega), if_neg (by omega), if_pos (by omega)]
        · rw [if_neg z1]
          by_cases z2 : 126 ≤ j ∧ j < 126 + 6 * 4 ∧ (j - 126) % 6 = 2
          · rw [if_pos z2, if_pos (by omega), if_neg (by omega), if_neg (by omega), if_neg (by omega), if_pos (by omega)]
          · rw [if_neg z2]
            by_cases z3 : j = 0
            · rw [if_pos z3, if_pos (by omega), if_neg (by omega), if_pos z3]
            · rw [if_neg z3]
              by_cases z4 : 0 ≤ j ∧ j < 2087
              · rw [if_pos z4, if_pos z4]
                by_cases z5 : 26 ≤ j ∧ j ≤ 28
                · rw [if_pos z5, if_pos z5]
                · rw [if_neg z5, if_neg z5, if_neg z3, if_neg (by omega), if_neg (by omega)]
              · rw [if_neg z4, if_neg z4]
      · refine R_aload_n fX8_begins_56 rfl ?_
        refine R_getP 0 fX8_begins_57 hM.1 (by omega) rfl rfl rfl hM.2.2.2.2.2.2.2.2.1 ?_
        refine R_bipush fX8_begins_60 ?_
        refine R_bipush fX8_begins_62 ?_
        refine R_iload_n fX8_begins_64 rfl ?_
        refine R_imul fX8_begins_65 (by omega) ?_
        refine R_iadd fX8_begins_66 (by omega) ?_
        refine R_iconst fX8_begins_67 ?_
        refine R_iadd fX8_begins_68 (by omega) ?_
        refine R_iload_n fX8_begins_69 rfl ?_
        refine R_iload_n fX8_begins_70 rfl ?_
        refine R_icmp_ge fX8_begins_71 rfl (fun h71 => ?_) (fun h71 => ?_)
        · refine R_iconst fX8_begins_78 ?_
          refine R_iastore fX8_begins_79 hM.2.1 (by omega) (by omega) ?_
          rw [stt_setr]
          refine R_aload_n fX8_begins_80 rfl ?_
          refine R_getP 0 fX8_begins_81 hM.1 (by omega) rfl rfl rfl hM.2.2.2.2.2.2.2.2.1 ?_
          refine R_bipush fX8_begins_84 ?_
          refine R_bipush fX8_begins_86 ?_
          refine R_iload_n fX8_begins_88 rfl ?_
          refine R_imul fX8_begins_89 (by omega) ?_
          refine R_iadd fX8_begins_90 (by omega) ?_
          refine R_iconst fX8_begins_91 ?_
          refine R_iadd fX8_begins_92 (by omega) ?_
          refine R_iconst fX8_begins_93 ?_
          refine R_iastore fX8_begins_94 hM.2.1 (by omega) (by omega) ?_
          rw [stt_setr]
          refine R_iinc fX8_begins_95 rfl (by omega) ?_
          refine R_goto fX8_begins_98 rfl ?_
          have e : up (up g (126 + 6 * i + 0) 0) (126 + 6 * i + 2) (-1) = (fun j => if 126 ≤ j ∧ j < 126 + 6 * (i + 1) ∧ (j - 126) % 6 = 0 then (if (j - 126) / 6 < n then c else 0) else if 126 ≤ j ∧ j < 126 + 6 * (i + 1) ∧ (j - 126) % 6 = 2 then -1 else up (fun j => if 0 ≤ j ∧ j < 2087 then (if 26 ≤ j ∧ j ≤ 28 then s j else 0) else s j) 0 n j) := by
            rw [← hg]
            funext j
            unfold up
            dsimp only
            have hV : j = 126 + 6 * i + 0 → (if (j - 126) / 6 < n then c else 0) = 0 := fun z => by rw [if_neg (by omega)]
            generalize (if (j - 126) / 6 < n then c else 0) = w at hV ⊢
            by_cases z1 : j = 126 + 6 * i + 2
            · rw [if_pos z1, if_neg (by omega), if_pos (by omega)]
            · rw [if_neg z1]
              by_cases z2 : j = 126 + 6 * i + 0
              · rw [if_pos z2, if_pos (by omega), hV z2]
              · rw [if_neg z2]
                by_cases z3 : 126 ≤ j ∧ j < 126 + 6 * i ∧ (j - 126) % 6 = 0
                · rw [if_pos z3, if_pos (by omega)]
                · rw [if_neg z3, if_neg (show ¬ (126 ≤ j ∧ j < 126 + 6 * (i + 1) ∧ (j - 126) % 6 = 0) by omega)]
                  by_cases z4 : 126 ≤ j ∧ j < 126 + 6 * i ∧ (j - 126) % 6 = 2
                  · rw [if_pos z4, if_pos (by omega)]
                  · rw [if_neg z4, if_neg (show ¬ (126 ≤ j ∧ j < 126 + 6 * (i + 1) ∧ (j - 126) % 6 = 2) by omega)]
          rw [e]
          exact ih (i + 1) (by omega) (by omega) (by omega)
        · refine R_iload_n fX8_begins_74 rfl ?_
          refine R_goto fX8_begins_75 rfl ?_
          refine R_iastore fX8_begins_79 hM.2.1 (by omega) (by omega) ?_
          rw [stt_setr]
          refine R_aload_n fX8_begins_80 rfl ?_
          refine R_getP 0 fX8_begins_81 hM.1 (by omega) rfl rfl rfl hM.2.2.2.2.2.2.2.2.1 ?_
          refine R_bipush fX8_begins_84 ?_
          refine R_bipush fX8_begins_86 ?_
          refine R_iload_n fX8_begins_88 rfl ?_
          refine R_imul fX8_begins_89 (by omega) ?_
          refine R_iadd fX8_begins_90 (by omega) ?_
          refine R_iconst fX8_begins_91 ?_
          refine R_iadd fX8_begins_92 (by omega) ?_
          refine R_iconst fX8_begins_93 ?_
          refine R_iastore fX8_begins_94 hM.2.1 (by omega) (by omega) ?_
          rw [stt_setr]
          refine R_iinc fX8_begins_95 rfl (by omega) ?_
          refine R_goto fX8_begins_98 rfl ?_
          have e : up (up g (126 + 6 * i + 0) c) (126 + 6 * i + 2) (-1) = (fun j => if 126 ≤ j ∧ j < 126 + 6 * (i + 1) ∧ (j - 126) % 6 = 0 then (if (j - 126) / 6 < n then c else 0) else if 126 ≤ j ∧ j < 126 + 6 * (i + 1) ∧ (j - 126) % 6 = 2 then -1 else up (fun j => if 0 ≤ j ∧ j < 2087 then (if 26 ≤ j ∧ j ≤ 28 then s j else 0) else s j) 0 n j) := by
            rw [← hg]
            funext j
            unfold up
            dsimp only
            have hV : j = 126 + 6 * i + 0 → (if (j - 126) / 6 < n then c else 0) = c := fun z => by rw [if_pos (by omega)]
            generalize (if (j - 126) / 6 < n then c else 0) = w at hV ⊢
            by_cases z1 : j = 126 + 6 * i + 2
            · rw [if_pos z1, if_neg (by omega), if_pos (by omega)]
            · rw [if_neg z1]
              by_cases z2 : j = 126 + 6 * i + 0
              · rw [if_pos z2, if_pos (by omega), hV z2]
              · rw [if_neg z2]
                by_cases z3 : 126 ≤ j ∧ j < 126 + 6 * i ∧ (j - 126) % 6 = 0
                · rw [if_pos z3, if_pos (by omega)]
                · rw [if_neg z3, if_neg (show ¬ (126 ≤ j ∧ j < 126 + 6 * (i + 1) ∧ (j - 126) % 6 = 0) by omega)]
                  by_cases z4 : 126 ≤ j ∧ j < 126 + 6 * i ∧ (j - 126) % 6 = 2
                  · rw [if_pos z4, if_pos (by omega)]
                  · rw [if_neg z4, if_neg (show ¬ (126 ≤ j ∧ j < 126 + 6 * (i + 1) ∧ (j - 126) % 6 = 2) by omega)]
          rw [e]
          exact ih (i + 1) (by omega) (by omega) (by omega)
  have lp1 : ∀ (N : Nat) (i : Int), 0 ≤ i → i ≤ 2087 → 2087 - i < N → Rn (d - 1) mX8_begins 2 [some (.inr (some 128)), some (.inl n), some (.inl c), some (.inl i)] [] kd (setr F 129 (fun j => if 0 ≤ j ∧ j < i then (if 26 ≤ j ∧ j ≤ 28 then s j else 0) else s j)) P (QN kd P (fun F' => F' = setr F 129 (beginS s n c))) := by
    intro N
    induction N with
    | zero => intro i h1 h2 h4; omega
    | succ N ih =>
      intro i h1 h2 h4
      generalize hg : (fun j => if 0 ≤ j ∧ j < i then (if 26 ≤ j ∧ j ≤ 28 then s j else 0) else s j) = g
      refine R_iload_n fX8_begins_2 rfl ?_
      refine R_sipush fX8_begins_3 ?_
      refine R_icmp_ge fX8_begins_6 rfl (fun h6 => ?_) (fun h6 => ?_)
      · have hi : i = 2087 := by omega
        subst hi
        rw [← hg]
        refine R_aload_n fX8_begins_42 rfl ?_
        refine R_getP 0 fX8_begins_43 hM.1 (by omega) rfl rfl rfl hM.2.2.2.2.2.2.2.2.1 ?_
        refine R_iconst fX8_begins_46 ?_
        refine R_iload_n fX8_begins_47 rfl ?_
        refine R_iastore fX8_begins_48 hM.2.1 (by omega) (by omega) ?_
        rw [stt_setr]
        refine R_iconst fX8_begins_49 ?_
        refine R_istore_n fX8_begins_50 rfl ?_
        have e : up (fun j => if 0 ≤ j ∧ j < 2087 then (if 26 ≤ j ∧ j ≤ 28 then s j else 0) else s j) 0 n = (fun j => if 126 ≤ j ∧ j < 126 + 6 * (0) ∧ (j - 126) % 6 = 0 then (if (j - 126) / 6 < n then c else 0) else if 126 ≤ j ∧ j < 126 + 6 * (0) ∧ (j - 126) % 6 = 2 then -1 else up (fun j => if 0 ≤ j ∧ j < 2087 then (if 26 ≤ j ∧ j ≤ 28 then s j else 0) else s j) 0 n j) := by
          funext j
          rw [if_neg (by omega), if_neg (by omega)]
        have h := lp2 5 0 (by omega) (by omega) (by omega)
        rw [← e] at h
        exact h
      · refine R_aload_n fX8_begins_9 rfl ?_
        refine R_getP 0 fX8_begins_10 hM.1 (by omega) rfl rfl rfl hM.2.2.2.2.2.2.2.2.1 ?_
        refine R_iload_n fX8_begins_13 rfl ?_
        refine R_iload_n fX8_begins_14 rfl ?_
        refine R_bipush fX8_begins_15 ?_
        refine R_bipush fX8_begins_17 ?_
        refine R_callE fX8_begins_19 rfl rfl pX8_in rfl ⟨Nat.le_of_ble_eq_true rfl, rfl⟩ (sp_min (by omega)) ?_
        refine R_if_eq fX8_begins_22 rfl (fun h22 => ?_) (fun h22 => ?_)
        · refine R_iconst fX8_begins_34 ?_
          refine R_iastore fX8_begins_35 hM.2.1 (by omega) (by omega) ?_
          rw [stt_setr]
          refine R_iinc fX8_begins_36 rfl (by omega) ?_
          refine R_goto fX8_begins_39 rfl ?_
          have hno : ¬ (26 ≤ i ∧ i ≤ 28) := fun z => by rw [if_pos z] at h22; omega
          have e : up g i 0 = (fun j => if 0 ≤ j ∧ j < i + 1 then (if 26 ≤ j ∧ j ≤ 28 then s j else 0) else s j) := by
            rw [← hg]
            funext j
            unfold up
            try dsimp only
            by_cases z1 : j = i
            · rw [if_pos z1, if_pos (by omega)]
              rw [if_neg (by omega)]
            · rw [if_neg z1]
              by_cases z2 : 0 ≤ j ∧ j < i
              · rw [if_pos z2, if_pos (show 0 ≤ j ∧ j < i + 1 by omega)]
              · rw [if_neg z2, if_neg (show ¬ (0 ≤ j ∧ j < i + 1) by omega)]
          rw [e]
          exact ih (i + 1) (by omega) (by omega) (by omega)
        · refine R_aload_n fX8_begins_25 rfl ?_
          refine R_getP 0 fX8_begins_26 hM.1 (by omega) rfl rfl rfl hM.2.2.2.2.2.2.2.2.1 ?_
          refine R_iload_n fX8_begins_29 rfl ?_
          refine R_iaload fX8_begins_30 hM.2.1 (by omega) ?_
          rw [setr_eq]
          refine R_goto fX8_begins_31 rfl ?_
          refine R_iastore fX8_begins_35 hM.2.1 (by omega) (by omega) ?_
          rw [stt_setr]
          refine R_iinc fX8_begins_36 rfl (by omega) ?_
          refine R_goto fX8_begins_39 rfl ?_
          have hye : 26 ≤ i ∧ i ≤ 28 := by
            by_cases z : 26 ≤ i ∧ i ≤ 28
            · exact z
            · rw [if_neg z] at h22; omega
          have e : up g i (g i) = (fun j => if 0 ≤ j ∧ j < i + 1 then (if 26 ≤ j ∧ j ≤ 28 then s j else 0) else s j) := by
            funext j
            unfold up
            try dsimp only
            by_cases z1 : j = i
            · rw [if_pos z1, if_pos (by omega)]
              rw [show g i = s i by rw [← hg]; exact if_neg (by omega), z1, if_pos hye]
            · rw [if_neg z1, ← hg]
              try dsimp only
              by_cases z2 : 0 ≤ j ∧ j < i
              · rw [if_pos z2, if_pos (show 0 ≤ j ∧ j < i + 1 by omega)]
              · rw [if_neg z2, if_neg (show ¬ (0 ≤ j ∧ j < i + 1) by omega)]
          rw [e]
          exact ih (i + 1) (by omega) (by omega) (by omega)
  refine R_iconst fX8_begins_0 ?_
  refine R_istore_n fX8_begins_1 rfl ?_
  have e : (fun j => if 0 ≤ j ∧ j < 0 then (if 26 ≤ j ∧ j ≤ 28 then s j else 0) else s j) = s := by
    funext j
    rw [if_neg (by omega)]
  have h := lp1 2100 0 (by omega) (by omega) (by omega)
  rw [e] at h
  exact h
