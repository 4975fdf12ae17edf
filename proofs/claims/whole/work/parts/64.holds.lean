def LOf (F F' : FM) : Prop := (∀ j, (j < 10 ∨ 16 < j) → F' 128 j = F 128 j) ∧ ∀ k, k ≠ 128 → F' k = F k
theorem sp_mlooks {d : Nat} {kd : KL} {F : FM} {P : PM} {s : Int → Int} {p e : Int} (hd : 5 ≤ d) (hM : shM kd P) (h126 : F 129 = s) (hw : WF s) (h4 : 1 ≤ s 4) (hp : p = 0 ∨ p = 1) (he : e = 1 ∨ e = 2) : Sp d 121 [.inr (some 128), .inl p, .inl e] kd F P (QV kd P (fun r F' => r = 1 ∧ F' 128 16 = s (126 + 6 * p + 1) - s (126 + 6 * (1 - p) + 1) + mxP (hT s p e) (s (126 + 6 * p) + 1).toNat ∧ F' 128 15 = abP (hT s p e) (s (126 + 6 * p) + 1).toNat ∧ LOf F F')) := by
  refine Sp_of (me := mX8_looks) (by omega) pX8_looks ⟨rfl, Nat.le_of_ble_eq_true rfl⟩ ?_
  have hst := stake_b hw h4
  have hpo := hw.2.2.2.1 p (by omega) (by omega)
  have hpt := hw.2.2.2.1 (1 - p) (by omega) (by omega)
  have h2 := hw.2.2.2.2.2.2.2.2.2.2.2.1
  have hq1 := hw.2.2.2.2.2.2.2.2.2.2.2.2.1 p (by omega) (by omega)
  have hq2 := hw.2.2.2.2.2.2.2.2.2.2.2.2.1 (1 - p) (by omega) (by omega)
  have hpot : 0 ≤ s 1 ∧ s 1 ≤ 120 := by
    have h4 := sg_bound (f := fun p => s (126 + 6 * p)) (a := 0) (b := 120) (n := (s 0).toNat) (fun i h0 h1 => ⟨(hw.2.2.2.1 i h0 (by have := hw.1; omega)).1, (hw.2.2.2.1 i h0 (by have := hw.1; omega)).2.1⟩)
    have h5 := hw.2.2.1
    have h0 := hw.1
    omega
  have hon : 0 ≤ s 25 ∧ s 25 ≤ 20 := by have := hw.2.1; omega
  have htl := hw.2.2.2.2.2.2.1
  have htb := tabS_b hw
  have hai := (abP_in (h := hT s p e) (n := (s (126 + 6 * p) + 1).toNat)).1
  refine R_aload_n fX8_looks_0 rfl ?_
  refine R_iload_n fX8_looks_1 rfl ?_
  refine R_iconst fX8_looks_2 ?_
  rw [setr_me h126]
  refine R_callE fX8_looks_3 rfl rfl pX8_of rfl ⟨Nat.le_of_ble_eq_true rfl, rcv_v rfl (by omega) hM.1⟩ (sp_mof (by omega) hM (by omega) (by omega)) ?_
  rw [← setr_me h126]
  rw [Int.add_zero]
  refine R_istore_n fX8_looks_6 rfl ?_
  refine R_aload_n fX8_looks_7 rfl ?_
  refine R_iconst fX8_looks_8 ?_
  refine R_iload_n fX8_looks_9 rfl ?_
  refine R_isub fX8_looks_10 (by omega) ?_
  refine R_iconst fX8_looks_11 ?_
  rw [setr_me h126]
  refine R_callE fX8_looks_12 rfl rfl pX8_of rfl ⟨Nat.le_of_ble_eq_true rfl, rcv_v rfl (by omega) hM.1⟩ (sp_mof (by omega) hM (by omega) (by omega)) ?_
  rw [← setr_me h126]
  rw [Int.add_zero]
  refine R_istore fX8_looks_15 rfl ?_
  refine R_aload_n fX8_looks_17 rfl ?_
  refine R_iload_n fX8_looks_18 rfl ?_
  refine R_iconst fX8_looks_19 ?_
  rw [setr_me h126]
  refine R_callE fX8_looks_20 rfl rfl pX8_of rfl ⟨Nat.le_of_ble_eq_true rfl, rcv_v rfl (by omega) hM.1⟩ (sp_mof (by omega) hM (by omega) (by omega)) ?_
  rw [← setr_me h126]
  refine R_aload_n fX8_looks_23 rfl ?_
  refine R_iconst fX8_looks_24 ?_
  refine R_iload_n fX8_looks_25 rfl ?_
  refine R_isub fX8_looks_26 (by omega) ?_
  refine R_iconst fX8_looks_27 ?_
  rw [setr_me h126]
  refine R_callE fX8_looks_28 rfl rfl pX8_of rfl ⟨Nat.le_of_ble_eq_true rfl, rcv_v rfl (by omega) hM.1⟩ (sp_mof (by omega) hM (by omega) (by omega)) ?_
  rw [← setr_me h126]
  refine R_isub fX8_looks_31 (by omega) ?_
  refine R_istore fX8_looks_32 rfl ?_
  refine R_aload_n fX8_looks_34 rfl ?_
  refine R_iload_n fX8_looks_35 rfl ?_
  refine R_iconst fX8_looks_36 ?_
  refine R_icmp_ne fX8_looks_37 rfl (fun h37 => ?_) (fun h37 => ?_)
  · refine R_aload_n fX8_looks_63 rfl ?_
    refine R_iload_n fX8_looks_64 rfl ?_
    refine R_iload fX8_looks_65 rfl ?_
    refine R_iload fX8_looks_67 rfl ?_
    have he2 : e = 2 := by omega
    subst he2
    refine R_callV fX8_looks_69 rfl rfl pX8_holdsTwo rfl ⟨Nat.le_of_ble_eq_true rfl, rcv_v rfl (by omega) hM.1⟩ (sp_mholdsTwo (by omega) hM h126 hw h4 hp rfl rfl (by omega)) (fun r F1 q => ?_)
    obtain ⟨q4, q5, q6⟩ := q
    refine R_putI 16 fX8_looks_72 hM.1 (by omega) rfl rfl rfl ?_
    refine R_aload_n fX8_looks_75 rfl ?_
    refine R_getI 15 fX8_looks_76 hM.1 (by omega) rfl rfl rfl ?_
    rw [stt_j _ _ (by omega), q5]
    refine R_if_lt fX8_looks_79 rfl (fun h79 => absurd h79 (by omega)) (fun h79 => ?_)
    refine R_iconst fX8_looks_82 ?_
    refine R_goto fX8_looks_83 rfl ?_
    refine R_zreturn fX8_looks_87 rfl (by simp) ?_
    refine ⟨_, _, rfl, rfl, by rw [stt_eq]; exact q4, by rw [stt_j _ _ (by omega)]; exact q5, fun j hj => ?_, fun k hk => ?_⟩
    · rw [stt_j _ _ (by omega)]; exact q6.1 j (by omega)
    · rw [stt_kr _ _ _ hk]; exact q6.2 k hk
  · refine R_aload_n fX8_looks_40 rfl ?_
    refine R_iload_n fX8_looks_41 rfl ?_
    refine R_iload fX8_looks_42 rfl ?_
    refine R_iload fX8_looks_44 rfl ?_
    refine R_aload_n fX8_looks_46 rfl ?_
    refine R_getP 0 fX8_looks_47 hM.1 (by omega) rfl rfl rfl hM.2.2.2.2.2.2.2.2.1 ?_
    refine R_iconst fX8_looks_50 ?_
    refine R_iaload fX8_looks_51 hM.2.1 (by omega) ?_
    rw [h126]
    refine R_aload_n fX8_looks_52 rfl ?_
    rw [setr_me h126]
    refine R_callE fX8_looks_53 rfl rfl pX8_onTable rfl ⟨Nat.le_of_ble_eq_true rfl, rcv_v rfl (by omega) hM.1⟩ (sp_monTable (by omega) hM hon htl) ?_
    rw [← setr_me h126]
    refine R_iconst fX8_looks_56 ?_
    have he1 : e = 1 := by omega
    subst he1
    refine R_callV fX8_looks_57 rfl rfl pX8_holdsOne rfl ⟨Nat.le_of_ble_eq_true rfl, rcv_v rfl (by omega) hM.1⟩ (sp_mholdsOne (by omega) hM h126 hw (by omega) (by omega) (by omega) (by omega) (by omega) (by omega)) (fun r F1 q => ?_)
    obtain ⟨-, q2, q3⟩ := q
    obtain ⟨q4, q5⟩ := q2 (by omega)
    rw [show s (5 + 0) = s 5 from rfl, ← hT_hO] at q4 q5
    have q6 : HOf F F1 := q3
    clear q3
    refine R_goto fX8_looks_60 rfl ?_
    refine R_putI 16 fX8_looks_72 hM.1 (by omega) rfl rfl rfl ?_
    refine R_aload_n fX8_looks_75 rfl ?_
    refine R_getI 15 fX8_looks_76 hM.1 (by omega) rfl rfl rfl ?_
    rw [stt_j _ _ (by omega), q5]
    refine R_if_lt fX8_looks_79 rfl (fun h79 => absurd h79 (by omega)) (fun h79 => ?_)
    refine R_iconst fX8_looks_82 ?_
    refine R_goto fX8_looks_83 rfl ?_
    refine R_zreturn fX8_looks_87 rfl (by simp) ?_
    refine ⟨_, _, rfl, rfl, by rw [stt_eq]; exact q4, by rw [stt_j _ _ (by omega)]; exact q5, fun j hj => ?_, fun k hk => ?_⟩
    · rw [stt_j _ _ (by omega)]; exact q6.1 j (by omega)
    · rw [stt_kr _ _ _ hk]; exact q6.2 k hk
theorem sp_mholds {d : Nat} {kd : KL} {F : FM} {P : PM} {s : Int → Int} {p e : Int} (hd : 6 ≤ d) (hM : shM kd P) (h126 : F 129 = s) (hw : WF s) : Sp d 122 [.inr (some 128), .inl p, .inl e] kd F P (QV kd P (fun r F' => r = aHolds s p e ∧ LOf F F')) := by
  refine Sp_of (me := mX8_holds) (by omega) pX8_holds ⟨rfl, Nat.le_of_ble_eq_true rfl⟩ ?_
  have h0 := hw.1
  have hl4 := hw.2.1
  have h2 := hw.2.2.2.2.2.2.2.2.2.2.2.1
  have now : (0 ≤ p ∧ p < s 0) → (0 ≤ e ∧ e ≤ 2) → s 0 = 2 → (e = 0 ∨ s 4 = 0) → Rn (d - 1) mX8_holds 52 [some (.inr (some 128)), some (.inl p), some (.inl e), some (.inl 1)] [] kd F P (QV kd P (fun r F' => r = aHolds s p e ∧ LOf F F')) := by
    intro hpl hin hs0 hnow
    have hp : p = 0 ∨ p = 1 := by omega
    have hq1 := hw.2.2.2.2.2.2.2.2.2.2.2.2.1 p (by omega) (by omega)
    have hq2 := hw.2.2.2.2.2.2.2.2.2.2.2.2.1 (1 - p) (by omega) (by omega)
    refine R_iload_n fX8_holds_52 rfl ?_
    refine R_if_ne fX8_holds_53 rfl (fun h53 => ?_) (fun h53 => absurd h53 (by omega))
    refine R_aload_n fX8_holds_65 rfl ?_
    refine R_iload_n fX8_holds_66 rfl ?_
    refine R_iconst fX8_holds_67 ?_
    rw [setr_me h126]
    refine R_callE fX8_holds_68 rfl rfl pX8_of rfl ⟨Nat.le_of_ble_eq_true rfl, rcv_v rfl (by omega) hM.1⟩ (sp_mof (by omega) hM (by omega) (by omega)) ?_
    rw [← setr_me h126]
    refine R_aload_n fX8_holds_71 rfl ?_
    refine R_iconst fX8_holds_72 ?_
    refine R_iload_n fX8_holds_73 rfl ?_
    refine R_isub fX8_holds_74 (by omega) ?_
    refine R_iconst fX8_holds_75 ?_
    rw [setr_me h126]
    refine R_callE fX8_holds_76 rfl rfl pX8_of rfl ⟨Nat.le_of_ble_eq_true rfl, rcv_v rfl (by omega) hM.1⟩ (sp_mof (by omega) hM (by omega) (by omega)) ?_
    rw [← setr_me h126]
    refine R_isub fX8_holds_79 (by omega) ?_
    refine R_goto fX8_holds_80 rfl ?_
    refine R_ireturn fX8_holds_87 rfl ?_
    have ha : aHolds s p e = s (126 + 6 * p + 1) - s (126 + 6 * (1 - p) + 1) := by unfold aHolds; rw [if_neg (by omega), if_neg (by omega), if_pos hnow]
    exact ⟨_, _, rfl, ha.symm, fun _ _ => rfl, fun _ _ => rfl⟩
  have later : (0 ≤ p ∧ p < s 0) → (0 ≤ e ∧ e ≤ 2) → s 0 = 2 → ¬ (e = 0 ∨ s 4 = 0) → Rn (d - 1) mX8_holds 52 [some (.inr (some 128)), some (.inl p), some (.inl e), some (.inl 0)] [] kd F P (QV kd P (fun r F' => r = aHolds s p e ∧ LOf F F')) := by
    intro hpl hin hs0 hnow
    have hp : p = 0 ∨ p = 1 := by omega
    refine R_iload_n fX8_holds_52 rfl ?_
    refine R_if_ne fX8_holds_53 rfl (fun h53 => absurd h53 (by omega)) (fun h53 => ?_)
    refine R_aload_n fX8_holds_56 rfl ?_
    refine R_iload_n fX8_holds_57 rfl ?_
    refine R_iload_n fX8_holds_58 rfl ?_
    refine R_callV fX8_holds_59 rfl rfl pX8_looks rfl ⟨Nat.le_of_ble_eq_true rfl, rcv_v rfl (by omega) hM.1⟩ (sp_mlooks (by omega) hM h126 hw (by omega) hp (by omega)) (fun r F1 q => ?_)
    obtain ⟨q1, q2, q3, q4⟩ := q
    refine R_if_ne fX8_holds_62 rfl (fun h62 => ?_) (fun h62 => absurd h62 (by omega))
    refine R_aload_n fX8_holds_83 rfl ?_
    refine R_getI 16 fX8_holds_84 hM.1 (by omega) rfl rfl rfl ?_
    rw [q2]
    refine R_ireturn fX8_holds_87 rfl ?_
    refine ⟨_, _, rfl, ?_, q4⟩
    unfold aHolds
    rw [if_neg (by omega), if_neg (by omega), if_neg hnow]
  refine R_aload_n fX8_holds_0 rfl ?_
  refine R_iload_n fX8_holds_1 rfl ?_
  rw [setr_me h126]
  refine R_callE fX8_holds_2 rfl rfl pX8_isPlayer rfl ⟨Nat.le_of_ble_eq_true rfl, rcv_v rfl (by omega) hM.1⟩ (sp_misPlayer (by omega) hM) ?_
  rw [← setr_me h126]
  refine R_if_eq fX8_holds_5 rfl (fun h5 => ?_) (fun h5 => ?_)
  · refine R_ldc fX8_holds_17 ?_
    refine R_ireturn fX8_holds_19 rfl ?_
    have hb : ¬ (0 ≤ p ∧ p < s 0) ∨ e < 0 ∨ 2 < e := by
      first
      | exact Or.inl (fun z => by rw [if_pos z] at h5; omega)
      | (refine Or.inr ?_
         by_cases z : 0 ≤ e ∧ e ≤ 2
         · rw [if_pos z] at h14; omega
         · omega)
    have ha : aHolds s p e = -1000001 := by unfold aHolds; rw [if_pos hb]
    exact ⟨_, _, rfl, ha.symm, fun _ _ => rfl, fun _ _ => rfl⟩
  · have hpl : 0 ≤ p ∧ p < s 0 := by
      by_cases z : 0 ≤ p ∧ p < s 0
      · exact z
      · rw [if_neg z] at h5; omega
    refine R_iload_n fX8_holds_8 rfl ?_
    refine R_iconst fX8_holds_9 ?_
    refine R_iconst fX8_holds_10 ?_
    refine R_callE fX8_holds_11 rfl rfl pX8_in rfl ⟨Nat.le_of_ble_eq_true rfl, rfl⟩ (sp_min (by omega)) ?_
    refine R_if_ne fX8_holds_14 rfl (fun h14 => ?_) (fun h14 => ?_)
    · have hin : 0 ≤ e ∧ e ≤ 2 := by
        by_cases z : 0 ≤ e ∧ e ≤ 2
        · exact z
        · rw [if_neg z] at h14; omega
      refine R_aload_n fX8_holds_20 rfl ?_
      refine R_getP 0 fX8_holds_21 hM.1 (by omega) rfl rfl rfl hM.2.2.2.2.2.2.2.2.1 ?_
      refine R_iconst fX8_holds_24 ?_
      refine R_iaload fX8_holds_25 hM.2.1 (by omega) ?_
      rw [h126]
      refine R_iconst fX8_holds_26 ?_
      refine R_icmp_le fX8_holds_27 rfl (fun h27 => ?_) (fun h27 => ?_)
      · have hs0 : s 0 = 2 := by omega
        have hp : p = 0 ∨ p = 1 := by omega
        have hq1 := hw.2.2.2.2.2.2.2.2.2.2.2.2.1 p (by omega) (by omega)
        have hq2 := hw.2.2.2.2.2.2.2.2.2.2.2.2.1 (1 - p) (by omega) (by omega)
        refine R_iload_n fX8_holds_33 rfl ?_
        refine R_if_eq fX8_holds_34 rfl (fun h34 => ?_) (fun h34 => ?_)
        · refine R_iconst fX8_holds_46 ?_
          refine R_goto fX8_holds_47 rfl ?_
          refine R_istore_n fX8_holds_51 rfl ?_
          (first | exact now hpl hin hs0 (by omega) | exact later hpl hin hs0 (by omega))
        · refine R_aload_n fX8_holds_37 rfl ?_
          refine R_getP 0 fX8_holds_38 hM.1 (by omega) rfl rfl rfl hM.2.2.2.2.2.2.2.2.1 ?_
          refine R_iconst fX8_holds_41 ?_
          refine R_iaload fX8_holds_42 hM.2.1 (by omega) ?_
          rw [h126]
          refine R_if_ne fX8_holds_43 rfl (fun h43 => ?_) (fun h43 => ?_)
          · refine R_iconst fX8_holds_50 ?_
            refine R_istore_n fX8_holds_51 rfl ?_
            (first | exact now hpl hin hs0 (by omega) | exact later hpl hin hs0 (by omega))
          · refine R_iconst fX8_holds_46 ?_
            refine R_goto fX8_holds_47 rfl ?_
            refine R_istore_n fX8_holds_51 rfl ?_
            (first | exact now hpl hin hs0 (by omega) | exact later hpl hin hs0 (by omega))
      · refine R_ldc fX8_holds_30 ?_
        refine R_ireturn fX8_holds_32 rfl ?_
        have ha : aHolds s p e = -1000002 := by unfold aHolds; rw [if_neg (by omega), if_pos (by omega)]
        exact ⟨_, _, rfl, ha.symm, fun _ _ => rfl, fun _ _ => rfl⟩
    · refine R_ldc fX8_holds_17 ?_
      refine R_ireturn fX8_holds_19 rfl ?_
      have hb : ¬ (0 ≤ p ∧ p < s 0) ∨ e < 0 ∨ 2 < e := by
        first
        | exact Or.inl (fun z => by rw [if_pos z] at h5; omega)
        | (refine Or.inr ?_
           by_cases z : 0 ≤ e ∧ e ≤ 2
           · rw [if_pos z] at h14; omega
           · omega)
      have ha : aHolds s p e = -1000001 := by unfold aHolds; rw [if_pos hb]
      exact ⟨_, _, rfl, ha.symm, fun _ _ => rfl, fun _ _ => rfl⟩
theorem sp_mholding {d : Nat} {kd : KL} {F : FM} {P : PM} {s : Int → Int} {p e : Int} (hd : 6 ≤ d) (hM : shM kd P) (h126 : F 129 = s) (hw : WF s) : Sp d 123 [.inr (some 128), .inl p, .inl e] kd F P (QV kd P (fun r F' => r = aHolding s p e ∧ LOf F F')) := by
  refine Sp_of (me := mX8_holding) (by omega) pX8_holding ⟨rfl, Nat.le_of_ble_eq_true rfl⟩ ?_
  have h0 := hw.1
  have hl4 := hw.2.1
  refine R_aload_n fX8_holding_0 rfl ?_
  refine R_iload_n fX8_holding_1 rfl ?_
  rw [setr_me h126]
  refine R_callE fX8_holding_2 rfl rfl pX8_isPlayer rfl ⟨Nat.le_of_ble_eq_true rfl, rcv_v rfl (by omega) hM.1⟩ (sp_misPlayer (by omega) hM) ?_
  rw [← setr_me h126]
  refine R_if_eq fX8_holding_5 rfl (fun h5 => ?_) (fun h5 => ?_)
  · refine R_ldc fX8_holding_17 ?_
    refine R_ireturn fX8_holding_19 rfl ?_
    have hb : ¬ (0 ≤ p ∧ p < s 0) ∨ e < 1 ∨ 2 < e := by
      first
      | exact Or.inl (fun z => by rw [if_pos z] at h5; omega)
      | (refine Or.inr ?_
         by_cases z : 1 ≤ e ∧ e ≤ 2
         · rw [if_pos z] at h14; omega
         · omega)
    have ha : aHolding s p e = -1000001 := by unfold aHolding; rw [if_pos hb]
    exact ⟨_, _, rfl, ha.symm, fun _ _ => rfl, fun _ _ => rfl⟩
  · have hpl : 0 ≤ p ∧ p < s 0 := by
      by_cases z : 0 ≤ p ∧ p < s 0
      · exact z
      · rw [if_neg z] at h5; omega
    refine R_iload_n fX8_holding_8 rfl ?_
    refine R_iconst fX8_holding_9 ?_
    refine R_iconst fX8_holding_10 ?_
    refine R_callE fX8_holding_11 rfl rfl pX8_in rfl ⟨Nat.le_of_ble_eq_true rfl, rfl⟩ (sp_min (by omega)) ?_
    refine R_if_ne fX8_holding_14 rfl (fun h14 => ?_) (fun h14 => ?_)
    · have hin : 1 ≤ e ∧ e ≤ 2 := by
        by_cases z : 1 ≤ e ∧ e ≤ 2
        · exact z
        · rw [if_neg z] at h14; omega
      refine R_aload_n fX8_holding_20 rfl ?_
      refine R_getP 0 fX8_holding_21 hM.1 (by omega) rfl rfl rfl hM.2.2.2.2.2.2.2.2.1 ?_
      refine R_iconst fX8_holding_24 ?_
      refine R_iaload fX8_holding_25 hM.2.1 (by omega) ?_
      rw [h126]
      refine R_iconst fX8_holding_26 ?_
      refine R_icmp_gt fX8_holding_27 rfl (fun h27 => ?_) (fun h27 => ?_)
      · refine R_ldc fX8_holding_39 ?_
        refine R_ireturn fX8_holding_41 rfl ?_
        have ha : aHolding s p e = -1000002 := by unfold aHolding; rw [if_neg (by omega), if_pos (by omega)]
        exact ⟨_, _, rfl, ha.symm, fun _ _ => rfl, fun _ _ => rfl⟩
      · refine R_aload_n fX8_holding_30 rfl ?_
        refine R_getP 0 fX8_holding_31 hM.1 (by omega) rfl rfl rfl hM.2.2.2.2.2.2.2.2.1 ?_
        refine R_iconst fX8_holding_34 ?_
        refine R_iaload fX8_holding_35 hM.2.1 (by omega) ?_
        rw [h126]
        refine R_if_ne fX8_holding_36 rfl (fun h36 => ?_) (fun h36 => ?_)
        · refine R_aload_n fX8_holding_42 rfl ?_
          refine R_iload_n fX8_holding_43 rfl ?_
          refine R_iload_n fX8_holding_44 rfl ?_
          refine R_callV fX8_holding_45 rfl rfl pX8_looks rfl ⟨Nat.le_of_ble_eq_true rfl, rcv_v rfl (by omega) hM.1⟩ (sp_mlooks (by omega) hM h126 hw (by omega) (by omega) (by omega)) (fun r F1 q => ?_)
          obtain ⟨q1, q2, q3, q4⟩ := q
          refine R_if_eq fX8_holding_48 rfl (fun h48 => absurd h48 (by omega)) (fun h48 => ?_)
          refine R_aload_n fX8_holding_51 rfl ?_
          refine R_getI 15 fX8_holding_52 hM.1 (by omega) rfl rfl rfl ?_
          rw [q3]
          refine R_goto fX8_holding_55 rfl ?_
          refine R_ireturn fX8_holding_60 rfl ?_
          refine ⟨_, _, rfl, ?_, q4⟩
          unfold aHolding
          rw [if_neg (by omega), if_neg (by omega)]
        · refine R_ldc fX8_holding_39 ?_
          refine R_ireturn fX8_holding_41 rfl ?_
          have ha : aHolding s p e = -1000002 := by unfold aHolding; rw [if_neg (by omega), if_pos (by omega)]
          exact ⟨_, _, rfl, ha.symm, fun _ _ => rfl, fun _ _ => rfl⟩
    · refine R_ldc fX8_holding_17 ?_
      refine R_ireturn fX8_holding_19 rfl ?_
      have hb : ¬ (0 ≤ p ∧ p < s 0) ∨ e < 1 ∨ 2 < e := by
        first
        | exact Or.inl (fun z => by rw [if_pos z] at h5; omega)
        | (refine Or.inr ?_
           by_cases z : 1 ≤ e ∧ e ≤ 2
           · rw [if_pos z] at h14; omega
           · omega)
      have ha : aHolding s p e = -1000001 := by unfold aHolding; rw [if_pos hb]
      exact ⟨_, _, rfl, ha.symm, fun _ _ => rfl, fun _ _ => rfl⟩
theorem sp_rholds {d : Nat} {kd : KL} {F : FM} {P : PM} {s : Int → Int} {m : Int} {σ : Int → Int → Int} {hs : Int} {sn : Int → Int} {n : Int} {c : Int → Int} {p e : Int} (hd : 6 ≤ d) (hM : shM kd P) (hW : RWl F s m σ hs sn n c) (hA : AW s m σ hs sn n)  : Sp d 122 [.inr (some 128), .inl p, .inl e] kd F P (QV kd P (fun r F' => r = aHolds s p e ∧ RWl F' s m σ hs sn n c ∧ ∀ k, k < 128 → F' k = F k)) := by
  obtain ⟨r1, r2, r3, r4, r5, r6, r7, r8, z1, z2, z3, z4⟩ := id hW
  refine (sp_mholds (p := p) (e := e) hd hM r1 hA.1).mono (fun rs q => ?_)
  obtain ⟨r, F', e', q1, q2⟩ := q
  exact ⟨r, F', e', q1, RW_fr hW (q2.1 5 (by omega)) (q2.1 6 (by omega)) (q2.1 9 (by omega)) (by rw [q2.1 7 (by omega)]; exact r8) (q2.2 130 (by omega)) (q2.2 133 (by omega)) (q2.2 134 (by omega)) (by rw [q2.2 129 (by omega)]; exact r1) (by rw [← r1]; exact z1) (by rw [q2.2 131 (by omega)]; exact z2) (by rw [q2.2 132 (by omega)]; exact z3), fun k hk => q2.2 k (by omega)⟩
theorem sp_rholding {d : Nat} {kd : KL} {F : FM} {P : PM} {s : Int → Int} {m : Int} {σ : Int → Int → Int} {hs : Int} {sn : Int → Int} {n : Int} {c : Int → Int} {p e : Int} (hd : 6 ≤ d) (hM : shM kd P) (hW : RWl F s m σ hs sn n c) (hA : AW s m σ hs sn n)  : Sp d 123 [.inr (some 128), .inl p, .inl e] kd F P (QV kd P (fun r F' => r = aHolding s p e ∧ RWl F' s m σ hs sn n c ∧ ∀ k, k < 128 → F' k = F k)) := by
  obtain ⟨r1, r2, r3, r4, r5, r6, r7, r8, z1, z2, z3, z4⟩ := id hW
  refine (sp_mholding (p := p) (e := e) hd hM r1 hA.1).mono (fun rs q => ?_)
  obtain ⟨r, F', e', q1, q2⟩ := q
  exact ⟨r, F', e', q1, RW_fr hW (q2.1 5 (by omega)) (q2.1 6 (by omega)) (q2.1 9 (by omega)) (by rw [q2.1 7 (by omega)]; exact r8) (q2.2 130 (by omega)) (q2.2 133 (by omega)) (q2.2 134 (by omega)) (by rw [q2.2 129 (by omega)]; exact r1) (by rw [← r1]; exact z1) (by rw [q2.2 131 (by omega)]; exact z2) (by rw [q2.2 132 (by omega)]; exact z3), fun k hk => q2.2 k (by omega)⟩
