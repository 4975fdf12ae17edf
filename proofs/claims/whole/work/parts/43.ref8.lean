theorem sp_mset {d : Nat} {kd : KL} {F : FM} {P : PM} {s : Int → Int} {Pc : FM → Prop} {w v : Int} (hd : 3 ≤ d) (hM : shM kd P) (hw : WF s) (hch : Sp (d - 1) 90 [.inr (some 128)] kd (setr F 129 s) P (QN kd P Pc)) (hPc : ∀ F1, Pc F1 → F1 129 = s)  : Sp d 108 [.inr (some 128), .inl w, .inl v] kd (setr F 129 s) P (QV kd P (fun r F' => r = aSet s w v ∧ (if aSet s w v ≤ -1000001 then F' = setr F 129 s else ∃ F1, Pc F1 ∧ F' = setr F1 129 (tSet s w v)))) := by
  refine Sp_of (me := mX8_set) (by omega) pX8_set ⟨rfl, Nat.le_of_ble_eq_true rfl⟩ ?_
  obtain ⟨w0, w1, w2, w3, w4, w5, w6, w7, w8, w9, w10, w11, w12, w13⟩ := id hw
  refine R_iload_n fX8_set_0 rfl ?_
  refine R_iconst fX8_set_1 ?_
  refine R_iconst fX8_set_2 ?_
  refine R_callE fX8_set_3 rfl rfl pX8_in rfl ⟨Nat.le_of_ble_eq_true rfl, rfl⟩ (sp_min (by omega)) ?_
  refine R_if_eq fX8_set_6 rfl (fun h6 => ?_) (fun h6 => ?_)
  · refine R_ldc fX8_set_27 ?_
    refine R_ireturn fX8_set_29 rfl ?_
    have ha : aSet s w v = -1000001 := by
      unfold aSet
      by_cases z1 : w < 0 ∨ 2 < w
      · rw [if_pos z1]
      · rw [if_neg z1, if_pos]
        have z3 : 0 ≤ w ∧ w ≤ 2 := by omega
        rw [if_pos z3] at h6
        first
        | (exfalso; omega)
        | (by_cases z4 : 0 ≤ v ∧ v ≤ 5
           · rw [if_pos z4] at h24; exfalso; omega
           · rw [if_neg (by omega)]; omega)
        | (by_cases z4 : 0 ≤ v ∧ v ≤ 1
           · rw [if_pos z4] at h24; exfalso; omega
           · rw [if_pos (by omega)]; omega)
    exact ⟨_, _, rfl, ha.symm, by rw [if_pos (by omega)]⟩
  · refine R_iload_n fX8_set_9 rfl ?_
    refine R_iconst fX8_set_10 ?_
    refine R_iload_n fX8_set_11 rfl ?_
    refine R_iconst fX8_set_12 ?_
    refine R_icmp_ne fX8_set_13 rfl (fun h13 => ?_) (fun h13 => ?_)
    · refine R_iconst fX8_set_20 ?_
      refine R_callE fX8_set_21 rfl rfl pX8_in rfl ⟨Nat.le_of_ble_eq_true rfl, rfl⟩ (sp_min (by omega)) ?_
      refine R_if_ne fX8_set_24 rfl (fun h24 => ?_) (fun h24 => ?_)
      · have hww : 0 ≤ w ∧ w ≤ 2 := by
          by_cases z : 0 ≤ w ∧ w ≤ 2
          · exact z
          · rw [if_neg z] at h6; omega
        have hvv : 0 ≤ v ∧ v ≤ (if w = 2 then 1 else 5) := by
          first
          | (rw [if_neg (by omega)]
             by_cases z : 0 ≤ v ∧ v ≤ 5
             · exact z
             · rw [if_neg z] at h24; omega)
          | (rw [if_pos (by omega)]
             by_cases z : 0 ≤ v ∧ v ≤ 1
             · exact z
             · rw [if_neg z] at h24; omega)
        refine R_aload_n fX8_set_30 rfl ?_
        refine R_callN fX8_set_31 rfl rfl pX8_changes rfl ⟨Nat.le_of_ble_eq_true rfl, rcv_v rfl (by omega) hM.1⟩ (hch) (fun F1 q => ?_)
        have e1 := setr_me (hPc F1 q)
        rw [e1]
        refine R_aload_n fX8_set_34 rfl ?_
        refine R_getP 0 fX8_set_35 hM.1 (by omega) rfl rfl rfl hM.2.2.2.2.2.2.2.2.1 ?_
        refine R_bipush fX8_set_38 ?_
        refine R_iload_n fX8_set_40 rfl ?_
        refine R_iadd fX8_set_41 (by omega) ?_
        refine R_iaload fX8_set_42 hM.2.1 (by omega) ?_
        rw [setr_eq]
        refine R_istore_n fX8_set_43 rfl ?_
        refine R_aload_n fX8_set_44 rfl ?_
        refine R_getP 0 fX8_set_45 hM.1 (by omega) rfl rfl rfl hM.2.2.2.2.2.2.2.2.1 ?_
        refine R_bipush fX8_set_48 ?_
        refine R_iload_n fX8_set_50 rfl ?_
        refine R_iadd fX8_set_51 (by omega) ?_
        refine R_iload_n fX8_set_52 rfl ?_
        refine R_iastore fX8_set_53 hM.2.1 (by omega) (by omega) ?_
        rw [stt_setr]
        refine R_iload_n fX8_set_54 rfl ?_
        refine R_ireturn fX8_set_55 rfl ?_
        have ha : aSet s w v = s (26 + w) := by unfold aSet; rw [if_neg (by omega), if_neg (by omega)]
        have ht : tSet s w v = setS s w v := by unfold tSet; rw [if_neg (by omega), if_neg (by omega)]
        have hge : 0 ≤ s (26 + w) := by
          rcases (by omega : w = 0 ∨ w = 1 ∨ w = 2) with rfl | rfl | rfl
          · exact w4.1.1
          · exact w4.2.1.1
          · exact w4.2.2.1
        exact ⟨_, _, rfl, ha.symm, by rw [if_neg (by omega), ht]; exact ⟨F1, q, rfl⟩⟩
      · refine R_ldc fX8_set_27 ?_
        refine R_ireturn fX8_set_29 rfl ?_
        have ha : aSet s w v = -1000001 := by
          unfold aSet
          by_cases z1 : w < 0 ∨ 2 < w
          · rw [if_pos z1]
          · rw [if_neg z1, if_pos]
            have z3 : 0 ≤ w ∧ w ≤ 2 := by omega
            rw [if_pos z3] at h6
            first
            | (exfalso; omega)
            | (by_cases z4 : 0 ≤ v ∧ v ≤ 5
               · rw [if_pos z4] at h24; exfalso; omega
               · rw [if_neg (by omega)]; omega)
            | (by_cases z4 : 0 ≤ v ∧ v ≤ 1
               · rw [if_pos z4] at h24; exfalso; omega
               · rw [if_pos (by omega)]; omega)
        exact ⟨_, _, rfl, ha.symm, by rw [if_pos (by omega)]⟩
    · refine R_iconst fX8_set_16 ?_
      refine R_goto fX8_set_17 rfl ?_
      refine R_callE fX8_set_21 rfl rfl pX8_in rfl ⟨Nat.le_of_ble_eq_true rfl, rfl⟩ (sp_min (by omega)) ?_
      refine R_if_ne fX8_set_24 rfl (fun h24 => ?_) (fun h24 => ?_)
      · have hww : 0 ≤ w ∧ w ≤ 2 := by
          by_cases z : 0 ≤ w ∧ w ≤ 2
          · exact z
          · rw [if_neg z] at h6; omega
        have hvv : 0 ≤ v ∧ v ≤ (if w = 2 then 1 else 5) := by
          first
          | (rw [if_neg (by omega)]
             by_cases z : 0 ≤ v ∧ v ≤ 5
             · exact z
             · rw [if_neg z] at h24; omega)
          | (rw [if_pos (by omega)]
             by_cases z : 0 ≤ v ∧ v ≤ 1
             · exact z
             · rw [if_neg z] at h24; omega)
        refine R_aload_n fX8_set_30 rfl ?_
        refine R_callN fX8_set_31 rfl rfl pX8_changes rfl ⟨Nat.le_of_ble_eq_true rfl, rcv_v rfl (by omega) hM.1⟩ (hch) (fun F1 q => ?_)
        have e1 := setr_me (hPc F1 q)
        rw [e1]
        refine R_aload_n fX8_set_34 rfl ?_
        refine R_getP 0 fX8_set_35 hM.1 (by omega) rfl rfl rfl hM.2.2.2.2.2.2.2.2.1 ?_
        refine R_bipush fX8_set_38 ?_
        refine R_iload_n fX8_set_40 rfl ?_
        refine R_iadd fX8_set_41 (by omega) ?_
        refine R_iaload fX8_set_42 hM.2.1 (by omega) ?_
        rw [setr_eq]
        refine R_istore_n fX8_set_43 rfl ?_
        refine R_aload_n fX8_set_44 rfl ?_
        refine R_getP 0 fX8_set_45 hM.1 (by omega) rfl rfl rfl hM.2.2.2.2.2.2.2.2.1 ?_
        refine R_bipush fX8_set_48 ?_
        refine R_iload_n fX8_set_50 rfl ?_
        refine R_iadd fX8_set_51 (by omega) ?_
        refine R_iload_n fX8_set_52 rfl ?_
        refine R_iastore fX8_set_53 hM.2.1 (by omega) (by omega) ?_
        rw [stt_setr]
        refine R_iload_n fX8_set_54 rfl ?_
        refine R_ireturn fX8_set_55 rfl ?_
        have ha : aSet s w v = s (26 + w) := by unfold aSet; rw [if_neg (by omega), if_neg (by omega)]
        have ht : tSet s w v = setS s w v := by unfold tSet; rw [if_neg (by omega), if_neg (by omega)]
        have hge : 0 ≤ s (26 + w) := by
          rcases (by omega : w = 0 ∨ w = 1 ∨ w = 2) with rfl | rfl | rfl
          · exact w4.1.1
          · exact w4.2.1.1
          · exact w4.2.2.1
        exact ⟨_, _, rfl, ha.symm, by rw [if_neg (by omega), ht]; exact ⟨F1, q, rfl⟩⟩
      · refine R_ldc fX8_set_27 ?_
        refine R_ireturn fX8_set_29 rfl ?_
        have ha : aSet s w v = -1000001 := by
          unfold aSet
          by_cases z1 : w < 0 ∨ 2 < w
          · rw [if_pos z1]
          · rw [if_neg z1, if_pos]
            have z3 : 0 ≤ w ∧ w ≤ 2 := by omega
            rw [if_pos z3] at h6
            first
            | (exfalso; omega)
            | (by_cases z4 : 0 ≤ v ∧ v ≤ 5
               · rw [if_pos z4] at h24; exfalso; omega
               · rw [if_neg (by omega)]; omega)
            | (by_cases z4 : 0 ≤ v ∧ v ≤ 1
               · rw [if_pos z4] at h24; exfalso; omega
               · rw [if_pos (by omega)]; omega)
        exact ⟨_, _, rfl, ha.symm, by rw [if_pos (by omega)]⟩
