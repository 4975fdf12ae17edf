theorem sp_rtype {d : Nat} {kd : KL} {F : FM} {P : PM} {s : Int → Int} {m : Int} {σ : Int → Int → Int} {hs : Int} {sn : Int → Int} {n : Int} {c : Int → Int} {v : Int} (hd : 2 ≤ d) (hM : shM kd P) (hW : RWl F s m σ hs sn n c) (hA : AW s m σ hs sn n)  : Sp d 128 [.inr (some 128), .inl v] kd F P (QV kd P (fun r F' => r = aType n v ∧ RWl F' s m σ hs sn (nType n v) (cType n v c) ∧ ∀ k, k < 128 → F' k = F k)) := by
  refine Sp_of (me := mX8_type) (by omega) pX8_type ⟨rfl, Nat.le_of_ble_eq_true rfl⟩ ?_
  obtain ⟨r1, r2, r3, r4, r5, r6, r7, r8, z1, z2, z3, z4⟩ := id hW
  have hm := hA.2.1
  have hnn := hA.2.2.2.2.2
  refine R_iload_n fX8_type_0 rfl ?_
  refine R_bipush fX8_type_1 ?_
  refine R_bipush fX8_type_3 ?_
  refine R_callE fX8_type_5 rfl rfl pX8_in rfl ⟨Nat.le_of_ble_eq_true rfl, rfl⟩ (sp_min (by omega)) ?_
  refine R_if_ne fX8_type_8 rfl (fun h8 => ?_) (fun h8 => ?_)
  · have hv : ¬ (v < 32 ∨ 126 < v) := by
      by_cases z : 32 ≤ v ∧ v ≤ 126
      · omega
      · rw [if_neg z] at h8; omega
    refine R_aload_n fX8_type_14 rfl ?_
    refine R_getI 9 fX8_type_15 hM.1 (by omega) rfl rfl rfl ?_
    refine R_bipush fX8_type_18 ?_
    refine R_icmp_ne fX8_type_20 rfl (fun h20 => ?_) (fun h20 => ?_)
    · refine R_aload_n fX8_type_26 rfl ?_
      refine R_getP 8 fX8_type_27 hM.1 (by omega) rfl rfl rfl hM.2.2.2.2.2.2.2.2.2.2.2.2.2.1 ?_
      refine R_aload_n fX8_type_30 rfl ?_
      refine R_getI 9 fX8_type_31 hM.1 (by omega) rfl rfl rfl ?_
      refine R_iload_n fX8_type_34 rfl ?_
      refine R_iastore fX8_type_35 hM.2.2.2.2.2.2.1 (by omega) (by omega) ?_
      refine R_aload_n fX8_type_36 rfl ?_
      refine R_dup fX8_type_37 ?_
      refine R_getI 9 fX8_type_38 hM.1 (by omega) rfl rfl rfl ?_
      refine R_iconst fX8_type_41 ?_
      refine R_iadd fX8_type_42 (by rw [stt_kr _ _ _ (by omega)]; omega) ?_
      refine R_putI 9 fX8_type_43 hM.1 (by omega) rfl rfl rfl ?_
      refine R_aload_n fX8_type_46 rfl ?_
      refine R_getI 9 fX8_type_47 hM.1 (by omega) rfl rfl rfl ?_
      refine R_ireturn fX8_type_50 rfl ?_
      have h60 : n < 60 := by omega
      unfold aType nType cType
      rw [if_neg hv, if_neg hv, if_neg hv, if_pos h60, if_pos h60, if_pos h60]
      refine ⟨_, _, rfl, ?_, ⟨?_, ?_, fun j j0 j1 => ?_, ?_, fun z => ?_, ?_, ?_, ?_, ?_, ?_, ?_, ?_⟩, fun k hk => ?_⟩
      · rw [stt_eq, stt_kr _ _ _ (by omega), r6]
      · rw [stt_kr _ _ _ (by omega), stt_kr _ _ _ (by omega)]; exact r1
      · rw [stt_j _ _ (by omega), stt_kr _ _ _ (by omega)]; exact r2
      · rw [← r3 j j0 j1]; funext a; unfold PS; rw [stt_kr _ _ _ (by omega), stt_kr _ _ _ (by omega)]
      · rw [stt_j _ _ (by omega), stt_kr _ _ _ (by omega)]; exact r4
      · rw [stt_kr _ _ _ (by omega), stt_kr _ _ _ (by omega)]; exact r5 z
      · rw [stt_eq, stt_kr _ _ _ (by omega), r6]
      · rw [stt_kr _ _ _ (by omega), r6, ← r7]
        funext a
        unfold up stt
        by_cases ha : a = n
        · rw [if_pos ⟨rfl, ha⟩, if_pos ha]
        · rw [if_neg (fun z => ha z.2), if_neg ha]
      · rw [stt_j _ _ (by omega), stt_kr _ _ _ (by omega)]; exact r8
      · rw [stt_kr _ _ _ (by omega), stt_kr _ _ _ (by omega)]; exact z1
      · rw [stt_kr _ _ _ (by omega), stt_kr _ _ _ (by omega)]; exact z2
      · rw [stt_kr _ _ _ (by omega), stt_kr _ _ _ (by omega)]; exact z3
      · rw [stt_kr _ _ _ (by omega), stt_kr _ _ _ (by omega)]; exact z4
      · rw [stt_kr _ _ _ (by omega), stt_kr _ _ _ (by omega)]
    · refine R_ldc fX8_type_23 ?_
      refine R_ireturn fX8_type_25 rfl ?_
      have h60 : ¬ n < 60 := by omega
      unfold aType nType cType
      rw [if_neg hv, if_neg hv, if_neg hv, if_neg h60, if_neg h60, if_neg h60]
      exact ⟨_, _, rfl, rfl, hW, fun _ _ => rfl⟩
  · refine R_ldc fX8_type_11 ?_
    refine R_ireturn fX8_type_13 rfl ?_
    have hv : v < 32 ∨ 126 < v := by
      by_cases z : 32 ≤ v ∧ v ≤ 126
      · rw [if_pos z] at h8; omega
      · omega
    unfold aType nType cType
    rw [if_pos hv, if_pos hv, if_pos hv]
    exact ⟨_, _, rfl, rfl, hW, fun _ _ => rfl⟩
