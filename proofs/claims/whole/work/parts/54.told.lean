theorem sp_misAt {d : Nat} {kd : KL} {F : FM} {P : PM} {c : Int → Int} {n i : Int} {a b : Int} (hd : 2 ≤ d) (hM : shM kd P) (hc : F 134 = c) (hn : F 128 9 = n ∧ 0 ≤ n ∧ n ≤ 60) (hi : F 128 17 = i ∧ 0 ≤ i ∧ i ≤ 1000)  : Sp d 130 [.inr (some 128), .inl a, .inl b] kd F P (QE kd F P (if i < n ∧ a ≤ c i ∧ c i ≤ b then 1 else 0)) := by
  refine Sp_of (me := mX8_isAt) (by omega) pX8_isAt ⟨rfl, Nat.le_of_ble_eq_true rfl⟩ ?_
  refine R_aload_n fX8_isAt_0 rfl ?_
  refine R_getI 17 fX8_isAt_1 hM.1 (by omega) rfl rfl rfl ?_
  refine R_aload_n fX8_isAt_4 rfl ?_
  refine R_getI 9 fX8_isAt_5 hM.1 (by omega) rfl rfl rfl ?_
  refine R_icmp_ge fX8_isAt_8 rfl (fun h8 => ?_) (fun h8 => ?_)
  · refine R_iconst fX8_isAt_32 ?_
    refine R_zreturn fX8_isAt_33 rfl (by simp) ?_
    simp only [QE]
    first
    | (rw [if_neg (by omega)]; done)
    | (by_cases z : a ≤ c i ∧ c i ≤ b
       · rw [if_pos z] at h25
         first
         | (exfalso; omega)
         | rw [if_pos ⟨by omega, z.1, z.2⟩]
       · rw [if_neg z] at h25
         first
         | (exfalso; omega)
         | rw [if_neg (fun y => z ⟨y.2.1, y.2.2⟩)])
  · refine R_aload_n fX8_isAt_11 rfl ?_
    refine R_getP 8 fX8_isAt_12 hM.1 (by omega) rfl rfl rfl hM.2.2.2.2.2.2.2.2.2.2.2.2.2.1 ?_
    refine R_aload_n fX8_isAt_15 rfl ?_
    refine R_getI 17 fX8_isAt_16 hM.1 (by omega) rfl rfl rfl ?_
    refine R_iaload fX8_isAt_19 hM.2.2.2.2.2.2.1 (by omega) ?_
    rw [hc, hi.1]
    refine R_iload_n fX8_isAt_20 rfl ?_
    refine R_iload_n fX8_isAt_21 rfl ?_
    refine R_callE fX8_isAt_22 rfl rfl pX8_in rfl ⟨Nat.le_of_ble_eq_true rfl, rfl⟩ (sp_min (by omega)) ?_
    refine R_if_eq fX8_isAt_25 rfl (fun h25 => ?_) (fun h25 => ?_)
    · refine R_iconst fX8_isAt_32 ?_
      refine R_zreturn fX8_isAt_33 rfl (by simp) ?_
      simp only [QE]
      first
      | (rw [if_neg (by omega)]; done)
      | (by_cases z : a ≤ c i ∧ c i ≤ b
         · rw [if_pos z] at h25
           first
           | (exfalso; omega)
           | rw [if_pos ⟨by omega, z.1, z.2⟩]
         · rw [if_neg z] at h25
           first
           | (exfalso; omega)
           | rw [if_neg (fun y => z ⟨y.2.1, y.2.2⟩)])
    · refine R_iconst fX8_isAt_28 ?_
      refine R_goto fX8_isAt_29 rfl ?_
      refine R_zreturn fX8_isAt_33 rfl (by simp) ?_
      simp only [QE]
      first
      | (rw [if_neg (by omega)]; done)
      | (by_cases z : a ≤ c i ∧ c i ≤ b
         · rw [if_pos z] at h25
           first
           | (exfalso; omega)
           | rw [if_pos ⟨by omega, z.1, z.2⟩]
         · rw [if_neg z] at h25
           first
           | (exfalso; omega)
           | rw [if_neg (fun y => z ⟨y.2.1, y.2.2⟩)])
theorem sp_msign {d : Nat} {kd : KL} {F : FM} {P : PM} {c : Int → Int} {n i : Int} {ch : Int} (hd : 3 ≤ d) (hM : shM kd P) (hc : F 134 = c) (hn : F 128 9 = n ∧ 0 ≤ n ∧ n ≤ 60) (hi : F 128 17 = i ∧ 0 ≤ i ∧ i ≤ 1000) (h0 : 0 ≤ ch) : Sp d 131 [.inr (some 128), .inl ch] kd F P (QV kd P (fun r F' => r = psP c n ch i ∧ F' = stt F 128 17 (i + psP c n ch i))) := by
  refine Sp_of (me := mX8_sign) (by omega) pX8_sign ⟨rfl, Nat.le_of_ble_eq_true rfl⟩ ?_
  have hps : psP c n ch i = if i < n ∧ ch ≤ c i ∧ c i ≤ ch then 1 else 0 := by
    have e : chP c n i = if i < n then c i else -1 := by
      unfold chP
      by_cases z : i < n
      · rw [if_pos (show 0 ≤ i ∧ i < n from ⟨hi.2.1, z⟩), if_pos z]
      · rw [if_neg (show ¬ (0 ≤ i ∧ i < n) from fun y => z y.2), if_neg z]
    unfold psP
    rw [e]
    by_cases z : i < n
    · rw [if_pos z]
      by_cases y : c i = ch
      · rw [if_pos y, if_pos ⟨z, by omega, by omega⟩]
      · rw [if_neg y, if_neg (fun x => y (by omega))]
    · rw [if_neg z, if_neg (show ¬ (-1 : Int) = ch by omega), if_neg (fun x => z x.1)]
  have hpb := psP_b (c := c) (n := n) (ch := ch) (i := i)
  refine R_aload_n fX8_sign_0 rfl ?_
  refine R_iload_n fX8_sign_1 rfl ?_
  refine R_iload_n fX8_sign_2 rfl ?_
  refine R_callE fX8_sign_3 rfl rfl pX8_isAt rfl ⟨Nat.le_of_ble_eq_true rfl, rcv_v rfl (by omega) hM.1⟩ (sp_misAt (by omega) hM hc hn hi) ?_
  rw [← hps]
  refine R_istore_n fX8_sign_6 rfl ?_
  refine R_aload_n fX8_sign_7 rfl ?_
  refine R_dup fX8_sign_8 ?_
  refine R_getI 17 fX8_sign_9 hM.1 (by omega) rfl rfl rfl ?_
  refine R_iload_n fX8_sign_12 rfl ?_
  refine R_if_eq fX8_sign_13 rfl (fun h13 => ?_) (fun h13 => ?_)
  · refine R_iconst fX8_sign_20 ?_
    refine R_iadd fX8_sign_21 (by omega) ?_
    refine R_putI 17 fX8_sign_22 hM.1 (by omega) rfl rfl rfl ?_
    refine R_iload_n fX8_sign_25 rfl ?_
    refine R_zreturn fX8_sign_26 rfl (by omega) ?_
    refine ⟨_, _, rfl, rfl, ?_⟩
    first
    | rw [hi.1, show psP c n ch i = 1 by omega]
    | rw [hi.1, show psP c n ch i = 0 by omega]
  · refine R_iconst fX8_sign_16 ?_
    refine R_goto fX8_sign_17 rfl ?_
    refine R_iadd fX8_sign_21 (by omega) ?_
    refine R_putI 17 fX8_sign_22 hM.1 (by omega) rfl rfl rfl ?_
    refine R_iload_n fX8_sign_25 rfl ?_
    refine R_zreturn fX8_sign_26 rfl (by omega) ?_
    refine ⟨_, _, rfl, rfl, ?_⟩
    first
    | rw [hi.1, show psP c n ch i = 1 by omega]
    | rw [hi.1, show psP c n ch i = 0 by omega]
