/-! ## the text: what is read -/
def chP (c : Int → Int) (n i : Int) : Int := if 0 ≤ i ∧ i < n then c i else -1
def dgP (c : Int → Int) (n i : Int) : Int := if 48 ≤ chP c n i ∧ chP c n i ≤ 57 then chP c n i - 48 else -1
def nvP (c : Int → Int) (n i : Int) : Int := if dgP c n i < 0 then -1 else if dgP c n (i + 1) < 0 then dgP c n i else 10 * dgP c n i + dgP c n (i + 1)
def neP (c : Int → Int) (n i : Int) : Int := if dgP c n i < 0 then i else if dgP c n (i + 1) < 0 then i + 1 else i + 2
def psP (c : Int → Int) (n ch i : Int) : Int := if chP c n i = ch then 1 else 0
theorem dgP_b {c : Int → Int} {n i : Int} : -1 ≤ dgP c n i ∧ dgP c n i ≤ 9 := by
  unfold dgP
  split <;> omega
theorem nvP_b {c : Int → Int} {n i : Int} : -1 ≤ nvP c n i ∧ nvP c n i ≤ 99 := by
  have h1 := dgP_b (c := c) (n := n) (i := i)
  have h2 := dgP_b (c := c) (n := n) (i := i + 1)
  unfold nvP
  split
  · omega
  · split <;> omega
theorem neP_b {c : Int → Int} {n i : Int} : i ≤ neP c n i ∧ neP c n i ≤ i + 2 := by
  unfold neP
  split
  · omega
  · split <;> omega
theorem psP_b {c : Int → Int} {n ch i : Int} : 0 ≤ psP c n ch i ∧ psP c n ch i ≤ 1 := by
  unfold psP
  split <;> omega
def shT (kd : KL) (P : PM) (X : Nat) : Prop := 3 ≤ X ∧ kd[X]? = some (8, 10) ∧ kd[X + 1]? = some (0, 60) ∧ P X 0 = some (X + 1)
/-- only the cells from a on up to b change, and only of X -/
def OX (X : Nat) (a b : Int) (F F' : FM) : Prop := (∀ j, j < a ∨ b < j → F' X j = F X j) ∧ ∀ k, k ≠ X → F' k = F k
theorem OX_rfl {X : Nat} {a b : Int} {F : FM} : OX X a b F F := ⟨fun _ _ => rfl, fun _ _ => rfl⟩
theorem OX_tr {X : Nat} {a b a' b' c e : Int} {F F' F'' : FM} (h : OX X a b F F') (h2 : OX X a' b' F' F'') (ha : c ≤ a ∧ c ≤ a' ∧ b ≤ e ∧ b' ≤ e) : OX X c e F F'' := ⟨fun j hj => by rw [h2.1 j (by omega), h.1 j (by omega)], fun k hk => by rw [h2.2 k hk, h.2 k hk]⟩
def OY (X : Nat) (F F' : FM) : Prop := (∀ j, j ≠ 6 → j ≠ 8 → j ≠ 9 → F' X j = F X j) ∧ ∀ k, k ≠ X → F' k = F k
theorem OY_of {X : Nat} {F F' : FM} (h : OX X 6 6 F F') : OY X F F' := ⟨fun j a _ _ => h.1 j (by omega), h.2⟩
theorem OY_tr {X : Nat} {F F' F'' : FM} (h : OY X F F') (h2 : OY X F' F'') : OY X F F'' := ⟨fun j a b c => by rw [h2.1 j a b c, h.1 j a b c], fun k hk => by rw [h2.2 k hk, h.2 k hk]⟩
theorem OY_st {X : Nat} {j v : Int} {F : FM} (h : j = 8 ∨ j = 9) : OY X F (stt F X j v) := ⟨fun i a b c => stt_j _ _ (by omega), fun k hk => stt_kr _ _ _ hk⟩
theorem OX_st {X : Nat} {a b j v : Int} {F : FM} (h : a ≤ j ∧ j ≤ b) : OX X a b F (stt F X j v) := ⟨fun i hi => stt_j _ _ (by omega), fun k hk => stt_kr _ _ _ hk⟩
theorem sp_characterAt {d : Nat} {kd : KL} {F : FM} {P : PM} {X : Nat} {i : Int} (hd : 1 ≤ d) (hX : shT kd P X) (hn : 0 ≤ F X 1 ∧ F X 1 ≤ 60)  : Sp d 59 [.inr (some X), .inl i] kd F P (QE kd F P (chP (F (X + 1)) (F X 1) i)) := by
  refine Sp_of (me := mX6_characterAt) (by omega) pX6_characterAt ⟨rfl, Nat.le_of_ble_eq_true rfl⟩ ?_
  refine R_iload_n fX6_characterAt_0 rfl ?_
  refine R_if_lt fX6_characterAt_1 rfl (fun h1 => ?_) (fun h1 => ?_)
  · refine R_iconst fX6_characterAt_21 ?_
    refine R_ireturn fX6_characterAt_22 rfl ?_
    simp only [QE]; unfold chP; first | rw [if_pos (by omega)] | rw [if_neg (by omega)]
  · refine R_iload_n fX6_characterAt_4 rfl ?_
    refine R_aload_n fX6_characterAt_5 rfl ?_
    refine R_getI 1 fX6_characterAt_6 hX.2.1 hX.1 rfl rfl rfl ?_
    refine R_icmp_ge fX6_characterAt_9 rfl (fun h9 => ?_) (fun h9 => ?_)
    · refine R_iconst fX6_characterAt_21 ?_
      refine R_ireturn fX6_characterAt_22 rfl ?_
      simp only [QE]; unfold chP; first | rw [if_pos (by omega)] | rw [if_neg (by omega)]
    · refine R_aload_n fX6_characterAt_12 rfl ?_
      refine R_getP 0 fX6_characterAt_13 hX.2.1 hX.1 rfl rfl rfl hX.2.2.2 ?_
      refine R_iload_n fX6_characterAt_16 rfl ?_
      refine R_iaload fX6_characterAt_17 hX.2.2.1 (by omega) ?_
      refine R_goto fX6_characterAt_18 rfl ?_
      refine R_ireturn fX6_characterAt_22 rfl ?_
      simp only [QE]; unfold chP; first | rw [if_pos (by omega)] | rw [if_neg (by omega)]
theorem sp_digitAt {d : Nat} {kd : KL} {F : FM} {P : PM} {X : Nat} {i : Int} (hd : 2 ≤ d) (hX : shT kd P X) (hn : 0 ≤ F X 1 ∧ F X 1 ≤ 60)  : Sp d 58 [.inr (some X), .inl i] kd F P (QE kd F P (dgP (F (X + 1)) (F X 1) i)) := by
  refine Sp_of (me := mX6_digitAt) (by omega) pX6_digitAt ⟨rfl, Nat.le_of_ble_eq_true rfl⟩ ?_
  refine R_aload_n fX6_digitAt_0 rfl ?_
  refine R_iload_n fX6_digitAt_1 rfl ?_
  refine R_callE fX6_digitAt_2 rfl rfl pX6_characterAt rfl ⟨Nat.le_of_ble_eq_true rfl, rcv_v rfl hX.1 hX.2.1⟩ (sp_characterAt (by omega) hX hn) ?_
  refine R_istore_n fX6_digitAt_5 rfl ?_
  refine R_iload_n fX6_digitAt_6 rfl ?_
  refine R_bipush fX6_digitAt_7 ?_
  refine R_icmp_lt fX6_digitAt_9 rfl (fun h9 => ?_) (fun h9 => ?_)
  · refine R_iconst fX6_digitAt_25 ?_
    refine R_ireturn fX6_digitAt_26 rfl ?_
    simp only [QE]; unfold dgP; first | rw [if_pos (by omega)] | rw [if_neg (by omega)]
  · refine R_iload_n fX6_digitAt_12 rfl ?_
    refine R_bipush fX6_digitAt_13 ?_
    refine R_icmp_gt fX6_digitAt_15 rfl (fun h15 => ?_) (fun h15 => ?_)
    · refine R_iconst fX6_digitAt_25 ?_
      refine R_ireturn fX6_digitAt_26 rfl ?_
      simp only [QE]; unfold dgP; first | rw [if_pos (by omega)] | rw [if_neg (by omega)]
    · refine R_iload_n fX6_digitAt_18 rfl ?_
      refine R_bipush fX6_digitAt_19 ?_
      refine R_isub fX6_digitAt_21 (by omega) ?_
      refine R_goto fX6_digitAt_22 rfl ?_
      refine R_ireturn fX6_digitAt_26 rfl ?_
      simp only [QE]; unfold dgP; first | rw [if_pos (by omega)] | rw [if_neg (by omega)]
theorem sp_passes {d : Nat} {kd : KL} {F : FM} {P : PM} {X : Nat} {ch : Int} (hd : 2 ≤ d) (hX : shT kd P X) (hn : 0 ≤ F X 1 ∧ F X 1 ≤ 60) (h6 : 0 ≤ F X 6 ∧ F X 6 ≤ 10000) : Sp d 57 [.inr (some X), .inl ch] kd F P (QV kd P (fun r F' => r = psP (F (X + 1)) (F X 1) ch (F X 6) ∧ F' X 6 = F X 6 + psP (F (X + 1)) (F X 1) ch (F X 6) ∧ OX X 6 6 F F')) := by
  refine Sp_of (me := mX6_passes) (by omega) pX6_passes ⟨rfl, Nat.le_of_ble_eq_true rfl⟩ ?_
  refine R_aload_n fX6_passes_0 rfl ?_
  refine R_aload_n fX6_passes_1 rfl ?_
  refine R_getI 6 fX6_passes_2 hX.2.1 hX.1 rfl rfl rfl ?_
  refine R_callE fX6_passes_5 rfl rfl pX6_characterAt rfl ⟨Nat.le_of_ble_eq_true rfl, rcv_v rfl hX.1 hX.2.1⟩ (sp_characterAt (by omega) hX hn) ?_
  refine R_iload_n fX6_passes_8 rfl ?_
  refine R_icmp_eq fX6_passes_9 rfl (fun h9 => ?_) (fun h9 => ?_)
  · refine R_aload_n fX6_passes_14 rfl ?_
    refine R_dup fX6_passes_15 ?_
    refine R_getI 6 fX6_passes_16 hX.2.1 hX.1 rfl rfl rfl ?_
    refine R_iconst fX6_passes_19 ?_
    refine R_iadd fX6_passes_20 (by omega) ?_
    refine R_putI 6 fX6_passes_21 hX.2.1 hX.1 rfl rfl rfl ?_
    refine R_iconst fX6_passes_24 ?_
    refine R_zreturn fX6_passes_25 rfl (by simp) ?_
    refine ⟨_, _, rfl, ?_, ?_, OX_st (by omega)⟩
    · unfold psP; rw [if_pos h9]
    · unfold psP; rw [if_pos h9, stt_eq]
  · refine R_iconst fX6_passes_12 ?_
    refine R_zreturn fX6_passes_13 rfl (by simp) ?_
    refine ⟨_, _, rfl, ?_, ?_, OX_rfl⟩
    · unfold psP; rw [if_neg h9]
    · unfold psP; rw [if_neg h9]; omega
theorem sp_readNumber {d : Nat} {kd : KL} {F : FM} {P : PM} {X : Nat}  (hd : 3 ≤ d) (hX : shT kd P X) (hn : 0 ≤ F X 1 ∧ F X 1 ≤ 60) (h6 : 0 ≤ F X 6 ∧ F X 6 ≤ 10000) : Sp d 56 [.inr (some X)] kd F P (QV kd P (fun r F' => r = nvP (F (X + 1)) (F X 1) (F X 6) ∧ F' X 6 = neP (F (X + 1)) (F X 1) (F X 6) ∧ OX X 6 6 F F')) := by
  refine Sp_of (me := mX6_readNumber) (by omega) pX6_readNumber ⟨rfl, Nat.le_of_ble_eq_true rfl⟩ ?_
  have hb1 := dgP_b (c := F (X + 1)) (n := F X 1) (i := F X 6)
  have hb2 := dgP_b (c := F (X + 1)) (n := F X 1) (i := F X 6 + 1)
  refine R_aload_n fX6_readNumber_0 rfl ?_
  refine R_aload_n fX6_readNumber_1 rfl ?_
  refine R_getI 6 fX6_readNumber_2 hX.2.1 hX.1 rfl rfl rfl ?_
  refine R_callE fX6_readNumber_5 rfl rfl pX6_digitAt rfl ⟨Nat.le_of_ble_eq_true rfl, rcv_v rfl hX.1 hX.2.1⟩ (sp_digitAt (by omega) hX hn) ?_
  refine R_istore_n fX6_readNumber_8 rfl ?_
  refine R_iload_n fX6_readNumber_9 rfl ?_
  refine R_if_ge fX6_readNumber_10 rfl (fun h10 => ?_) (fun h10 => ?_)
  · refine R_aload_n fX6_readNumber_15 rfl ?_
    refine R_dup fX6_readNumber_16 ?_
    refine R_getI 6 fX6_readNumber_17 hX.2.1 hX.1 rfl rfl rfl ?_
    refine R_iconst fX6_readNumber_20 ?_
    refine R_iadd fX6_readNumber_21 (by omega) ?_
    refine R_putI 6 fX6_readNumber_22 hX.2.1 hX.1 rfl rfl rfl ?_
    refine R_aload_n fX6_readNumber_25 rfl ?_
    refine R_aload_n fX6_readNumber_26 rfl ?_
    refine R_getI 6 fX6_readNumber_27 hX.2.1 hX.1 rfl rfl rfl ?_
    refine R_callE fX6_readNumber_30 rfl rfl pX6_digitAt rfl ⟨Nat.le_of_ble_eq_true rfl, rcv_v rfl hX.1 hX.2.1⟩ (sp_digitAt (by omega) hX (by rw [stt_j _ _ (by omega)]; exact hn)) ?_
    rw [stt_eq, stt_j _ _ (by omega), stt_kr _ _ _ (by omega)]
    refine R_istore_n fX6_readNumber_33 rfl ?_
    refine R_iload_n fX6_readNumber_34 rfl ?_
    refine R_if_ge fX6_readNumber_35 rfl (fun h35 => ?_) (fun h35 => ?_)
    · refine R_aload_n fX6_readNumber_40 rfl ?_
      refine R_dup fX6_readNumber_41 ?_
      refine R_getI 6 fX6_readNumber_42 hX.2.1 hX.1 rfl rfl rfl ?_
      refine R_iconst fX6_readNumber_45 ?_
      refine R_iadd fX6_readNumber_46 (by rw [stt_eq]; omega) ?_
      refine R_putI 6 fX6_readNumber_47 hX.2.1 hX.1 rfl rfl rfl ?_
      refine R_bipush fX6_readNumber_50 ?_
      refine R_iload_n fX6_readNumber_52 rfl ?_
      refine R_imul fX6_readNumber_53 (by omega) ?_
      refine R_iload_n fX6_readNumber_54 rfl ?_
      refine R_iadd fX6_readNumber_55 (by omega) ?_
      refine R_ireturn fX6_readNumber_56 rfl ?_
      refine ⟨_, _, rfl, ?_, ?_, OX_tr (OX_st (a := 6) (b := 6) (by omega)) (OX_st (a := 6) (b := 6) (by omega)) (by omega)⟩
      · unfold nvP; rw [if_neg (by omega), if_neg (by omega)]
      · unfold neP; rw [if_neg (by omega), if_neg (by omega), stt_eq, stt_eq]; omega
    · refine R_iload_n fX6_readNumber_38 rfl ?_
      refine R_ireturn fX6_readNumber_39 rfl ?_
      refine ⟨_, _, rfl, ?_, ?_, OX_st (by omega)⟩
      · unfold nvP; rw [if_neg (by omega), if_pos h35]
      · unfold neP; rw [if_neg (by omega), if_pos h35, stt_eq]
  · refine R_iconst fX6_readNumber_13 ?_
    refine R_ireturn fX6_readNumber_14 rfl ?_
    refine ⟨_, _, rfl, ?_, ?_, OX_rfl⟩
    · unfold nvP; rw [if_pos h10]
    · unfold neP; rw [if_pos h10]
theorem sp_readValue {d : Nat} {kd : KL} {F : FM} {P : PM} {X : Nat}  (hd : 4 ≤ d) (hX : shT kd P X) (hn : 0 ≤ F X 1 ∧ F X 1 ≤ 60) (h6 : 0 ≤ F X 6 ∧ F X 6 ≤ 9000) : Sp d 54 [.inr (some X)] kd F P (QV kd P (fun r F' => r = (if 0 ≤ nvP (F (X + 1)) (F X 1) (F X 6 + psP (F (X + 1)) (F X 1) 45 (F X 6)) then 1 else 0) ∧ F' X 6 = neP (F (X + 1)) (F X 1) (F X 6 + psP (F (X + 1)) (F X 1) 45 (F X 6)) ∧ F' X 8 = (if chP (F (X + 1)) (F X 1) (F X 6) = 45 then -nvP (F (X + 1)) (F X 1) (F X 6 + psP (F (X + 1)) (F X 1) 45 (F X 6)) else nvP (F (X + 1)) (F X 1) (F X 6 + psP (F (X + 1)) (F X 1) 45 (F X 6))) ∧ OY X F F')) := by
  refine Sp_of (me := mX6_readValue) (by omega) pX6_readValue ⟨rfl, Nat.le_of_ble_eq_true rfl⟩ ?_
  have hps := psP_b (c := F (X + 1)) (n := F X 1) (ch := 45) (i := F X 6)
  have hnv := nvP_b (c := F (X + 1)) (n := F X 1) (i := (F X 6 + psP (F (X + 1)) (F X 1) 45 (F X 6)))
  refine R_aload_n fX6_readValue_0 rfl ?_
  refine R_bipush fX6_readValue_1 ?_
  refine R_callV fX6_readValue_3 rfl rfl pX6_passes rfl ⟨Nat.le_of_ble_eq_true rfl, rcv_v rfl hX.1 hX.2.1⟩ (sp_passes (by omega) hX hn (by omega)) (fun r F1 q => ?_)
  obtain ⟨q0, q1, q2⟩ := q
  subst q0
  have e1 : F1 X 1 = F X 1 := q2.1 1 (by omega)
  have e2 : F1 (X + 1) = F (X + 1) := q2.2 _ (by omega)
  refine R_istore_n fX6_readValue_6 rfl ?_
  refine R_aload_n fX6_readValue_7 rfl ?_
  refine R_callV fX6_readValue_8 rfl rfl pX6_readNumber rfl ⟨Nat.le_of_ble_eq_true rfl, rcv_v rfl hX.1 hX.2.1⟩ (sp_readNumber (by omega) hX (by rw [e1]; exact hn) (by omega)) (fun r F2 z => ?_)
  obtain ⟨z0, z1, z2⟩ := z
  rw [e1, e2, q1] at z0 z1
  subst z0
  refine R_istore_n fX6_readValue_11 rfl ?_
  refine R_aload_n fX6_readValue_12 rfl ?_
  refine R_iload_n fX6_readValue_13 rfl ?_
  refine R_if_eq fX6_readValue_14 rfl (fun h14 => ?_) (fun h14 => ?_)
  · refine R_iload_n fX6_readValue_22 rfl ?_
    refine R_putI 8 fX6_readValue_23 hX.2.1 hX.1 rfl rfl rfl ?_
    refine R_iload_n fX6_readValue_26 rfl ?_
    refine R_if_lt fX6_readValue_27 rfl (fun h27 => ?_) (fun h27 => ?_)
    · refine R_iconst fX6_readValue_34 ?_
      refine R_zreturn fX6_readValue_35 rfl (by simp) ?_
      refine ⟨_, _, rfl, ?_, ?_, ?_, OY_tr (OY_tr (OY_of q2) (OY_of z2)) (OY_st (by omega))⟩
      · first | rw [if_pos (by omega)] | rw [if_neg (by omega)]
      · rw [stt_j _ _ (by omega)]; exact z1
      · rw [stt_eq]
        unfold psP at h14
        by_cases hq : chP (F (X + 1)) (F X 1) (F X 6) = 45
        · rw [if_pos hq] at h14 ⊢ <;> first | (exfalso; omega) | rfl
        · rw [if_neg hq] at h14 ⊢ <;> first | (exfalso; omega) | rfl
    · refine R_iconst fX6_readValue_30 ?_
      refine R_goto fX6_readValue_31 rfl ?_
      refine R_zreturn fX6_readValue_35 rfl (by simp) ?_
      refine ⟨_, _, rfl, ?_, ?_, ?_, OY_tr (OY_tr (OY_of q2) (OY_of z2)) (OY_st (by omega))⟩
      · first | rw [if_pos (by omega)] | rw [if_neg (by omega)]
      · rw [stt_j _ _ (by omega)]; exact z1
      · rw [stt_eq]
        unfold psP at h14
        by_cases hq : chP (F (X + 1)) (F X 1) (F X 6) = 45
        · rw [if_pos hq] at h14 ⊢ <;> first | (exfalso; omega) | rfl
        · rw [if_neg hq] at h14 ⊢ <;> first | (exfalso; omega) | rfl
  · refine R_iload_n fX6_readValue_17 rfl ?_
    refine R_ineg fX6_readValue_18 (by omega) ?_
    refine R_goto fX6_readValue_19 rfl ?_
    refine R_putI 8 fX6_readValue_23 hX.2.1 hX.1 rfl rfl rfl ?_
    refine R_iload_n fX6_readValue_26 rfl ?_
    refine R_if_lt fX6_readValue_27 rfl (fun h27 => ?_) (fun h27 => ?_)
    · refine R_iconst fX6_readValue_34 ?_
      refine R_zreturn fX6_readValue_35 rfl (by simp) ?_
      refine ⟨_, _, rfl, ?_, ?_, ?_, OY_tr (OY_tr (OY_of q2) (OY_of z2)) (OY_st (by omega))⟩
      · first | rw [if_pos (by omega)] | rw [if_neg (by omega)]
      · rw [stt_j _ _ (by omega)]; exact z1
      · rw [stt_eq]
        unfold psP at h14
        by_cases hq : chP (F (X + 1)) (F X 1) (F X 6) = 45
        · rw [if_pos hq] at h14 ⊢ <;> first | (exfalso; omega) | rfl
        · rw [if_neg hq] at h14 ⊢ <;> first | (exfalso; omega) | rfl
    · refine R_iconst fX6_readValue_30 ?_
      refine R_goto fX6_readValue_31 rfl ?_
      refine R_zreturn fX6_readValue_35 rfl (by simp) ?_
      refine ⟨_, _, rfl, ?_, ?_, ?_, OY_tr (OY_tr (OY_of q2) (OY_of z2)) (OY_st (by omega))⟩
      · first | rw [if_pos (by omega)] | rw [if_neg (by omega)]
      · rw [stt_j _ _ (by omega)]; exact z1
      · rw [stt_eq]
        unfold psP at h14
        by_cases hq : chP (F (X + 1)) (F X 1) (F X 6) = 45
        · rw [if_pos hq] at h14 ⊢ <;> first | (exfalso; omega) | rfl
        · rw [if_neg hq] at h14 ⊢ <;> first | (exfalso; omega) | rfl
theorem sp_readBid {d : Nat} {kd : KL} {F : FM} {P : PM} {X : Nat}  (hd : 4 ≤ d) (hX : shT kd P X) (hn : 0 ≤ F X 1 ∧ F X 1 ≤ 60) (h6 : 0 ≤ F X 6 ∧ F X 6 ≤ 9000) : Sp d 55 [.inr (some X)] kd F P (QV kd P (fun r F' => (r = 0 ∨ r = 1) ∧ (r = 1 ↔ (0 ≤ (nvP (F (X + 1)) (F X 1) (F X 6)) ∧ chP (F (X + 1)) (F X 1) (neP (F (X + 1)) (F X 1) (F X 6)) = 44 ∧ 0 ≤ (nvP (F (X + 1)) (F X 1) ((neP (F (X + 1)) (F X 1) (F X 6)) + 1)))) ∧ (r = 1 → F' X 6 = (neP (F (X + 1)) (F X 1) ((neP (F (X + 1)) (F X 1) (F X 6)) + 1)) ∧ F' X 8 = (nvP (F (X + 1)) (F X 1) (F X 6)) ∧ F' X 9 = (nvP (F (X + 1)) (F X 1) ((neP (F (X + 1)) (F X 1) (F X 6)) + 1))) ∧ (0 ≤ F' X 6 ∧ F' X 6 ≤ F X 6 + 5) ∧ OY X F F')) := by
  refine Sp_of (me := mX6_readBid) (by omega) pX6_readBid ⟨rfl, Nat.le_of_ble_eq_true rfl⟩ ?_
  have hne := neP_b (c := F (X + 1)) (n := F X 1) (i := F X 6)
  have hne2 := neP_b (c := F (X + 1)) (n := F X 1) (i := neP (F (X + 1)) (F X 1) (F X 6) + 1)
  have hps := psP_b (c := F (X + 1)) (n := F X 1) (ch := 44) (i := neP (F (X + 1)) (F X 1) (F X 6))
  have hpe : psP (F (X + 1)) (F X 1) 44 (neP (F (X + 1)) (F X 1) (F X 6)) = if chP (F (X + 1)) (F X 1) (neP (F (X + 1)) (F X 1) (F X 6)) = 44 then 1 else 0 := rfl
  refine R_aload_n fX6_readBid_0 rfl ?_
  refine R_aload_n fX6_readBid_1 rfl ?_
  refine R_callV fX6_readBid_2 rfl rfl pX6_readNumber rfl ⟨Nat.le_of_ble_eq_true rfl, rcv_v rfl hX.1 hX.2.1⟩ (sp_readNumber (by omega) hX hn (by omega)) (fun r F1 q => ?_)
  obtain ⟨q0, q1, q2⟩ := q
  subst q0
  have e1 : stt F1 X 8 (nvP (F (X + 1)) (F X 1) (F X 6)) X 1 = F X 1 := by rw [stt_j _ _ (by omega)]; exact q2.1 1 (by omega)
  have e2 : stt F1 X 8 (nvP (F (X + 1)) (F X 1) (F X 6)) (X + 1) = F (X + 1) := by rw [stt_kr _ _ _ (by omega)]; exact q2.2 _ (by omega)
  have e6 : stt F1 X 8 (nvP (F (X + 1)) (F X 1) (F X 6)) X 6 = neP (F (X + 1)) (F X 1) (F X 6) := by rw [stt_j _ _ (by omega)]; exact q1
  have e8 : stt F1 X 8 (nvP (F (X + 1)) (F X 1) (F X 6)) X 8 = nvP (F (X + 1)) (F X 1) (F X 6) := stt_eq _ _ _ _
  have o1 : OY X F (stt F1 X 8 (nvP (F (X + 1)) (F X 1) (F X 6))) := OY_tr (OY_of q2) (OY_st (by omega))
  refine R_putI 8 fX6_readBid_5 hX.2.1 hX.1 rfl rfl rfl ?_
  generalize stt F1 X 8 (nvP (F (X + 1)) (F X 1) (F X 6)) = G at e1 e2 e6 e8 o1 ⊢
  refine R_aload_n fX6_readBid_8 rfl ?_
  refine R_getI 8 fX6_readBid_9 hX.2.1 hX.1 rfl rfl rfl ?_
  refine R_if_lt fX6_readBid_12 rfl (fun h12 => ?_) (fun h12 => ?_)
  · refine R_iconst fX6_readBid_24 ?_
    refine R_zreturn fX6_readBid_25 rfl (by simp) ?_
    first
    | exact ⟨_, _, rfl, Or.inl rfl, ⟨fun z => by omega, fun z => by omega⟩, fun z => by omega, by omega, o1⟩
    | (rw [hpe] at h21
       have hch : ¬ chP (F (X + 1)) (F X 1) (neP (F (X + 1)) (F X 1) (F X 6)) = 44 := fun z => by rw [if_pos z] at h21; omega
       rw [if_neg hch] at z1
       exact ⟨_, _, rfl, Or.inl rfl, ⟨fun z => by omega, fun z => absurd z.2.1 hch⟩, fun z => by omega, by omega, o2⟩)
  · refine R_aload_n fX6_readBid_15 rfl ?_
    refine R_bipush fX6_readBid_16 ?_
    refine R_callV fX6_readBid_18 rfl rfl pX6_passes rfl ⟨Nat.le_of_ble_eq_true rfl, rcv_v rfl hX.1 hX.2.1⟩ (sp_passes (by omega) hX (by rw [e1]; exact hn) (by omega)) (fun r F2 z => ?_)
    obtain ⟨z0, z1, z2⟩ := z
    rw [e1, e2, e6] at z0 z1
    subst z0
    have a1 : F2 X 1 = F X 1 := by rw [z2.1 1 (by omega)]; exact e1
    have a2 : F2 (X + 1) = F (X + 1) := by rw [z2.2 _ (by omega)]; exact e2
    have a8 : F2 X 8 = nvP (F (X + 1)) (F X 1) (F X 6) := by rw [z2.1 8 (by omega)]; exact e8
    have o2 : OY X F F2 := OY_tr o1 (OY_of z2)
    rw [hpe] at z1
    refine R_if_ne fX6_readBid_21 rfl (fun h21 => ?_) (fun h21 => ?_)
    · rw [hpe] at h21
      have hch : chP (F (X + 1)) (F X 1) (neP (F (X + 1)) (F X 1) (F X 6)) = 44 := by
        by_cases z : chP (F (X + 1)) (F X 1) (neP (F (X + 1)) (F X 1) (F X 6)) = 44
        · exact z
        · rw [if_neg z] at h21; omega
      rw [if_pos hch] at z1
      refine R_aload_n fX6_readBid_26 rfl ?_
      refine R_aload_n fX6_readBid_27 rfl ?_
      refine R_callV fX6_readBid_28 rfl rfl pX6_readNumber rfl ⟨Nat.le_of_ble_eq_true rfl, rcv_v rfl hX.1 hX.2.1⟩ (sp_readNumber (by omega) hX (by rw [a1]; exact hn) (by omega)) (fun r F3 y => ?_)
      obtain ⟨y0, y1, y2⟩ := y
      rw [a1, a2, z1] at y0 y1
      subst y0
      have o3 : OY X F (stt F3 X 9 (nvP (F (X + 1)) (F X 1) (neP (F (X + 1)) (F X 1) (F X 6) + 1))) := OY_tr (OY_tr o2 (OY_of y2)) (OY_st (by omega))
      have b6 : stt F3 X 9 (nvP (F (X + 1)) (F X 1) (neP (F (X + 1)) (F X 1) (F X 6) + 1)) X 6 = neP (F (X + 1)) (F X 1) (neP (F (X + 1)) (F X 1) (F X 6) + 1) := by rw [stt_j _ _ (by omega)]; exact y1
      have b8 : stt F3 X 9 (nvP (F (X + 1)) (F X 1) (neP (F (X + 1)) (F X 1) (F X 6) + 1)) X 8 = nvP (F (X + 1)) (F X 1) (F X 6) := by rw [stt_j _ _ (by omega), y2.1 8 (by omega)]; exact a8
      have b9 : stt F3 X 9 (nvP (F (X + 1)) (F X 1) (neP (F (X + 1)) (F X 1) (F X 6) + 1)) X 9 = nvP (F (X + 1)) (F X 1) (neP (F (X + 1)) (F X 1) (F X 6) + 1) := stt_eq _ _ _ _
      refine R_putI 9 fX6_readBid_31 hX.2.1 hX.1 rfl rfl rfl ?_
      generalize stt F3 X 9 (nvP (F (X + 1)) (F X 1) (neP (F (X + 1)) (F X 1) (F X 6) + 1)) = K at b6 b8 b9 o3 ⊢
      refine R_aload_n fX6_readBid_34 rfl ?_
      refine R_getI 9 fX6_readBid_35 hX.2.1 hX.1 rfl rfl rfl ?_
      refine R_if_lt fX6_readBid_38 rfl (fun h38 => ?_) (fun h38 => ?_)
      · refine R_iconst fX6_readBid_45 ?_
        refine R_zreturn fX6_readBid_46 rfl (by simp) ?_
        rw [b9] at h38
        first
        | (exfalso; omega)
        | exact ⟨_, _, rfl, Or.inr rfl, ⟨fun _ => ⟨by omega, hch, by omega⟩, fun _ => rfl⟩, fun _ => ⟨b6, b8, b9⟩, by omega, o3⟩
        | exact ⟨_, _, rfl, Or.inl rfl, ⟨fun z => by omega, fun z => by omega⟩, fun z => by omega, by omega, o3⟩
      · refine R_iconst fX6_readBid_41 ?_
        refine R_goto fX6_readBid_42 rfl ?_
        refine R_zreturn fX6_readBid_46 rfl (by simp) ?_
        rw [b9] at h38
        first
        | (exfalso; omega)
        | exact ⟨_, _, rfl, Or.inr rfl, ⟨fun _ => ⟨by omega, hch, by omega⟩, fun _ => rfl⟩, fun _ => ⟨b6, b8, b9⟩, by omega, o3⟩
        | exact ⟨_, _, rfl, Or.inl rfl, ⟨fun z => by omega, fun z => by omega⟩, fun z => by omega, by omega, o3⟩
    · refine R_iconst fX6_readBid_24 ?_
      refine R_zreturn fX6_readBid_25 rfl (by simp) ?_
      first
      | exact ⟨_, _, rfl, Or.inl rfl, ⟨fun z => by omega, fun z => by omega⟩, fun z => by omega, by omega, o1⟩
      | (rw [hpe] at h21
         have hch : ¬ chP (F (X + 1)) (F X 1) (neP (F (X + 1)) (F X 1) (F X 6)) = 44 := fun z => by rw [if_pos z] at h21; omega
         rw [if_neg hch] at z1
         exact ⟨_, _, rfl, Or.inl rfl, ⟨fun z => by omega, fun z => absurd z.2.1 hch⟩, fun z => by omega, by omega, o2⟩)
