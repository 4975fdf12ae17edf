/-! ## CHANGES of the class's state -/
theorem tabS_congr {s t : Int → Int} (h : t 25 = s 25) (h2 : ∀ k, 0 ≤ k → k < s 25 → t (2087 + k) = s (2087 + k)) : tabS t = tabS s := by
  unfold tabS
  rw [h]
  exact sg_congr (fun i a b => h2 i a (by omega))
theorem cpF_in (F : FM) {a : Nat} {sp dp n b : Int} {c : Nat} (h : dp ≤ b ∧ b < dp + n) : cpF F a sp c dp n c b = F a (sp + (b - dp)) := by unfold cpF; rw [if_pos ⟨rfl, h⟩]
theorem cpF_out (F : FM) {a : Nat} {sp dp n b : Int} {c : Nat} (h : ¬ (dp ≤ b ∧ b < dp + n)) : cpF F a sp c dp n c b = F c b := by unfold cpF; rw [if_neg (fun z => h z.2)]
theorem cpF_k (F : FM) {a c k : Nat} {sp dp n b : Int} (h : k ≠ c) : cpF F a sp c dp n k b = F k b := by unfold cpF; rw [if_neg (fun z => h z.1)]
theorem cpF_kr (F : FM) {a c k : Nat} {sp dp n : Int} (h : k ≠ c) : cpF F a sp c dp n k = F k := funext fun b => cpF_k F h
theorem sp_logEmpty {d : Nat} {kd : KL} {F : FM} {P : PM} {B : Nat} (hd : 1 ≤ d) (hS : shS kd P B) : Sp d 23 [.inr (some (B + 9))] kd F P (QN kd P (fun F' => F' (B + 9) 1 = 0 ∧ F' (B + 9) 2 = 0 ∧ ∀ k, k ≠ B + 9 → F' k = F k)) := by
  refine Sp_of (me := mX4_empty) (by omega) pX4_empty ⟨rfl, Nat.le_of_ble_eq_true rfl⟩ ?_
  refine R_aload_n fX4_empty_0 rfl ?_
  refine R_iconst fX4_empty_1 ?_
  refine R_putI 1 fX4_empty_2 (shS_k9 hS) (shS_3 hS 9) rfl rfl rfl ?_
  refine R_aload_n fX4_empty_5 rfl ?_
  refine R_iconst fX4_empty_6 ?_
  refine R_putI 2 fX4_empty_7 (shS_k9 hS) (shS_3 hS 9) rfl rfl rfl ?_
  refine R_return fX4_empty_10 rfl ?_
  refine ⟨_, rfl, ?_, ?_, fun k hk => ?_⟩
  · simp (disch := omega) only [stt_k, stt_j, stt_eq]
  · simp (disch := omega) only [stt_k, stt_j, stt_eq]
  · simp (disch := omega) only [stt_kr]
theorem sp_prEmpty {d : Nat} {kd : KL} {F : FM} {P : PM} {B : Nat} (hd : 1 ≤ d) (hS : shS kd P B) : Sp d 17 [.inr (some (B + 11))] kd F P (QN kd P (fun F' => F' (B + 11) 4 = 0 ∧ ∀ k, k ≠ B + 11 → F' k = F k)) := by
  refine Sp_of (me := mX3_empty) (by omega) pX3_empty ⟨rfl, Nat.le_of_ble_eq_true rfl⟩ ?_
  refine R_aload_n fX3_empty_0 rfl ?_
  refine R_iconst fX3_empty_1 ?_
  refine R_putI 4 fX3_empty_2 (shS_k11 hS) (shS_3 hS 11) rfl rfl rfl ?_
  refine R_return fX3_empty_5 rfl ?_
  refine ⟨_, rfl, ?_, fun k hk => ?_⟩
  · simp (disch := omega) only [stt_k, stt_j, stt_eq]
  · simp (disch := omega) only [stt_kr]
theorem sp_logCopy {d : Nat} {kd : KL} {F : FM} {P : PM} {A B : Nat} (hd : 3 ≤ d) (hS : shS kd P B) (hA : shS kd P A) (hAB : A + 16 ≤ B ∨ B + 16 ≤ A) : Sp d 24 [.inr (some (B + 9)), .inr (some (A + 9))] kd F P (QN kd P (fun F' => F' (B + 9) 1 = F (A + 9) 1 ∧ F' (B + 9) 2 = F (A + 9) 2 ∧ (∀ j, 0 ≤ j → j < 96 → F' (B + 10) j = F (A + 10) j) ∧ ∀ k, k ≠ B + 9 → k ≠ B + 10 → F' k = F k)) := by
  refine Sp_of (me := mX4_copyFrom) (by omega) pX4_copyFrom ⟨rfl, Nat.le_of_ble_eq_true rfl⟩ ?_
  refine R_aload_n fX4_copyFrom_0 rfl ?_
  refine R_aload_n fX4_copyFrom_1 rfl ?_
  refine R_getI 1 fX4_copyFrom_2 (shS_k9 hA) (shS_3 hA 9) rfl rfl rfl ?_
  refine R_putI 1 fX4_copyFrom_5 (shS_k9 hS) (shS_3 hS 9) rfl rfl rfl ?_
  refine R_aload_n fX4_copyFrom_8 rfl ?_
  refine R_aload_n fX4_copyFrom_9 rfl ?_
  refine R_getI 2 fX4_copyFrom_10 (shS_k9 hA) (shS_3 hA 9) rfl rfl rfl ?_
  refine R_putI 2 fX4_copyFrom_13 (shS_k9 hS) (shS_3 hS 9) rfl rfl rfl ?_
  refine R_aload_n fX4_copyFrom_16 rfl ?_
  refine R_getP 0 fX4_copyFrom_17 (shS_k9 hA) (shS_3 hA 9) rfl rfl rfl (shS_q0 hA) ?_
  refine R_iconst fX4_copyFrom_20 ?_
  refine R_aload_n fX4_copyFrom_21 rfl ?_
  refine R_getP 0 fX4_copyFrom_22 (shS_k9 hS) (shS_3 hS 9) rfl rfl rfl (shS_q0 hS) ?_
  refine R_iconst fX4_copyFrom_25 ?_
  refine R_bipush fX4_copyFrom_26 ?_
  refine R_copy fX4_copyFrom_28 (by omega) (shS_k10 hA) (shS_k10 hS) (shS_3 hS 10) (by decide) ?_
  refine R_return fX4_copyFrom_31 rfl ?_
  refine ⟨_, rfl, ?_, ?_, fun j a b => ?_, fun k h1 h2 => ?_⟩
  · simp (disch := omega) only [cpF_k, stt_k, stt_j, stt_eq]
  · simp (disch := omega) only [cpF_k, stt_k, stt_j, stt_eq]
  · rw [cpF_in _ (by omega), show 0 + (j - 0) = j by omega]
    simp (disch := omega) only [stt_k]
  · simp (disch := omega) only [cpF_kr, stt_kr]
theorem sp_prCopy {d : Nat} {kd : KL} {F : FM} {P : PM} {A B : Nat} (hd : 3 ≤ d) (hS : shS kd P B) (hA : shS kd P A) (hAB : A + 16 ≤ B ∨ B + 16 ≤ A) (hb : 0 ≤ F (A + 11) 4 ∧ F (A + 11) 4 ≤ 484) : Sp d 18 [.inr (some (B + 11)), .inr (some (A + 11))] kd F P (QN kd P (fun F' => F' (B + 11) 4 = F (A + 11) 4 ∧ (∀ j, 0 ≤ j → j < F (A + 11) 4 → F' (B + 12) j = F (A + 12) j ∧ F' (B + 13) j = F (A + 13) j ∧ F' (B + 14) j = F (A + 14) j ∧ F' (B + 15) j = F (A + 15) j) ∧ ∀ k, (k < B + 11 ∨ B + 16 ≤ k) → F' k = F k)) := by
  refine Sp_of (me := mX3_copyFrom) (by omega) pX3_copyFrom ⟨rfl, Nat.le_of_ble_eq_true rfl⟩ ?_
  refine R_aload_n fX3_copyFrom_0 rfl ?_
  refine R_aload_n fX3_copyFrom_1 rfl ?_
  refine R_getI 4 fX3_copyFrom_2 (shS_k11 hA) (shS_3 hA 11) rfl rfl rfl ?_
  refine R_putI 4 fX3_copyFrom_5 (shS_k11 hS) (shS_3 hS 11) rfl rfl rfl ?_
  refine R_aload_n fX3_copyFrom_8 rfl ?_
  refine R_getP 0 fX3_copyFrom_9 (shS_k11 hA) (shS_3 hA 11) rfl rfl rfl (shS_r0 hA) ?_
  refine R_iconst fX3_copyFrom_12 ?_
  refine R_aload_n fX3_copyFrom_13 rfl ?_
  refine R_getP 0 fX3_copyFrom_14 (shS_k11 hS) (shS_3 hS 11) rfl rfl rfl (shS_r0 hS) ?_
  refine R_iconst fX3_copyFrom_17 ?_
  refine R_aload_n fX3_copyFrom_18 rfl ?_
  refine R_getI 4 fX3_copyFrom_19 (shS_k11 hS) (shS_3 hS 11) rfl rfl rfl ?_
  refine R_copy fX3_copyFrom_22 (by omega) (shS_k12 hA) (shS_k12 hS) (shS_3 hS 12) (by simp (disch := omega) only [cpF_k, stt_k, stt_j, stt_eq]; omega) ?_
  refine R_aload_n fX3_copyFrom_25 rfl ?_
  refine R_getP 1 fX3_copyFrom_26 (shS_k11 hA) (shS_3 hA 11) rfl rfl rfl (shS_r1 hA) ?_
  refine R_iconst fX3_copyFrom_29 ?_
  refine R_aload_n fX3_copyFrom_30 rfl ?_
  refine R_getP 1 fX3_copyFrom_31 (shS_k11 hS) (shS_3 hS 11) rfl rfl rfl (shS_r1 hS) ?_
  refine R_iconst fX3_copyFrom_34 ?_
  refine R_aload_n fX3_copyFrom_35 rfl ?_
  refine R_getI 4 fX3_copyFrom_36 (shS_k11 hS) (shS_3 hS 11) rfl rfl rfl ?_
  refine R_copy fX3_copyFrom_39 (by omega) (shS_k13 hA) (shS_k13 hS) (shS_3 hS 13) (by simp (disch := omega) only [cpF_k, stt_k, stt_j, stt_eq]; omega) ?_
  refine R_aload_n fX3_copyFrom_42 rfl ?_
  refine R_getP 2 fX3_copyFrom_43 (shS_k11 hA) (shS_3 hA 11) rfl rfl rfl (shS_r2 hA) ?_
  refine R_iconst fX3_copyFrom_46 ?_
  refine R_aload_n fX3_copyFrom_47 rfl ?_
  refine R_getP 2 fX3_copyFrom_48 (shS_k11 hS) (shS_3 hS 11) rfl rfl rfl (shS_r2 hS) ?_
  refine R_iconst fX3_copyFrom_51 ?_
  refine R_aload_n fX3_copyFrom_52 rfl ?_
  refine R_getI 4 fX3_copyFrom_53 (shS_k11 hS) (shS_3 hS 11) rfl rfl rfl ?_
  refine R_copy fX3_copyFrom_56 (by omega) (shS_k14 hA) (shS_k14 hS) (shS_3 hS 14) (by simp (disch := omega) only [cpF_k, stt_k, stt_j, stt_eq]; omega) ?_
  refine R_aload_n fX3_copyFrom_59 rfl ?_
  refine R_getP 3 fX3_copyFrom_60 (shS_k11 hA) (shS_3 hA 11) rfl rfl rfl (shS_r3 hA) ?_
  refine R_iconst fX3_copyFrom_63 ?_
  refine R_aload_n fX3_copyFrom_64 rfl ?_
  refine R_getP 3 fX3_copyFrom_65 (shS_k11 hS) (shS_3 hS 11) rfl rfl rfl (shS_r3 hS) ?_
  refine R_iconst fX3_copyFrom_68 ?_
  refine R_aload_n fX3_copyFrom_69 rfl ?_
  refine R_getI 4 fX3_copyFrom_70 (shS_k11 hS) (shS_3 hS 11) rfl rfl rfl ?_
  refine R_copy fX3_copyFrom_73 (by omega) (shS_k15 hA) (shS_k15 hS) (shS_3 hS 15) (by simp (disch := omega) only [cpF_k, stt_k, stt_j, stt_eq]; omega) ?_
  refine R_return fX3_copyFrom_76 rfl ?_
  refine ⟨_, rfl, ?_, fun j a b => ⟨?_, ?_, ?_, ?_⟩, fun k h1 => ?_⟩
  · simp (disch := omega) only [cpF_k, stt_k, stt_j, stt_eq]
  · simp (disch := omega) only [cpF_k, stt_k, stt_j, stt_eq]
    rw [cpF_in _ (by omega), show 0 + (j - 0) = j by omega]
    simp (disch := omega) only [stt_k]
  · simp (disch := omega) only [cpF_k, stt_k, stt_j, stt_eq]
    rw [cpF_in _ (by omega), show 0 + (j - 0) = j by omega]
    simp (disch := omega) only [cpF_k, stt_k]
  · simp (disch := omega) only [cpF_k, stt_k, stt_j, stt_eq]
    rw [cpF_in _ (by omega), show 0 + (j - 0) = j by omega]
    simp (disch := omega) only [cpF_k, stt_k]
  · simp (disch := omega) only [cpF_k, stt_k, stt_j, stt_eq]
    rw [cpF_in _ (by omega), show 0 + (j - 0) = j by omega]
    simp (disch := omega) only [cpF_k, stt_k]
  · simp (disch := omega) only [cpF_kr, stt_kr]
theorem sp_logAdd {d : Nat} {kd : KL} {F : FM} {P : PM} {B O A : Nat} {st : Int} (hd : 3 ≤ d) (hS : shS kd P B) (hO : shO kd P O) (hQ : kd[A]? = some (0, 4)) (hBO : B + 16 ≤ O ∨ O + 3 ≤ B) (hAB : A ≠ B + 10) (hAB2 : A ≠ B + 9) (hb : 0 ≤ F (B + 9) 2 ∧ F (B + 9) 2 < 12) (hz : 0 ≤ F (B + 9) 1 ∧ F (B + 9) 1 ≤ 12) : Sp d 25 [.inr (some (B + 9)), .inr (some O), .inl st, .inr (some A)] kd F P (QN kd P (fun F' => F' (B + 9) 2 = (F (B + 9) 2 + 1) % 12 ∧ F' (B + 9) 1 = (if F (B + 9) 1 + 1 < 12 then F (B + 9) 1 + 1 else 12) ∧ F' (B + 10) ((F (B + 9) 2 + 1) % 12 * 8) = F O 0 ∧ F' (B + 10) ((F (B + 9) 2 + 1) % 12 * 8 + 1) = F O 1 ∧ F' (B + 10) ((F (B + 9) 2 + 1) % 12 * 8 + 2) = st ∧ F' (B + 10) ((F (B + 9) 2 + 1) % 12 * 8 + 3) = F O 2 ∧ (∀ q, 0 ≤ q → q < 4 → F' (B + 10) ((F (B + 9) 2 + 1) % 12 * 8 + 4 + q) = F A q) ∧ (∀ j, (j < (F (B + 9) 2 + 1) % 12 * 8 ∨ (F (B + 9) 2 + 1) % 12 * 8 + 8 ≤ j) → F' (B + 10) j = F (B + 10) j) ∧ ∀ k, k ≠ B + 9 → k ≠ B + 10 → F' k = F k)) := by
  refine Sp_of (me := mX4_add) (by omega) pX4_add ⟨rfl, Nat.le_of_ble_eq_true rfl⟩ ?_
  generalize hL : (F (B + 9) 2 + 1) % 12 = L
  have hLb : 0 ≤ L ∧ L < 12 := by omega
  refine R_aload_n fX4_add_0 rfl ?_
  refine R_aload_n fX4_add_1 rfl ?_
  refine R_getI 2 fX4_add_2 (shS_k9 hS) (shS_3 hS 9) rfl rfl rfl ?_
  refine R_iconst fX4_add_5 ?_
  refine R_iadd fX4_add_6 (by omega) ?_
  refine R_bipush fX4_add_7 ?_
  refine R_iremV fX4_add_9 (by omega) (show wr (F (B + 9) 2 + 1 - Int.tdiv (F (B + 9) 2 + 1) 12 * 12) = L by rw [wr_id (by unfold inb; rw [Int.tdiv_eq_ediv_of_nonneg (by omega)]; omega), Int.tdiv_eq_ediv_of_nonneg (by omega)]; omega) ?_
  refine R_putI 2 fX4_add_10 (shS_k9 hS) (shS_3 hS 9) rfl rfl rfl ?_
  refine R_aload_n fX4_add_13 rfl ?_
  refine R_aload_n fX4_add_14 rfl ?_
  refine R_getI 1 fX4_add_15 (shS_k9 hS) (shS_3 hS 9) rfl rfl rfl ?_
  refine R_iconst fX4_add_18 ?_
  refine R_iadd fX4_add_19 (by simp (disch := omega) only [stt_k, stt_j, stt_eq]; omega) ?_
  refine R_bipush fX4_add_20 ?_
  refine R_min fX4_add_22 (by omega) rfl ?_
  refine R_putI 1 fX4_add_25 (shS_k9 hS) (shS_3 hS 9) rfl rfl rfl ?_
  refine R_aload_n fX4_add_28 rfl ?_
  refine R_getI 2 fX4_add_29 (shS_k9 hS) (shS_3 hS 9) rfl rfl rfl ?_
  refine R_bipush fX4_add_32 ?_
  refine R_imulV fX4_add_34 (show wr _ = L * 8 by simp (disch := omega) only [stt_k, stt_j, stt_eq]; exact wr_id (by unfold inb; omega)) ?_
  refine R_istore fX4_add_35 rfl ?_
  refine R_aload_n fX4_add_37 rfl ?_
  refine R_getP 0 fX4_add_38 (shS_k9 hS) (shS_3 hS 9) rfl rfl rfl (shS_q0 hS) ?_
  refine R_iload fX4_add_41 rfl ?_
  refine R_iconst fX4_add_43 ?_
  refine R_iadd fX4_add_44 (by omega) ?_
  refine R_aload_n fX4_add_45 rfl ?_
  refine R_getI 0 fX4_add_46 hO.2.1 hO.1 rfl rfl rfl ?_
  refine R_iastore fX4_add_49 (shS_k10 hS) (shS_3 hS 10) (by omega) ?_
  refine R_aload_n fX4_add_50 rfl ?_
  refine R_getP 0 fX4_add_51 (shS_k9 hS) (shS_3 hS 9) rfl rfl rfl (shS_q0 hS) ?_
  refine R_iload fX4_add_54 rfl ?_
  refine R_iconst fX4_add_56 ?_
  refine R_iadd fX4_add_57 (by omega) ?_
  refine R_aload_n fX4_add_58 rfl ?_
  refine R_getI 1 fX4_add_59 hO.2.1 hO.1 rfl rfl rfl ?_
  refine R_iastore fX4_add_62 (shS_k10 hS) (shS_3 hS 10) (by omega) ?_
  refine R_aload_n fX4_add_63 rfl ?_
  refine R_getP 0 fX4_add_64 (shS_k9 hS) (shS_3 hS 9) rfl rfl rfl (shS_q0 hS) ?_
  refine R_iload fX4_add_67 rfl ?_
  refine R_iconst fX4_add_69 ?_
  refine R_iadd fX4_add_70 (by omega) ?_
  refine R_iload_n fX4_add_71 rfl ?_
  refine R_iastore fX4_add_72 (shS_k10 hS) (shS_3 hS 10) (by omega) ?_
  refine R_aload_n fX4_add_73 rfl ?_
  refine R_getP 0 fX4_add_74 (shS_k9 hS) (shS_3 hS 9) rfl rfl rfl (shS_q0 hS) ?_
  refine R_iload fX4_add_77 rfl ?_
  refine R_iconst fX4_add_79 ?_
  refine R_iadd fX4_add_80 (by omega) ?_
  refine R_aload_n fX4_add_81 rfl ?_
  refine R_getI 2 fX4_add_82 hO.2.1 hO.1 rfl rfl rfl ?_
  refine R_iastore fX4_add_85 (shS_k10 hS) (shS_3 hS 10) (by omega) ?_
  refine R_aload_n fX4_add_86 rfl ?_
  refine R_iconst fX4_add_87 ?_
  refine R_aload_n fX4_add_88 rfl ?_
  refine R_getP 0 fX4_add_89 (shS_k9 hS) (shS_3 hS 9) rfl rfl rfl (shS_q0 hS) ?_
  refine R_iload fX4_add_92 rfl ?_
  refine R_iconst fX4_add_94 ?_
  refine R_iadd fX4_add_95 (by omega) ?_
  refine R_iconst fX4_add_96 ?_
  refine R_copy fX4_add_97 (by omega) hQ (shS_k10 hS) (shS_3 hS 10) (by omega) ?_
  refine R_return fX4_add_100 rfl ?_
  refine ⟨_, rfl, ?_, ?_, ?_, ?_, ?_, ?_, fun q q0 q1 => ?_, fun j hj => ?_, fun k h1 h2 => ?_⟩
  · simp (disch := omega) only [cpF_k, stt_k, stt_j, stt_eq]
  · simp (disch := omega) only [cpF_k, stt_k, stt_j, stt_eq]
    split <;> split <;> omega
  · rw [cpF_out _ (by omega)]
    rw [Int.add_zero]
    simp (disch := omega) only [cpF_k, stt_k, stt_j, stt_eq]
  · rw [cpF_out _ (by omega)]
    simp (disch := omega) only [cpF_k, stt_k, stt_j, stt_eq]
  · rw [cpF_out _ (by omega)]
    simp (disch := omega) only [cpF_k, stt_k, stt_j, stt_eq]
  · rw [cpF_out _ (by omega)]
    simp (disch := omega) only [cpF_k, stt_k, stt_j, stt_eq]
  · rw [cpF_in _ (by omega), show 0 + (L * 8 + 4 + q - (L * 8 + 4)) = q by omega]
    simp (disch := omega) only [cpF_k, stt_k, stt_j, stt_eq]
  · rw [cpF_out _ (by omega)]
    simp (disch := omega) only [cpF_k, stt_k, stt_j, stt_eq]
  · simp (disch := omega) only [cpF_kr, stt_kr]
theorem sp_emptyTable {d : Nat} {kd : KL} {F : FM} {P : PM} {B : Nat} (hd : 1 ≤ d) (hS : shS kd P B) (hb : 0 ≤ F B 4 ∧ 0 ≤ F B 6 ∧ F B 4 + F B 6 ≤ 20) : Sp d 35 [.inr (some B)] kd F P (QN kd P (fun F' => (∀ k, 0 ≤ k → k < F B 6 → F' (B + 8) k = F (B + 8) (F B 4 + k)) ∧ F' B 4 = 0 ∧ F' B 5 = 0 ∧ (∀ j, j ≠ 4 → j ≠ 5 → F' B j = F B j) ∧ ∀ k, k ≠ B → k ≠ B + 8 → F' k = F k)) := by
  refine Sp_of (me := mX5_emptyTable) (by omega) pX5_emptyTable ⟨rfl, Nat.le_of_ble_eq_true rfl⟩ ?_
  have lp : ∀ (n : Nat) (i : Int) (G : FM), 0 ≤ i → i ≤ F B 6 → (∀ k, 0 ≤ k → k < i → G (B + 8) k = F (B + 8) (F B 4 + k)) → (∀ k, i ≤ k → G (B + 8) k = F (B + 8) k) → (∀ k, k ≠ B + 8 → G k = F k) → F B 6 - i < n → Rn (d - 1) mX5_emptyTable 2 [some (.inr (some B)), some (.inl i)] [] kd G P (QN kd P (fun F' => (∀ k, 0 ≤ k → k < F B 6 → F' (B + 8) k = F (B + 8) (F B 4 + k)) ∧ F' B 4 = 0 ∧ F' B 5 = 0 ∧ (∀ j, j ≠ 4 → j ≠ 5 → F' B j = F B j) ∧ ∀ k, k ≠ B → k ≠ B + 8 → F' k = F k)) := by
    intro n
    induction n with
    | zero => intro i G h0 h1 h2 h3 h4 h5; omega
    | succ n ih =>
      intro i G h0 h1 h2 h3 h4 h5
      have e4 : G B 4 = F B 4 := congrFun (h4 B (by omega)) 4
      have e6 : G B 6 = F B 6 := congrFun (h4 B (by omega)) 6
      refine R_iload_n fX5_emptyTable_2 rfl ?_
      refine R_aload_n fX5_emptyTable_3 rfl ?_
      refine R_getI 6 fX5_emptyTable_4 (shS_k0 hS) (shS_3 hS 0) rfl rfl rfl ?_
      refine R_icmp_ge fX5_emptyTable_7 rfl (fun h7 => ?_) (fun h7 => ?_)
      · refine R_aload_n fX5_emptyTable_33 rfl ?_
        refine R_iconst fX5_emptyTable_34 ?_
        refine R_putI 4 fX5_emptyTable_35 (shS_k0 hS) (shS_3 hS 0) rfl rfl rfl ?_
        refine R_aload_n fX5_emptyTable_38 rfl ?_
        refine R_iconst fX5_emptyTable_39 ?_
        refine R_putI 5 fX5_emptyTable_40 (shS_k0 hS) (shS_3 hS 0) rfl rfl rfl ?_
        refine R_return fX5_emptyTable_43 rfl ?_
        have hi : i = F B 6 := by omega
        subst hi
        refine ⟨_, rfl, fun k k0 k1 => ?_, ?_, ?_, fun j j1 j2 => ?_, fun k k1 k2 => ?_⟩
        · simp (disch := omega) only [stt_k]
          exact h2 k k0 k1
        · simp (disch := omega) only [stt_j, stt_eq]
        · simp (disch := omega) only [stt_eq]
        · simp (disch := omega) only [stt_j]
          rw [h4 B (by omega)]
        · simp (disch := omega) only [stt_kr]
          exact h4 k k2
      · refine R_aload_n fX5_emptyTable_10 rfl ?_
        refine R_getP 14 fX5_emptyTable_11 (shS_k0 hS) (shS_3 hS 0) rfl rfl rfl (shS_p14 hS) ?_
        refine R_iload_n fX5_emptyTable_14 rfl ?_
        refine R_aload_n fX5_emptyTable_15 rfl ?_
        refine R_getP 14 fX5_emptyTable_16 (shS_k0 hS) (shS_3 hS 0) rfl rfl rfl (shS_p14 hS) ?_
        refine R_aload_n fX5_emptyTable_19 rfl ?_
        refine R_getI 4 fX5_emptyTable_20 (shS_k0 hS) (shS_3 hS 0) rfl rfl rfl ?_
        refine R_iload_n fX5_emptyTable_23 rfl ?_
        refine R_iadd fX5_emptyTable_24 (by omega) ?_
        refine R_iaload fX5_emptyTable_25 (shS_k8 hS) (by omega) ?_
        refine R_iastore fX5_emptyTable_26 (shS_k8 hS) (shS_3 hS 8) (by omega) ?_
        refine R_iinc fX5_emptyTable_27 rfl (by omega) ?_
        refine R_goto fX5_emptyTable_30 rfl ?_
        refine ih _ _ (by omega) (by omega) (fun k k0 k1 => ?_) (fun k k0 => ?_) (fun k hk => ?_) (by omega)
        · by_cases hk : k = i
          · rw [hk, stt_eq, h3 _ (by omega), e4]
          · rw [stt_j _ _ hk]
            exact h2 k k0 (by omega)
        · rw [stt_j _ _ (by omega)]
          exact h3 k (by omega)
        · rw [stt_kr _ _ _ hk]
          exact h4 k hk
  refine R_iconst fX5_emptyTable_0 ?_
  refine R_istore_n fX5_emptyTable_1 rfl ?_
  exact lp 30 0 F (by omega) (by omega) (fun k a b => by omega) (fun _ _ => rfl) (fun _ _ => rfl) (by omega)
