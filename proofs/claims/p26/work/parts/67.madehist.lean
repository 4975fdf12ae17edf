/-- a state's pointers alone -/
def pS (P : PM) (B : Nat) : Prop := P B 7 = some (B + 1) ∧ P B 8 = some (B + 2) ∧ P B 9 = some (B + 3) ∧ P B 10 = some (B + 4) ∧ P B 11 = some (B + 5) ∧ P B 12 = some (B + 6) ∧ P B 13 = some (B + 7) ∧ P B 14 = some (B + 8) ∧ P B 15 = some (B + 9) ∧ P B 16 = some (B + 11) ∧ P (B + 9) 0 = some (B + 10) ∧ P (B + 11) 0 = some (B + 12) ∧ P (B + 11) 1 = some (B + 13) ∧ P (B + 11) 2 = some (B + 14) ∧ P (B + 11) 3 = some (B + 15)
theorem pS_of {kd : KL} {P : PM} {B : Nat} (h : shS kd P B) : pS P B := ⟨shS_p7 h, shS_p8 h, shS_p9 h, shS_p10 h, shS_p11 h, shS_p12 h, shS_p13 h, shS_p14 h, shS_p15 h, shS_p16 h, shS_q0 h, shS_r0 h, shS_r1 h, shS_r2 h, shS_r3 h⟩
theorem pS_P {P P' : PM} {B : Nat} (h : pS P B) (hP : ∀ k, B ≤ k → k < B + 16 → P' k = P k) : pS P' B := by
  unfold pS at *
  rw [hP B (by omega) (by omega), hP (B + 9) (by omega) (by omega), hP (B + 11) (by omega) (by omega)]
  exact h
theorem shS_of {kd : KL} {P : PM} {B : Nat} (h3 : 3 ≤ B) (hk : kd[B]? = some (7, 17) ∧ kd[B + 1]? = some (0, 4) ∧ kd[B + 2]? = some (0, 4) ∧ kd[B + 3]? = some (0, 4) ∧ kd[B + 4]? = some (0, 4) ∧ kd[B + 5]? = some (0, 4) ∧ kd[B + 6]? = some (0, 4) ∧ kd[B + 7]? = some (0, 3) ∧ kd[B + 8]? = some (0, 20) ∧ kd[B + 9]? = some (6, 3) ∧ kd[B + 10]? = some (0, 96) ∧ kd[B + 11]? = some (5, 5) ∧ kd[B + 12]? = some (0, 484) ∧ kd[B + 13]? = some (0, 484) ∧ kd[B + 14]? = some (0, 484) ∧ kd[B + 15]? = some (0, 484)) (h : pS P B) : shS kd P B := by
  obtain ⟨a0, a1, a2, a3, a4, a5, a6, a7, a8, a9, a10, a11, a12, a13, a14, a15⟩ := hk
  exact ⟨h3, a0, a1, a2, a3, a4, a5, a6, a7, a8, a9, a10, a11, a12, a13, a14, a15, h⟩
set_option maxHeartbeats 4000000 in
theorem sp_iHist {d : Nat} {kd : KL} {F : FM} {P : PM}  (hd : 5 ≤ d) (hk : kd[4]? = some (3, 2)) (hl : kd.length = 5) (h1 : kd[1]? = some (0, 3)) (hF : F 1 0 = 1 ∧ F 1 1 = 0 ∧ F 1 2 = 1) : Sp d 7 [.inr (some 4)] kd F P (QG (fun kd' F' P' => kd' = kd ++ [(1, 4), (7, 17), (0, 4), (0, 4), (0, 4), (0, 4), (0, 4), (0, 4), (0, 3), (0, 20), (6, 3), (0, 96), (5, 5), (0, 484), (0, 484), (0, 484), (0, 484), (7, 17), (0, 4), (0, 4), (0, 4), (0, 4), (0, 4), (0, 4), (0, 3), (0, 20), (6, 3), (0, 96), (5, 5), (0, 484), (0, 484), (0, 484), (0, 484), (7, 17), (0, 4), (0, 4), (0, 4), (0, 4), (0, 4), (0, 4), (0, 3), (0, 20), (6, 3), (0, 96), (5, 5), (0, 484), (0, 484), (0, 484), (0, 484), (7, 17), (0, 4), (0, 4), (0, 4), (0, 4), (0, 4), (0, 4), (0, 3), (0, 20), (6, 3), (0, 96), (5, 5), (0, 484), (0, 484), (0, 484), (0, 484)] ∧ (P' 4 0 = some 5 ∧ (P' 5 0 = some 6 ∧ P' 5 1 = some 22 ∧ P' 5 2 = some 38 ∧ P' 5 3 = some 54) ∧ pS P' 6 ∧ pS P' 22 ∧ pS P' 38 ∧ pS P' 54) ∧ F' 4 = F 4 ∧ LT 4 F F' P P')) := by
  refine Sp_of (me := mX1_init) (by omega) pX1_init ⟨rfl, Nat.le_of_ble_eq_true rfl⟩ ?_
  refine R_aload_n fX1_init_0 rfl ?_
  refine R_objinit fX1_init_1 (by omega) ?_
  refine R_aload_n fX1_init_4 rfl ?_
  refine R_iconst fX1_init_5 ?_
  refine R_newP1 fX1_init_6 (by decide) (q := 5) hl (l' := [(1, 4)]) rfl ?_
  refine R_putP 0 fX1_init_9 ((ap_old (by omega)).trans hk) (by omega) rfl rfl rfl ?_
  refine R_iconst fX1_init_12 ?_
  refine R_istore_n fX1_init_13 rfl ?_
  have r0 : stp_ (clP P 5) 4 0 (some 5) 4 0 = some 5 := stp_eq _ _ _ _
  have t0 : LT 4 F F P (stp_ (clP P 5) 4 0 (some 5)) := LT_sp (LT_clP LT_rfl (by omega)) (by omega)
  have f0 : F 4 = F 4 := rfl
  revert r0 t0
  generalize stp_ (clP P 5) 4 0 (some 5) = P0
  intro r0 t0
  refine R_iload_n fX1_init_14 rfl ?_
  refine R_iconst fX1_init_15 ?_
  refine R_icmp_ge fX1_init_16 rfl (fun h => absurd h (by omega)) (fun _ => ?_)
  refine R_aload_n fX1_init_19 rfl ?_
  refine R_getP 0 fX1_init_20 ((ap_old (by omega)).trans hk) (by omega) rfl rfl rfl r0 ?_
  refine R_iload_n fX1_init_23 rfl ?_
  refine R_newO fX1_init_24 (q := 6) (by rw [hl]; rfl) (l' := [(1, 4), (7, 17)]) rfl ?_
  refine R_dup fX1_init_27 ?_
  refine R_callG fX1_init_28 rfl rfl pX5_init rfl ⟨Nat.le_of_ble_eq_true rfl, rfl⟩ (sp_iState (B := 6) (by omega) (by omega) ((ap_new (j := 1) hl).trans rfl) (by rw [List.length_append, hl]; rfl) ((ap_old (by omega)).trans h1) (by rw [clF_ne _ (by omega), (t0 1 (by omega)).1]; exact hF)) (fun kd1 F1 Q1 e1 => ?_)
  obtain ⟨e1, s1, -, u1⟩ := e1
  subst e1
  rw [List.append_assoc]
  refine (?_ : Rn (d - 1) mX1_init 31 _ _ (kd ++ [(1, 4), (7, 17), (0, 4), (0, 4), (0, 4), (0, 4), (0, 4), (0, 4), (0, 3), (0, 20), (6, 3), (0, 96), (5, 5), (0, 484), (0, 484), (0, 484), (0, 484)]) _ _ _)
  refine R_aastore fX1_init_31 ((ap_new (j := 0) hl).trans rfl) (by omega) (by omega) ⟨by omega, (ap_new (j := 1) hl).trans rfl⟩ ?_
  refine R_iinc fX1_init_32 rfl (by omega) ?_
  rw [show ((0 : Int) + 1) = 1 from rfl]
  refine R_goto fX1_init_35 rfl ?_
  have g1 : ∀ k, k < 6 → k ≠ 5 → stp_ Q1 5 0 (some 6) k = P0 k := fun k a b => by rw [stp_kr _ _ _ b, (u1 k a).2, clP_ne _ (by omega)]
  have r1 : stp_ Q1 5 0 (some 6) 4 0 = some 5 := by rw [g1 4 (by omega) (by omega)]; exact r0
  have t1 : LT 4 F F1 P (stp_ Q1 5 0 (some 6)) := LT_sp (LT_tr t0 (LT_tr (LT_clF (LT_clP LT_rfl (B := 6) (by omega)) (by omega)) u1 (by omega)) (by omega)) (by omega)
  have f1 : F1 4 = F 4 := by rw [(u1 4 (by omega)).1, clF_ne _ (by omega)]
  have p1 : pS (stp_ Q1 5 0 (some 6)) 6 := pS_P (pS_of s1) (fun k a b => stp_kr _ _ _ (by omega))
  have v1 : stp_ Q1 5 0 (some 6) 5 0 = some 6 := stp_eq _ _ _ _
  clear g1 u1 s1 r0 t0 f0
  revert r1 t1 p1 v1
  generalize stp_ Q1 5 0 (some 6) = P1
  intro r1 t1 p1 v1
  refine R_iload_n fX1_init_14 rfl ?_
  refine R_iconst fX1_init_15 ?_
  refine R_icmp_ge fX1_init_16 rfl (fun h => absurd h (by omega)) (fun _ => ?_)
  refine R_aload_n fX1_init_19 rfl ?_
  refine R_getP 0 fX1_init_20 ((ap_old (by omega)).trans hk) (by omega) rfl rfl rfl r1 ?_
  refine R_iload_n fX1_init_23 rfl ?_
  refine R_newO fX1_init_24 (q := 22) (by rw [hl]; rfl) (l' := [(1, 4), (7, 17), (0, 4), (0, 4), (0, 4), (0, 4), (0, 4), (0, 4), (0, 3), (0, 20), (6, 3), (0, 96), (5, 5), (0, 484), (0, 484), (0, 484), (0, 484), (7, 17)]) rfl ?_
  refine R_dup fX1_init_27 ?_
  refine R_callG fX1_init_28 rfl rfl pX5_init rfl ⟨Nat.le_of_ble_eq_true rfl, rfl⟩ (sp_iState (B := 22) (by omega) (by omega) ((ap_new (j := 17) hl).trans rfl) (by rw [List.length_append, hl]; rfl) ((ap_old (by omega)).trans h1) (by rw [clF_ne _ (by omega), (t1 1 (by omega)).1]; exact hF)) (fun kd1 F2 Q2 e1 => ?_)
  obtain ⟨e1, s2, -, u2⟩ := e1
  subst e1
  rw [List.append_assoc]
  refine (?_ : Rn (d - 1) mX1_init 31 _ _ (kd ++ [(1, 4), (7, 17), (0, 4), (0, 4), (0, 4), (0, 4), (0, 4), (0, 4), (0, 3), (0, 20), (6, 3), (0, 96), (5, 5), (0, 484), (0, 484), (0, 484), (0, 484), (7, 17), (0, 4), (0, 4), (0, 4), (0, 4), (0, 4), (0, 4), (0, 3), (0, 20), (6, 3), (0, 96), (5, 5), (0, 484), (0, 484), (0, 484), (0, 484)]) _ _ _)
  refine R_aastore fX1_init_31 ((ap_new (j := 0) hl).trans rfl) (by omega) (by omega) ⟨by omega, (ap_new (j := 17) hl).trans rfl⟩ ?_
  refine R_iinc fX1_init_32 rfl (by omega) ?_
  rw [show ((1 : Int) + 1) = 2 from rfl]
  refine R_goto fX1_init_35 rfl ?_
  have g2 : ∀ k, k < 22 → k ≠ 5 → stp_ Q2 5 1 (some 22) k = P1 k := fun k a b => by rw [stp_kr _ _ _ b, (u2 k a).2, clP_ne _ (by omega)]
  have r2 : stp_ Q2 5 1 (some 22) 4 0 = some 5 := by rw [g2 4 (by omega) (by omega)]; exact r1
  have t2 : LT 4 F F2 P (stp_ Q2 5 1 (some 22)) := LT_sp (LT_tr t1 (LT_tr (LT_clF (LT_clP LT_rfl (B := 22) (by omega)) (by omega)) u2 (by omega)) (by omega)) (by omega)
  have f2 : F2 4 = F 4 := by rw [(u2 4 (by omega)).1, clF_ne _ (by omega)]; exact f1
  have p1 : pS (stp_ Q2 5 1 (some 22)) 6 := pS_P p1 (fun k a b => g2 k (by omega) (by omega))
  have v1 : stp_ Q2 5 1 (some 22) 5 0 = some 6 := by rw [stp_j _ _ (by omega), (u2 5 (by omega)).2, clP_ne _ (by omega)]; exact v1
  have p2 : pS (stp_ Q2 5 1 (some 22)) 22 := pS_P (pS_of s2) (fun k a b => stp_kr _ _ _ (by omega))
  have v2 : stp_ Q2 5 1 (some 22) 5 1 = some 22 := stp_eq _ _ _ _
  clear g2 u2 s2 r1 t1 f1
  revert r2 t2 p1 v1 p2 v2
  generalize stp_ Q2 5 1 (some 22) = P2
  intro r2 t2 p1 v1 p2 v2
  refine R_iload_n fX1_init_14 rfl ?_
  refine R_iconst fX1_init_15 ?_
  refine R_icmp_ge fX1_init_16 rfl (fun h => absurd h (by omega)) (fun _ => ?_)
  refine R_aload_n fX1_init_19 rfl ?_
  refine R_getP 0 fX1_init_20 ((ap_old (by omega)).trans hk) (by omega) rfl rfl rfl r2 ?_
  refine R_iload_n fX1_init_23 rfl ?_
  refine R_newO fX1_init_24 (q := 38) (by rw [hl]; rfl) (l' := [(1, 4), (7, 17), (0, 4), (0, 4), (0, 4), (0, 4), (0, 4), (0, 4), (0, 3), (0, 20), (6, 3), (0, 96), (5, 5), (0, 484), (0, 484), (0, 484), (0, 484), (7, 17), (0, 4), (0, 4), (0, 4), (0, 4), (0, 4), (0, 4), (0, 3), (0, 20), (6, 3), (0, 96), (5, 5), (0, 484), (0, 484), (0, 484), (0, 484), (7, 17)]) rfl ?_
  refine R_dup fX1_init_27 ?_
  refine R_callG fX1_init_28 rfl rfl pX5_init rfl ⟨Nat.le_of_ble_eq_true rfl, rfl⟩ (sp_iState (B := 38) (by omega) (by omega) ((ap_new (j := 33) hl).trans rfl) (by rw [List.length_append, hl]; rfl) ((ap_old (by omega)).trans h1) (by rw [clF_ne _ (by omega), (t2 1 (by omega)).1]; exact hF)) (fun kd1 F3 Q3 e1 => ?_)
  obtain ⟨e1, s3, -, u3⟩ := e1
  subst e1
  rw [List.append_assoc]
  refine (?_ : Rn (d - 1) mX1_init 31 _ _ (kd ++ [(1, 4), (7, 17), (0, 4), (0, 4), (0, 4), (0, 4), (0, 4), (0, 4), (0, 3), (0, 20), (6, 3), (0, 96), (5, 5), (0, 484), (0, 484), (0, 484), (0, 484), (7, 17), (0, 4), (0, 4), (0, 4), (0, 4), (0, 4), (0, 4), (0, 3), (0, 20), (6, 3), (0, 96), (5, 5), (0, 484), (0, 484), (0, 484), (0, 484), (7, 17), (0, 4), (0, 4), (0, 4), (0, 4), (0, 4), (0, 4), (0, 3), (0, 20), (6, 3), (0, 96), (5, 5), (0, 484), (0, 484), (0, 484), (0, 484)]) _ _ _)
  refine R_aastore fX1_init_31 ((ap_new (j := 0) hl).trans rfl) (by omega) (by omega) ⟨by omega, (ap_new (j := 33) hl).trans rfl⟩ ?_
  refine R_iinc fX1_init_32 rfl (by omega) ?_
  rw [show ((2 : Int) + 1) = 3 from rfl]
  refine R_goto fX1_init_35 rfl ?_
  have g3 : ∀ k, k < 38 → k ≠ 5 → stp_ Q3 5 2 (some 38) k = P2 k := fun k a b => by rw [stp_kr _ _ _ b, (u3 k a).2, clP_ne _ (by omega)]
  have r3 : stp_ Q3 5 2 (some 38) 4 0 = some 5 := by rw [g3 4 (by omega) (by omega)]; exact r2
  have t3 : LT 4 F F3 P (stp_ Q3 5 2 (some 38)) := LT_sp (LT_tr t2 (LT_tr (LT_clF (LT_clP LT_rfl (B := 38) (by omega)) (by omega)) u3 (by omega)) (by omega)) (by omega)
  have f3 : F3 4 = F 4 := by rw [(u3 4 (by omega)).1, clF_ne _ (by omega)]; exact f2
  have p1 : pS (stp_ Q3 5 2 (some 38)) 6 := pS_P p1 (fun k a b => g3 k (by omega) (by omega))
  have v1 : stp_ Q3 5 2 (some 38) 5 0 = some 6 := by rw [stp_j _ _ (by omega), (u3 5 (by omega)).2, clP_ne _ (by omega)]; exact v1
  have p2 : pS (stp_ Q3 5 2 (some 38)) 22 := pS_P p2 (fun k a b => g3 k (by omega) (by omega))
  have v2 : stp_ Q3 5 2 (some 38) 5 1 = some 22 := by rw [stp_j _ _ (by omega), (u3 5 (by omega)).2, clP_ne _ (by omega)]; exact v2
  have p3 : pS (stp_ Q3 5 2 (some 38)) 38 := pS_P (pS_of s3) (fun k a b => stp_kr _ _ _ (by omega))
  have v3 : stp_ Q3 5 2 (some 38) 5 2 = some 38 := stp_eq _ _ _ _
  clear g3 u3 s3 r2 t2 f2
  revert r3 t3 p1 v1 p2 v2 p3 v3
  generalize stp_ Q3 5 2 (some 38) = P3
  intro r3 t3 p1 v1 p2 v2 p3 v3
  refine R_iload_n fX1_init_14 rfl ?_
  refine R_iconst fX1_init_15 ?_
  refine R_icmp_ge fX1_init_16 rfl (fun h => absurd h (by omega)) (fun _ => ?_)
  refine R_aload_n fX1_init_19 rfl ?_
  refine R_getP 0 fX1_init_20 ((ap_old (by omega)).trans hk) (by omega) rfl rfl rfl r3 ?_
  refine R_iload_n fX1_init_23 rfl ?_
  refine R_newO fX1_init_24 (q := 54) (by rw [hl]; rfl) (l' := [(1, 4), (7, 17), (0, 4), (0, 4), (0, 4), (0, 4), (0, 4), (0, 4), (0, 3), (0, 20), (6, 3), (0, 96), (5, 5), (0, 484), (0, 484), (0, 484), (0, 484), (7, 17), (0, 4), (0, 4), (0, 4), (0, 4), (0, 4), (0, 4), (0, 3), (0, 20), (6, 3), (0, 96), (5, 5), (0, 484), (0, 484), (0, 484), (0, 484), (7, 17), (0, 4), (0, 4), (0, 4), (0, 4), (0, 4), (0, 4), (0, 3), (0, 20), (6, 3), (0, 96), (5, 5), (0, 484), (0, 484), (0, 484), (0, 484), (7, 17)]) rfl ?_
  refine R_dup fX1_init_27 ?_
  refine R_callG fX1_init_28 rfl rfl pX5_init rfl ⟨Nat.le_of_ble_eq_true rfl, rfl⟩ (sp_iState (B := 54) (by omega) (by omega) ((ap_new (j := 49) hl).trans rfl) (by rw [List.length_append, hl]; rfl) ((ap_old (by omega)).trans h1) (by rw [clF_ne _ (by omega), (t3 1 (by omega)).1]; exact hF)) (fun kd1 F4 Q4 e1 => ?_)
  obtain ⟨e1, s4, -, u4⟩ := e1
  subst e1
  rw [List.append_assoc]
  refine (?_ : Rn (d - 1) mX1_init 31 _ _ (kd ++ [(1, 4), (7, 17), (0, 4), (0, 4), (0, 4), (0, 4), (0, 4), (0, 4), (0, 3), (0, 20), (6, 3), (0, 96), (5, 5), (0, 484), (0, 484), (0, 484), (0, 484), (7, 17), (0, 4), (0, 4), (0, 4), (0, 4), (0, 4), (0, 4), (0, 3), (0, 20), (6, 3), (0, 96), (5, 5), (0, 484), (0, 484), (0, 484), (0, 484), (7, 17), (0, 4), (0, 4), (0, 4), (0, 4), (0, 4), (0, 4), (0, 3), (0, 20), (6, 3), (0, 96), (5, 5), (0, 484), (0, 484), (0, 484), (0, 484), (7, 17), (0, 4), (0, 4), (0, 4), (0, 4), (0, 4), (0, 4), (0, 3), (0, 20), (6, 3), (0, 96), (5, 5), (0, 484), (0, 484), (0, 484), (0, 484)]) _ _ _)
  refine R_aastore fX1_init_31 ((ap_new (j := 0) hl).trans rfl) (by omega) (by omega) ⟨by omega, (ap_new (j := 49) hl).trans rfl⟩ ?_
  refine R_iinc fX1_init_32 rfl (by omega) ?_
  rw [show ((3 : Int) + 1) = 4 from rfl]
  refine R_goto fX1_init_35 rfl ?_
  have g4 : ∀ k, k < 54 → k ≠ 5 → stp_ Q4 5 3 (some 54) k = P3 k := fun k a b => by rw [stp_kr _ _ _ b, (u4 k a).2, clP_ne _ (by omega)]
  have r4 : stp_ Q4 5 3 (some 54) 4 0 = some 5 := by rw [g4 4 (by omega) (by omega)]; exact r3
  have t4 : LT 4 F F4 P (stp_ Q4 5 3 (some 54)) := LT_sp (LT_tr t3 (LT_tr (LT_clF (LT_clP LT_rfl (B := 54) (by omega)) (by omega)) u4 (by omega)) (by omega)) (by omega)
  have f4 : F4 4 = F 4 := by rw [(u4 4 (by omega)).1, clF_ne _ (by omega)]; exact f3
  have p1 : pS (stp_ Q4 5 3 (some 54)) 6 := pS_P p1 (fun k a b => g4 k (by omega) (by omega))
  have v1 : stp_ Q4 5 3 (some 54) 5 0 = some 6 := by rw [stp_j _ _ (by omega), (u4 5 (by omega)).2, clP_ne _ (by omega)]; exact v1
  have p2 : pS (stp_ Q4 5 3 (some 54)) 22 := pS_P p2 (fun k a b => g4 k (by omega) (by omega))
  have v2 : stp_ Q4 5 3 (some 54) 5 1 = some 22 := by rw [stp_j _ _ (by omega), (u4 5 (by omega)).2, clP_ne _ (by omega)]; exact v2
  have p3 : pS (stp_ Q4 5 3 (some 54)) 38 := pS_P p3 (fun k a b => g4 k (by omega) (by omega))
  have v3 : stp_ Q4 5 3 (some 54) 5 2 = some 38 := by rw [stp_j _ _ (by omega), (u4 5 (by omega)).2, clP_ne _ (by omega)]; exact v3
  have p4 : pS (stp_ Q4 5 3 (some 54)) 54 := pS_P (pS_of s4) (fun k a b => stp_kr _ _ _ (by omega))
  have v4 : stp_ Q4 5 3 (some 54) 5 3 = some 54 := stp_eq _ _ _ _
  clear g4 u4 s4 r3 t3 f3
  revert r4 t4 p1 v1 p2 v2 p3 v3 p4 v4
  generalize stp_ Q4 5 3 (some 54) = P4
  intro r4 t4 p1 v1 p2 v2 p3 v3 p4 v4
  refine R_iload_n fX1_init_14 rfl ?_
  refine R_iconst fX1_init_15 ?_
  refine R_icmp_ge fX1_init_16 rfl (fun _ => ?_) (fun h => absurd h (by omega))
  refine R_return fX1_init_38 rfl ?_
  exact ⟨_, _, _, rfl, rfl, ⟨r4, ⟨v1, v2, v3, v4⟩, p1, p2, p3, p4⟩, f4, t4⟩
theorem sp_iAdv {d : Nat} {kd : KL} {F : FM} {P : PM} {B : Nat} (hd : 3 ≤ d) (h3 : 3 ≤ B) (hk : kd[B]? = some (2, 2)) (hl : kd.length = B + 1) : Sp d 0 [.inr (some B)] kd F P (QG (fun kd' F' P' => kd' = kd ++ [(4, 6), (0, 4), (0, 4), (0, 4)] ∧ F' = clF (clF (clF (clF F (B + 1)) (B + 1 + 1)) (B + 1 + 2)) (B + 4) ∧ P' = stp_ (stp_ (stp_ (stp_ (clP P (B + 1)) (B + 1) 4 (some (B + 1 + 1))) (B + 1) 5 (some (B + 1 + 2))) B 0 (some (B + 1))) B 1 (some (B + 4)))) := by
  refine Sp_of (me := mX0_init) (by omega) pX0_init ⟨rfl, Nat.le_of_ble_eq_true rfl⟩ ?_
  refine R_aload_n fX0_init_0 rfl ?_
  refine R_objinit fX0_init_1 (by omega) ?_
  refine R_aload_n fX0_init_4 rfl ?_
  refine R_newO1 fX0_init_5 (q := B + 1) hl (l' := [(4, 6)]) rfl ?_
  refine R_dup fX0_init_8 ?_
  refine R_callG fX0_init_9 rfl rfl pX2_init rfl ⟨Nat.le_of_ble_eq_true rfl, rfl⟩ (sp_iOut (B := B + 1) (by omega) (by omega) ((ap_new (j := 0) hl).trans rfl) (by rw [List.length_append, hl]; rfl)) (fun kd1 F1 P1 e1 => ?_)
  obtain ⟨e1, e2, e3⟩ := e1
  subst e1 e2 e3
  rw [List.append_assoc]
  refine (?_ : Rn (d - 1) mX0_init 12 _ _ (kd ++ [(4, 6), (0, 4), (0, 4)]) _ _ _)
  refine R_putP 0 fX0_init_12 ((ap_old (by omega)).trans hk) h3 rfl rfl rfl ?_
  refine R_aload_n fX0_init_15 rfl ?_
  refine R_iconst fX0_init_16 ?_
  refine R_newA fX0_init_17 (by decide) (q := B + 4) (by rw [hl]; rfl) (l' := [(4, 6), (0, 4), (0, 4), (0, 4)]) rfl ?_
  refine R_putP 1 fX0_init_19 ((ap_old (by omega)).trans hk) h3 rfl rfl rfl ?_
  refine R_return fX0_init_22 rfl ?_
  exact ⟨_, _, _, rfl, rfl, rfl, rfl⟩
