def stC : KL := [(0, 4), (0, 4), (0, 4), (0, 4), (0, 4), (0, 4), (0, 3), (0, 20), (6, 3), (0, 96), (5, 5), (0, 484), (0, 484), (0, 484), (0, 484)]
/-- the rows at the beginning -/
def z0 : Int → Int := up (up (fun _ => 0) 26 1) 28 1
def s0 : Int → Int := beginS z0 2 20
theorem z0_26 : z0 26 = 1 := by unfold z0; rw [up_ne _ _ (by omega), up_eq]
theorem z0_28 : z0 28 = 1 := by unfold z0; rw [up_eq]
theorem z0_o {j : Int} (h : j ≠ 26) (h2 : j ≠ 28) : z0 j = 0 := by unfold z0; rw [up_ne _ _ h2, up_ne _ _ h]
theorem z0_inb : ∀ j, inb (z0 j) := fun j => by
  by_cases h : j = 26
  · rw [h, z0_26]; unfold inb; omega
  · by_cases h2 : j = 28
    · rw [h2, z0_28]; unfold inb; omega
    · rw [z0_o h h2]; unfold inb; omega
theorem z0_set : (0 ≤ z0 26 ∧ z0 26 ≤ 5) ∧ (0 ≤ z0 27 ∧ z0 27 ≤ 5) ∧ (0 ≤ z0 28 ∧ z0 28 ≤ 1) := by
  rw [z0_26, z0_28, z0_o (by omega) (by omega)]; omega
theorem WF_s0 : WF s0 := WF_begin z0_set z0_inb (by omega) (by omega)
set_option maxHeartbeats 2000000 in
theorem sp_iState {d : Nat} {kd : KL} {F : FM} {P : PM} {B : Nat} (hd : 4 ≤ d) (h3 : 3 ≤ B) (hk : kd[B]? = some (7, 17)) (hl : kd.length = B + 1) (h1 : kd[1]? = some (0, 3)) (hF : F 1 0 = 1 ∧ F 1 1 = 0 ∧ F 1 2 = 1) : Sp d 28 [.inr (some B)] kd F P (QG (fun kd' F' P' => kd' = kd ++ stC ∧ shS kd' P' B ∧ Rel B F' s0 ∧ LT B F F' P P')) := by
  refine Sp_of (me := mX5_init) (by omega) pX5_init ⟨rfl, Nat.le_of_ble_eq_true rfl⟩ ?_
  refine R_aload_n fX5_init_0 rfl ?_
  refine R_objinit fX5_init_1 (by omega) ?_
  refine R_aload_n fX5_init_4 rfl ?_
  refine R_iconst fX5_init_5 ?_
  refine R_newA1 fX5_init_6 (by decide) (q := B + 1) (by rw [hl]) (l' := [(0, 4)]) rfl ?_
  refine R_putP 7 fX5_init_8 ((ap_old (by omega)).trans hk) h3 rfl rfl rfl ?_
  refine R_aload_n fX5_init_11 rfl ?_
  refine R_iconst fX5_init_12 ?_
  refine R_newA fX5_init_13 (by decide) (q := B + 2) (by rw [hl]; rfl) (l' := [(0, 4), (0, 4)]) rfl ?_
  refine R_putP 8 fX5_init_15 ((ap_old (by omega)).trans hk) h3 rfl rfl rfl ?_
  refine R_aload_n fX5_init_18 rfl ?_
  refine R_iconst fX5_init_19 ?_
  refine R_newA fX5_init_20 (by decide) (q := B + 3) (by rw [hl]; rfl) (l' := [(0, 4), (0, 4), (0, 4)]) rfl ?_
  refine R_putP 9 fX5_init_22 ((ap_old (by omega)).trans hk) h3 rfl rfl rfl ?_
  refine R_aload_n fX5_init_25 rfl ?_
  refine R_iconst fX5_init_26 ?_
  refine R_newA fX5_init_27 (by decide) (q := B + 4) (by rw [hl]; rfl) (l' := [(0, 4), (0, 4), (0, 4), (0, 4)]) rfl ?_
  refine R_putP 10 fX5_init_29 ((ap_old (by omega)).trans hk) h3 rfl rfl rfl ?_
  refine R_aload_n fX5_init_32 rfl ?_
  refine R_iconst fX5_init_33 ?_
  refine R_newA fX5_init_34 (by decide) (q := B + 5) (by rw [hl]; rfl) (l' := [(0, 4), (0, 4), (0, 4), (0, 4), (0, 4)]) rfl ?_
  refine R_putP 11 fX5_init_36 ((ap_old (by omega)).trans hk) h3 rfl rfl rfl ?_
  refine R_aload_n fX5_init_39 rfl ?_
  refine R_iconst fX5_init_40 ?_
  refine R_newA fX5_init_41 (by decide) (q := B + 6) (by rw [hl]; rfl) (l' := [(0, 4), (0, 4), (0, 4), (0, 4), (0, 4), (0, 4)]) rfl ?_
  refine R_putP 12 fX5_init_43 ((ap_old (by omega)).trans hk) h3 rfl rfl rfl ?_
  refine R_aload_n fX5_init_46 rfl ?_
  refine R_iconst fX5_init_47 ?_
  refine R_newA fX5_init_48 (by decide) (q := B + 7) (by rw [hl]; rfl) (l' := [(0, 4), (0, 4), (0, 4), (0, 4), (0, 4), (0, 4), (0, 3)]) rfl ?_
  refine R_putP 13 fX5_init_50 ((ap_old (by omega)).trans hk) h3 rfl rfl rfl ?_
  refine R_aload_n fX5_init_53 rfl ?_
  refine R_bipush fX5_init_54 ?_
  refine R_newA fX5_init_56 (by decide) (q := B + 8) (by rw [hl]; rfl) (l' := [(0, 4), (0, 4), (0, 4), (0, 4), (0, 4), (0, 4), (0, 3), (0, 20)]) rfl ?_
  refine R_putP 14 fX5_init_58 ((ap_old (by omega)).trans hk) h3 rfl rfl rfl ?_
  refine R_aload_n fX5_init_61 rfl ?_
  refine R_newO fX5_init_62 (q := B + 9) (by rw [hl]; rfl) (l' := [(0, 4), (0, 4), (0, 4), (0, 4), (0, 4), (0, 4), (0, 3), (0, 20), (6, 3)]) rfl ?_
  refine R_dup fX5_init_65 ?_
  refine R_callG fX5_init_66 rfl rfl pX4_init rfl ⟨Nat.le_of_ble_eq_true rfl, rfl⟩ (sp_iLog (B := B + 9) (by omega) (by omega) ((ap_new (j := 8) hl).trans rfl) (by rw [List.length_append, hl]; rfl)) (fun kd1 F1 P1 e1 => ?_)
  obtain ⟨e1, e2, e3⟩ := e1
  subst e1 e2 e3
  rw [List.append_assoc]
  refine (?_ : Rn (d - 1) mX5_init 69 _ _ (kd ++ [(0, 4), (0, 4), (0, 4), (0, 4), (0, 4), (0, 4), (0, 3), (0, 20), (6, 3), (0, 96)]) _ _ _)
  refine R_putP 15 fX5_init_69 ((ap_old (by omega)).trans hk) h3 rfl rfl rfl ?_
  refine R_aload_n fX5_init_72 rfl ?_
  refine R_newO fX5_init_73 (q := B + 11) (by rw [hl]; rfl) (l' := [(0, 4), (0, 4), (0, 4), (0, 4), (0, 4), (0, 4), (0, 3), (0, 20), (6, 3), (0, 96), (5, 5)]) rfl ?_
  refine R_dup fX5_init_76 ?_
  refine R_callG fX5_init_77 rfl rfl pX3_init rfl ⟨Nat.le_of_ble_eq_true rfl, rfl⟩ (sp_iPairs (B := B + 11) (by omega) (by omega) ((ap_new (j := 10) hl).trans rfl) (by rw [List.length_append, hl]; rfl)) (fun kd1 F1 P1 e1 => ?_)
  obtain ⟨e1, e2, e3⟩ := e1
  subst e1 e2 e3
  rw [List.append_assoc]
  refine (?_ : Rn (d - 1) mX5_init 80 _ _ (kd ++ [(0, 4), (0, 4), (0, 4), (0, 4), (0, 4), (0, 4), (0, 3), (0, 20), (6, 3), (0, 96), (5, 5), (0, 484), (0, 484), (0, 484), (0, 484)]) _ _ _)
  refine R_putP 16 fX5_init_80 ((ap_old (by omega)).trans hk) h3 rfl rfl rfl ?_
  refine R_getstatic fX5_init_83 ?_
  refine R_iconst fX5_init_86 ?_
  refine R_aload_n fX5_init_87 rfl ?_
  refine R_getP 13 fX5_init_88 ((ap_old (by omega)).trans hk) h3 rfl rfl rfl (v := B + 7) (by simp (disch := omega) only [stp_eq, stp_j, stp_kr, clP_ne]) ?_
  refine R_iconst fX5_init_91 ?_
  refine R_iconst fX5_init_92 ?_
  refine R_copy fX5_init_93 (by omega) (k0 := 1) (k1 := B + 7) ((ap_old (by omega)).trans h1) ((ap_new (j := 6) hl).trans rfl) (by omega) (by omega) ?_
  refine R_aload_n fX5_init_96 rfl ?_
  refine R_iconst fX5_init_97 ?_
  refine R_bipush fX5_init_98 ?_
  have hS : shS (kd ++ [(0, 4), (0, 4), (0, 4), (0, 4), (0, 4), (0, 4), (0, 3), (0, 20), (6, 3), (0, 96), (5, 5), (0, 484), (0, 484), (0, 484), (0, 484)]) (stp_ (stp_ (stp_ (stp_ (stp_ (clP (stp_ (stp_ (clP (stp_ (stp_ (stp_ (stp_ (stp_ (stp_ (stp_ (stp_ P B 7 (some (B + 1))) B 8 (some (B + 2))) B 9 (some (B + 3))) B 10 (some (B + 4))) B 11 (some (B + 5))) B 12 (some (B + 6))) B 13 (some (B + 7))) B 14 (some (B + 8))) (B + 9)) (B + 9) 0 (some (B + 9 + 1))) B 15 (some (B + 9))) (B + 11)) (B + 11) 0 (some (B + 11 + 1))) (B + 11) 1 (some (B + 11 + 2))) (B + 11) 2 (some (B + 11 + 3))) (B + 11) 3 (some (B + 11 + 4))) B 16 (some (B + 11))) B := ⟨h3, ((ap_old (by omega)).trans hk), ((ap_new (j := 0) hl).trans rfl), ((ap_new (j := 1) hl).trans rfl), ((ap_new (j := 2) hl).trans rfl), ((ap_new (j := 3) hl).trans rfl), ((ap_new (j := 4) hl).trans rfl), ((ap_new (j := 5) hl).trans rfl), ((ap_new (j := 6) hl).trans rfl), ((ap_new (j := 7) hl).trans rfl), ((ap_new (j := 8) hl).trans rfl), ((ap_new (j := 9) hl).trans rfl), ((ap_new (j := 10) hl).trans rfl), ((ap_new (j := 11) hl).trans rfl), ((ap_new (j := 12) hl).trans rfl), ((ap_new (j := 13) hl).trans rfl), ((ap_new (j := 14) hl).trans rfl), (by first | (simp (disch := omega) only [stp_eq, stp_j, stp_kr, clP_ne]; done) | (simp (disch := omega) only [stp_eq, stp_j, stp_kr, clP_ne]; rfl)), (by first | (simp (disch := omega) only [stp_eq, stp_j, stp_kr, clP_ne]; done) | (simp (disch := omega) only [stp_eq, stp_j, stp_kr, clP_ne]; rfl)), (by first | (simp (disch := omega) only [stp_eq, stp_j, stp_kr, clP_ne]; done) | (simp (disch := omega) only [stp_eq, stp_j, stp_kr, clP_ne]; rfl)), (by first | (simp (disch := omega) only [stp_eq, stp_j, stp_kr, clP_ne]; done) | (simp (disch := omega) only [stp_eq, stp_j, stp_kr, clP_ne]; rfl)), (by first | (simp (disch := omega) only [stp_eq, stp_j, stp_kr, clP_ne]; done) | (simp (disch := omega) only [stp_eq, stp_j, stp_kr, clP_ne]; rfl)), (by first | (simp (disch := omega) only [stp_eq, stp_j, stp_kr, clP_ne]; done) | (simp (disch := omega) only [stp_eq, stp_j, stp_kr, clP_ne]; rfl)), (by first | (simp (disch := omega) only [stp_eq, stp_j, stp_kr, clP_ne]; done) | (simp (disch := omega) only [stp_eq, stp_j, stp_kr, clP_ne]; rfl)), (by first | (simp (disch := omega) only [stp_eq, stp_j, stp_kr, clP_ne]; done) | (simp (disch := omega) only [stp_eq, stp_j, stp_kr, clP_ne]; rfl)), (by first | (simp (disch := omega) only [stp_eq, stp_j, stp_kr, clP_ne]; done) | (simp (disch := omega) only [stp_eq, stp_j, stp_kr, clP_ne]; rfl)), (by first | (simp (disch := omega) only [stp_eq, stp_j, stp_kr, clP_ne]; done) | (simp (disch := omega) only [stp_eq, stp_j, stp_kr, clP_ne]; rfl)), (by first | (simp (disch := omega) only [stp_eq, stp_j, stp_kr, clP_ne]; done) | (simp (disch := omega) only [stp_eq, stp_j, stp_kr, clP_ne]; rfl)), (by first | (simp (disch := omega) only [stp_eq, stp_j, stp_kr, clP_ne]; done) | (simp (disch := omega) only [stp_eq, stp_j, stp_kr, clP_ne]; rfl)), (by first | (simp (disch := omega) only [stp_eq, stp_j, stp_kr, clP_ne]; done) | (simp (disch := omega) only [stp_eq, stp_j, stp_kr, clP_ne]; rfl)), (by first | (simp (disch := omega) only [stp_eq, stp_j, stp_kr, clP_ne]; done) | (simp (disch := omega) only [stp_eq, stp_j, stp_kr, clP_ne]; rfl)), (by first | (simp (disch := omega) only [stp_eq, stp_j, stp_kr, clP_ne]; done) | (simp (disch := omega) only [stp_eq, stp_j, stp_kr, clP_ne]; rfl))⟩
  refine R_callV fX5_init_100 rfl rfl pX5_startGame rfl ⟨Nat.le_of_ble_eq_true rfl, rcv_v rfl h3 ((ap_old (by omega)).trans hk)⟩ (sp_startGame (s := z0) (by omega) hS (fun j j0 j1 => ?_) z0_set z0_inb) (fun r F1 q => ?_)
  · rw [cpF_in _ (by omega)]
    simp (disch := omega) only [clF_ne]
    rcases (by omega : j = 0 ∨ j = 1 ∨ j = 2) with rfl | rfl | rfl
    · exact hF.1.trans z0_26.symm
    · exact hF.2.1.trans (z0_o (by omega) (by omega)).symm
    · exact hF.2.2.trans z0_28.symm
  obtain ⟨q1, q2, q3⟩ := q
  rw [if_neg (by omega), if_neg (by omega)] at q2
  refine R_pop fX5_init_103 ?_
  refine R_return fX5_init_104 rfl ?_
  refine ⟨_, _, _, rfl, rfl, hS, q2, fun j hj => ⟨(q3 j (Or.inl hj)).trans ?_, ?_⟩⟩
  · simp (disch := omega) only [cpF_kr, clF_ne]
  · simp (disch := omega) only [stp_kr, clP_ne]
