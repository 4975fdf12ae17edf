def LC : KL := [(3, 2), (1, 4), (7, 17), (0, 4), (0, 4), (0, 4), (0, 4), (0, 4), (0, 4), (0, 3), (0, 20), (6, 3), (0, 96), (5, 5), (0, 484), (0, 484), (0, 484), (0, 484), (7, 17), (0, 4), (0, 4), (0, 4), (0, 4), (0, 4), (0, 4), (0, 3), (0, 20), (6, 3), (0, 96), (5, 5), (0, 484), (0, 484), (0, 484), (0, 484), (7, 17), (0, 4), (0, 4), (0, 4), (0, 4), (0, 4), (0, 4), (0, 3), (0, 20), (6, 3), (0, 96), (5, 5), (0, 484), (0, 484), (0, 484), (0, 484), (7, 17), (0, 4), (0, 4), (0, 4), (0, 4), (0, 4), (0, 4), (0, 3), (0, 20), (6, 3), (0, 96), (5, 5), (0, 484), (0, 484), (0, 484), (0, 484), (7, 17), (0, 4), (0, 4), (0, 4), (0, 4), (0, 4), (0, 4), (0, 3), (0, 20), (6, 3), (0, 96), (5, 5), (0, 484), (0, 484), (0, 484), (0, 484), (8, 10), (0, 60), (4, 6), (0, 4), (0, 4), (2, 2), (4, 6), (0, 4), (0, 4), (0, 4), (7, 17), (0, 4), (0, 4), (0, 4), (0, 4), (0, 4), (0, 4), (0, 3), (0, 20), (6, 3), (0, 96), (5, 5), (0, 484), (0, 484), (0, 484), (0, 484), (7, 17), (0, 4), (0, 4), (0, 4), (0, 4), (0, 4), (0, 4), (0, 3), (0, 20), (6, 3), (0, 96), (5, 5), (0, 484), (0, 484), (0, 484), (0, 484)]
def hh0 (j : Int) : Nat := if j = 0 then 6 else if j = 1 then 22 else if j = 2 then 38 else 54
set_option maxHeartbeats 4000000 in
theorem sp_iX {d : Nat} {kd : KL} {F : FM} {P : PM}  (hd : 6 ≤ d) (hk : kd[3]? = some (9, 8)) (hl : kd.length = 4) (h1 : kd[1]? = some (0, 3)) (hk2 : kd[2]? = some (0, 3)) (hF : F 1 0 = 1 ∧ F 1 1 = 0 ∧ F 1 2 = 1) (hG : F 2 0 = 5 ∧ F 2 1 = 5 ∧ F 2 2 = 1) : Sp d 60 [.inr (some 3)] kd F P (QG (fun kd' F' P' => kd' = kd ++ LC ∧ (∀ σ sn, CW kd' F' P' s0 0 σ 0 sn 0 (fun _ => 0)) ∧ LT 3 F F' P P')) := by
  refine Sp_of (me := mX7_init) (by omega) pX7_init ⟨rfl, Nat.le_of_ble_eq_true rfl⟩ ?_
  refine R_aload_n fX7_init_0 rfl ?_
  refine R_objinit fX7_init_1 (by omega) ?_
  refine R_aload_n fX7_init_4 rfl ?_
  refine R_newO1 fX7_init_5 (q := 4) hl (l' := [(3, 2)]) rfl ?_
  refine R_dup fX7_init_8 ?_
  refine R_callG fX7_init_9 rfl rfl pX1_init rfl ⟨Nat.le_of_ble_eq_true rfl, rfl⟩ (sp_iHist (by omega) ((ap_new (j := 0) hl).trans rfl) (by rw [List.length_append, hl]; rfl) ((ap_old (by omega)).trans h1) (by rw [clF_ne _ (by omega)]; exact hF)) (fun kd1 F1 Q1 e1 => ?_)
  obtain ⟨e1, ⟨b0, ⟨bv0, bv1, bv2, bv3⟩, bs0, bs1, bs2, bs3⟩, bf, u1⟩ := e1
  subst e1
  rw [List.append_assoc]
  refine (?_ : Rn (d - 1) mX7_init 12 _ _ (kd ++ [(3, 2), (1, 4), (7, 17), (0, 4), (0, 4), (0, 4), (0, 4), (0, 4), (0, 4), (0, 3), (0, 20), (6, 3), (0, 96), (5, 5), (0, 484), (0, 484), (0, 484), (0, 484), (7, 17), (0, 4), (0, 4), (0, 4), (0, 4), (0, 4), (0, 4), (0, 3), (0, 20), (6, 3), (0, 96), (5, 5), (0, 484), (0, 484), (0, 484), (0, 484), (7, 17), (0, 4), (0, 4), (0, 4), (0, 4), (0, 4), (0, 4), (0, 3), (0, 20), (6, 3), (0, 96), (5, 5), (0, 484), (0, 484), (0, 484), (0, 484), (7, 17), (0, 4), (0, 4), (0, 4), (0, 4), (0, 4), (0, 4), (0, 3), (0, 20), (6, 3), (0, 96), (5, 5), (0, 484), (0, 484), (0, 484), (0, 484)]) _ _ _)
  have cP : ∀ k, k < 4 → Q1 k = P k := fun k hk => by rw [(u1 k hk).2, clP_ne _ (by omega)]
  have cF : ∀ k, k < 4 → F1 k = F k := fun k hk => by rw [(u1 k hk).1, clF_ne _ (by omega)]
  refine R_putP 0 fX7_init_12 ((ap_old (by omega)).trans hk) (by omega) rfl rfl rfl ?_
  have nP : ∀ k, k ≠ 3 → stp_ Q1 3 0 (some 4) k = Q1 k := fun k hk => stp_kr _ _ _ hk
  have tt : LT 3 F F1 P (stp_ Q1 3 0 (some 4)) := fun k hk => ⟨cF k (by omega), by rw [nP k (by omega)]; exact cP k (by omega)⟩
  have w0 : (stp_ Q1 3 0 (some 4)) 3 0 = some 4 := stp_eq _ _ _ _
  have a0 : (stp_ Q1 3 0 (some 4)) 4 0 = some 5 := by rw [nP 4 (by omega)]; exact b0
  have v0 : (stp_ Q1 3 0 (some 4)) 5 0 = some 6 := by rw [nP 5 (by omega)]; exact bv0
  have v1 : (stp_ Q1 3 0 (some 4)) 5 1 = some 22 := by rw [nP 5 (by omega)]; exact bv1
  have v2 : (stp_ Q1 3 0 (some 4)) 5 2 = some 38 := by rw [nP 5 (by omega)]; exact bv2
  have v3 : (stp_ Q1 3 0 (some 4)) 5 3 = some 54 := by rw [nP 5 (by omega)]; exact bv3
  have y0 : pS (stp_ Q1 3 0 (some 4)) 6 := pS_P bs0 (fun k a b => nP k (by omega))
  have y1 : pS (stp_ Q1 3 0 (some 4)) 22 := pS_P bs1 (fun k a b => nP k (by omega))
  have y2 : pS (stp_ Q1 3 0 (some 4)) 38 := pS_P bs2 (fun k a b => nP k (by omega))
  have y3 : pS (stp_ Q1 3 0 (some 4)) 54 := pS_P bs3 (fun k a b => nP k (by omega))
  have f4 : F1 4 = fun _ => 0 := by rw [bf, clF_eq]
  clear nP cP cF
  revert tt w0 a0 v0 v1 v2 v3 y0 y1 y2 y3 f4
  generalize stp_ Q1 3 0 (some 4) = P1
  intro tt w0 a0 v0 v1 v2 v3 y0 y1 y2 y3 f4
  refine R_aload_n fX7_init_15 rfl ?_
  refine R_newO fX7_init_16 (q := 70) (by rw [hl]; rfl) (l' := [(3, 2), (1, 4), (7, 17), (0, 4), (0, 4), (0, 4), (0, 4), (0, 4), (0, 4), (0, 3), (0, 20), (6, 3), (0, 96), (5, 5), (0, 484), (0, 484), (0, 484), (0, 484), (7, 17), (0, 4), (0, 4), (0, 4), (0, 4), (0, 4), (0, 4), (0, 3), (0, 20), (6, 3), (0, 96), (5, 5), (0, 484), (0, 484), (0, 484), (0, 484), (7, 17), (0, 4), (0, 4), (0, 4), (0, 4), (0, 4), (0, 4), (0, 3), (0, 20), (6, 3), (0, 96), (5, 5), (0, 484), (0, 484), (0, 484), (0, 484), (7, 17), (0, 4), (0, 4), (0, 4), (0, 4), (0, 4), (0, 4), (0, 3), (0, 20), (6, 3), (0, 96), (5, 5), (0, 484), (0, 484), (0, 484), (0, 484), (7, 17)]) rfl ?_
  refine R_dup fX7_init_19 ?_
  refine R_callG fX7_init_20 rfl rfl pX5_init rfl ⟨Nat.le_of_ble_eq_true rfl, rfl⟩ (sp_iState (B := 70) (by omega) (by omega) ((ap_new (j := 66) hl).trans rfl) (by rw [List.length_append, hl]; rfl) ((ap_old (by omega)).trans h1) (by rw [clF_ne _ (by omega), (tt 1 (by omega)).1]; exact hF)) (fun kd1 F2 Q2 e1 => ?_)
  obtain ⟨e1, bs, br, u2⟩ := e1
  subst e1
  rw [List.append_assoc]
  refine (?_ : Rn (d - 1) mX7_init 23 _ _ (kd ++ [(3, 2), (1, 4), (7, 17), (0, 4), (0, 4), (0, 4), (0, 4), (0, 4), (0, 4), (0, 3), (0, 20), (6, 3), (0, 96), (5, 5), (0, 484), (0, 484), (0, 484), (0, 484), (7, 17), (0, 4), (0, 4), (0, 4), (0, 4), (0, 4), (0, 4), (0, 3), (0, 20), (6, 3), (0, 96), (5, 5), (0, 484), (0, 484), (0, 484), (0, 484), (7, 17), (0, 4), (0, 4), (0, 4), (0, 4), (0, 4), (0, 4), (0, 3), (0, 20), (6, 3), (0, 96), (5, 5), (0, 484), (0, 484), (0, 484), (0, 484), (7, 17), (0, 4), (0, 4), (0, 4), (0, 4), (0, 4), (0, 4), (0, 3), (0, 20), (6, 3), (0, 96), (5, 5), (0, 484), (0, 484), (0, 484), (0, 484), (7, 17), (0, 4), (0, 4), (0, 4), (0, 4), (0, 4), (0, 4), (0, 3), (0, 20), (6, 3), (0, 96), (5, 5), (0, 484), (0, 484), (0, 484), (0, 484)]) _ _ _)
  have cP : ∀ k, k < 70 → Q2 k = P1 k := fun k hk => by rw [(u2 k hk).2, clP_ne _ (by omega)]
  have cF : ∀ k, k < 70 → F2 k = F1 k := fun k hk => by rw [(u2 k hk).1, clF_ne _ (by omega)]
  refine R_putP 1 fX7_init_23 ((ap_old (by omega)).trans hk) (by omega) rfl rfl rfl ?_
  have nP : ∀ k, k ≠ 3 → stp_ Q2 3 1 (some 70) k = Q2 k := fun k hk => stp_kr _ _ _ hk
  have tt : LT 3 F F2 P (stp_ Q2 3 1 (some 70)) := fun k hk => ⟨by rw [cF k (by omega)]; exact (tt k hk).1, by rw [nP k (by omega), cP k (by omega)]; exact (tt k hk).2⟩
  have w0 : (stp_ Q2 3 1 (some 70)) 3 0 = some 4 := by rw [stp_j _ _ (by omega), cP 3 (by omega)]; exact w0
  have a0 : (stp_ Q2 3 1 (some 70)) 4 0 = some 5 := by rw [nP 4 (by omega), cP 4 (by omega)]; exact a0
  have v0 : (stp_ Q2 3 1 (some 70)) 5 0 = some 6 := by rw [nP 5 (by omega), cP 5 (by omega)]; exact v0
  have v1 : (stp_ Q2 3 1 (some 70)) 5 1 = some 22 := by rw [nP 5 (by omega), cP 5 (by omega)]; exact v1
  have v2 : (stp_ Q2 3 1 (some 70)) 5 2 = some 38 := by rw [nP 5 (by omega), cP 5 (by omega)]; exact v2
  have v3 : (stp_ Q2 3 1 (some 70)) 5 3 = some 54 := by rw [nP 5 (by omega), cP 5 (by omega)]; exact v3
  have y0 : pS (stp_ Q2 3 1 (some 70)) 6 := pS_P y0 (fun k a b => by rw [nP k (by omega), cP k (by omega)])
  have y1 : pS (stp_ Q2 3 1 (some 70)) 22 := pS_P y1 (fun k a b => by rw [nP k (by omega), cP k (by omega)])
  have y2 : pS (stp_ Q2 3 1 (some 70)) 38 := pS_P y2 (fun k a b => by rw [nP k (by omega), cP k (by omega)])
  have y3 : pS (stp_ Q2 3 1 (some 70)) 54 := pS_P y3 (fun k a b => by rw [nP k (by omega), cP k (by omega)])
  have f4 : F2 4 = fun _ => 0 := by rw [cF 4 (by omega)]; exact f4
  have w1 : (stp_ Q2 3 1 (some 70)) 3 1 = some 70 := stp_eq _ _ _ _
  have y4 : pS (stp_ Q2 3 1 (some 70)) 70 := pS_P (pS_of bs) (fun k a b => nP k (by omega))
  clear nP cP cF
  revert tt w0 a0 v0 v1 v2 v3 y0 y1 y2 y3 f4 w1 y4
  generalize stp_ Q2 3 1 (some 70) = P2
  intro tt w0 a0 v0 v1 v2 v3 y0 y1 y2 y3 f4 w1 y4
  refine R_aload_n fX7_init_26 rfl ?_
  refine R_newO fX7_init_27 (q := 86) (by rw [hl]; rfl) (l' := [(3, 2), (1, 4), (7, 17), (0, 4), (0, 4), (0, 4), (0, 4), (0, 4), (0, 4), (0, 3), (0, 20), (6, 3), (0, 96), (5, 5), (0, 484), (0, 484), (0, 484), (0, 484), (7, 17), (0, 4), (0, 4), (0, 4), (0, 4), (0, 4), (0, 4), (0, 3), (0, 20), (6, 3), (0, 96), (5, 5), (0, 484), (0, 484), (0, 484), (0, 484), (7, 17), (0, 4), (0, 4), (0, 4), (0, 4), (0, 4), (0, 4), (0, 3), (0, 20), (6, 3), (0, 96), (5, 5), (0, 484), (0, 484), (0, 484), (0, 484), (7, 17), (0, 4), (0, 4), (0, 4), (0, 4), (0, 4), (0, 4), (0, 3), (0, 20), (6, 3), (0, 96), (5, 5), (0, 484), (0, 484), (0, 484), (0, 484), (7, 17), (0, 4), (0, 4), (0, 4), (0, 4), (0, 4), (0, 4), (0, 3), (0, 20), (6, 3), (0, 96), (5, 5), (0, 484), (0, 484), (0, 484), (0, 484), (8, 10)]) rfl ?_
  refine R_dup fX7_init_30 ?_
  refine R_callG fX7_init_31 rfl rfl pX6_init rfl ⟨Nat.le_of_ble_eq_true rfl, rfl⟩ (sp_iText (B := 86) (by omega) (by omega) ((ap_new (j := 82) hl).trans rfl) (by rw [List.length_append, hl]; rfl)) (fun kd1 F3 Q3 e1 => ?_)
  obtain ⟨e1, e2, e3⟩ := e1
  subst e1
  rw [List.append_assoc]
  refine (?_ : Rn (d - 1) mX7_init 34 _ _ (kd ++ [(3, 2), (1, 4), (7, 17), (0, 4), (0, 4), (0, 4), (0, 4), (0, 4), (0, 4), (0, 3), (0, 20), (6, 3), (0, 96), (5, 5), (0, 484), (0, 484), (0, 484), (0, 484), (7, 17), (0, 4), (0, 4), (0, 4), (0, 4), (0, 4), (0, 4), (0, 3), (0, 20), (6, 3), (0, 96), (5, 5), (0, 484), (0, 484), (0, 484), (0, 484), (7, 17), (0, 4), (0, 4), (0, 4), (0, 4), (0, 4), (0, 4), (0, 3), (0, 20), (6, 3), (0, 96), (5, 5), (0, 484), (0, 484), (0, 484), (0, 484), (7, 17), (0, 4), (0, 4), (0, 4), (0, 4), (0, 4), (0, 4), (0, 3), (0, 20), (6, 3), (0, 96), (5, 5), (0, 484), (0, 484), (0, 484), (0, 484), (7, 17), (0, 4), (0, 4), (0, 4), (0, 4), (0, 4), (0, 4), (0, 3), (0, 20), (6, 3), (0, 96), (5, 5), (0, 484), (0, 484), (0, 484), (0, 484), (8, 10), (0, 60)]) _ _ _)
  have cP : ∀ k, k < 86 → Q3 k = P2 k := fun k hk => by rw [e3]; simp (disch := omega) only [stp_kr, clP_ne]
  have cF : ∀ k, k < 86 → F3 k = F2 k := fun k hk => by rw [e2]; simp (disch := omega) only [clF_ne]
  refine R_putP 2 fX7_init_34 ((ap_old (by omega)).trans hk) (by omega) rfl rfl rfl ?_
  have nP : ∀ k, k ≠ 3 → stp_ Q3 3 2 (some 86) k = Q3 k := fun k hk => stp_kr _ _ _ hk
  have tt : LT 3 F F3 P (stp_ Q3 3 2 (some 86)) := fun k hk => ⟨by rw [cF k (by omega)]; exact (tt k hk).1, by rw [nP k (by omega), cP k (by omega)]; exact (tt k hk).2⟩
  have w0 : (stp_ Q3 3 2 (some 86)) 3 0 = some 4 := by rw [stp_j _ _ (by omega), cP 3 (by omega)]; exact w0
  have a0 : (stp_ Q3 3 2 (some 86)) 4 0 = some 5 := by rw [nP 4 (by omega), cP 4 (by omega)]; exact a0
  have v0 : (stp_ Q3 3 2 (some 86)) 5 0 = some 6 := by rw [nP 5 (by omega), cP 5 (by omega)]; exact v0
  have v1 : (stp_ Q3 3 2 (some 86)) 5 1 = some 22 := by rw [nP 5 (by omega), cP 5 (by omega)]; exact v1
  have v2 : (stp_ Q3 3 2 (some 86)) 5 2 = some 38 := by rw [nP 5 (by omega), cP 5 (by omega)]; exact v2
  have v3 : (stp_ Q3 3 2 (some 86)) 5 3 = some 54 := by rw [nP 5 (by omega), cP 5 (by omega)]; exact v3
  have y0 : pS (stp_ Q3 3 2 (some 86)) 6 := pS_P y0 (fun k a b => by rw [nP k (by omega), cP k (by omega)])
  have y1 : pS (stp_ Q3 3 2 (some 86)) 22 := pS_P y1 (fun k a b => by rw [nP k (by omega), cP k (by omega)])
  have y2 : pS (stp_ Q3 3 2 (some 86)) 38 := pS_P y2 (fun k a b => by rw [nP k (by omega), cP k (by omega)])
  have y3 : pS (stp_ Q3 3 2 (some 86)) 54 := pS_P y3 (fun k a b => by rw [nP k (by omega), cP k (by omega)])
  have f4 : F3 4 = fun _ => 0 := by rw [cF 4 (by omega)]; exact f4
  have w1 : (stp_ Q3 3 2 (some 86)) 3 1 = some 70 := by rw [stp_j _ _ (by omega), cP 3 (by omega)]; exact w1
  have y4 : pS (stp_ Q3 3 2 (some 86)) 70 := pS_P y4 (fun k a b => by rw [nP k (by omega), cP k (by omega)])
  have w2 : (stp_ Q3 3 2 (some 86)) 3 2 = some 86 := stp_eq _ _ _ _
  have tx : (stp_ Q3 3 2 (some 86)) 86 0 = some 87 := by rw [nP 86 (by omega), e3, stp_eq]
  have f6 : F3 86 = fun _ => 0 := by rw [e2, clF_ne _ (by omega), clF_eq]
  have f7 : F3 87 = fun _ => 0 := by rw [e2]; exact clF_eq _ _
  clear nP cP cF
  revert tt w0 a0 v0 v1 v2 v3 y0 y1 y2 y3 f4 w1 y4 w2 tx f6 f7
  generalize stp_ Q3 3 2 (some 86) = P3
  intro tt w0 a0 v0 v1 v2 v3 y0 y1 y2 y3 f4 w1 y4 w2 tx f6 f7
  refine R_aload_n fX7_init_37 rfl ?_
  refine R_newO fX7_init_38 (q := 88) (by rw [hl]; rfl) (l' := [(3, 2), (1, 4), (7, 17), (0, 4), (0, 4), (0, 4), (0, 4), (0, 4), (0, 4), (0, 3), (0, 20), (6, 3), (0, 96), (5, 5), (0, 484), (0, 484), (0, 484), (0, 484), (7, 17), (0, 4), (0, 4), (0, 4), (0, 4), (0, 4), (0, 4), (0, 3), (0, 20), (6, 3), (0, 96), (5, 5), (0, 484), (0, 484), (0, 484), (0, 484), (7, 17), (0, 4), (0, 4), (0, 4), (0, 4), (0, 4), (0, 4), (0, 3), (0, 20), (6, 3), (0, 96), (5, 5), (0, 484), (0, 484), (0, 484), (0, 484), (7, 17), (0, 4), (0, 4), (0, 4), (0, 4), (0, 4), (0, 4), (0, 3), (0, 20), (6, 3), (0, 96), (5, 5), (0, 484), (0, 484), (0, 484), (0, 484), (7, 17), (0, 4), (0, 4), (0, 4), (0, 4), (0, 4), (0, 4), (0, 3), (0, 20), (6, 3), (0, 96), (5, 5), (0, 484), (0, 484), (0, 484), (0, 484), (8, 10), (0, 60), (4, 6)]) rfl ?_
  refine R_dup fX7_init_41 ?_
  refine R_callG fX7_init_42 rfl rfl pX2_init rfl ⟨Nat.le_of_ble_eq_true rfl, rfl⟩ (sp_iOut (B := 88) (by omega) (by omega) ((ap_new (j := 84) hl).trans rfl) (by rw [List.length_append, hl]; rfl)) (fun kd1 F4 Q4 e1 => ?_)
  obtain ⟨e1, e2, e3⟩ := e1
  subst e1
  rw [List.append_assoc]
  refine (?_ : Rn (d - 1) mX7_init 45 _ _ (kd ++ [(3, 2), (1, 4), (7, 17), (0, 4), (0, 4), (0, 4), (0, 4), (0, 4), (0, 4), (0, 3), (0, 20), (6, 3), (0, 96), (5, 5), (0, 484), (0, 484), (0, 484), (0, 484), (7, 17), (0, 4), (0, 4), (0, 4), (0, 4), (0, 4), (0, 4), (0, 3), (0, 20), (6, 3), (0, 96), (5, 5), (0, 484), (0, 484), (0, 484), (0, 484), (7, 17), (0, 4), (0, 4), (0, 4), (0, 4), (0, 4), (0, 4), (0, 3), (0, 20), (6, 3), (0, 96), (5, 5), (0, 484), (0, 484), (0, 484), (0, 484), (7, 17), (0, 4), (0, 4), (0, 4), (0, 4), (0, 4), (0, 4), (0, 3), (0, 20), (6, 3), (0, 96), (5, 5), (0, 484), (0, 484), (0, 484), (0, 484), (7, 17), (0, 4), (0, 4), (0, 4), (0, 4), (0, 4), (0, 4), (0, 3), (0, 20), (6, 3), (0, 96), (5, 5), (0, 484), (0, 484), (0, 484), (0, 484), (8, 10), (0, 60), (4, 6), (0, 4), (0, 4)]) _ _ _)
  have cP : ∀ k, k < 88 → Q4 k = P3 k := fun k hk => by rw [e3]; simp (disch := omega) only [stp_kr, clP_ne]
  have cF : ∀ k, k < 88 → F4 k = F3 k := fun k hk => by rw [e2]; simp (disch := omega) only [clF_ne]
  refine R_putP 3 fX7_init_45 ((ap_old (by omega)).trans hk) (by omega) rfl rfl rfl ?_
  have nP : ∀ k, k ≠ 3 → stp_ Q4 3 3 (some 88) k = Q4 k := fun k hk => stp_kr _ _ _ hk
  have tt : LT 3 F F4 P (stp_ Q4 3 3 (some 88)) := fun k hk => ⟨by rw [cF k (by omega)]; exact (tt k hk).1, by rw [nP k (by omega), cP k (by omega)]; exact (tt k hk).2⟩
  have w0 : (stp_ Q4 3 3 (some 88)) 3 0 = some 4 := by rw [stp_j _ _ (by omega), cP 3 (by omega)]; exact w0
  have a0 : (stp_ Q4 3 3 (some 88)) 4 0 = some 5 := by rw [nP 4 (by omega), cP 4 (by omega)]; exact a0
  have v0 : (stp_ Q4 3 3 (some 88)) 5 0 = some 6 := by rw [nP 5 (by omega), cP 5 (by omega)]; exact v0
  have v1 : (stp_ Q4 3 3 (some 88)) 5 1 = some 22 := by rw [nP 5 (by omega), cP 5 (by omega)]; exact v1
  have v2 : (stp_ Q4 3 3 (some 88)) 5 2 = some 38 := by rw [nP 5 (by omega), cP 5 (by omega)]; exact v2
  have v3 : (stp_ Q4 3 3 (some 88)) 5 3 = some 54 := by rw [nP 5 (by omega), cP 5 (by omega)]; exact v3
  have y0 : pS (stp_ Q4 3 3 (some 88)) 6 := pS_P y0 (fun k a b => by rw [nP k (by omega), cP k (by omega)])
  have y1 : pS (stp_ Q4 3 3 (some 88)) 22 := pS_P y1 (fun k a b => by rw [nP k (by omega), cP k (by omega)])
  have y2 : pS (stp_ Q4 3 3 (some 88)) 38 := pS_P y2 (fun k a b => by rw [nP k (by omega), cP k (by omega)])
  have y3 : pS (stp_ Q4 3 3 (some 88)) 54 := pS_P y3 (fun k a b => by rw [nP k (by omega), cP k (by omega)])
  have f4 : F4 4 = fun _ => 0 := by rw [cF 4 (by omega)]; exact f4
  have w1 : (stp_ Q4 3 3 (some 88)) 3 1 = some 70 := by rw [stp_j _ _ (by omega), cP 3 (by omega)]; exact w1
  have y4 : pS (stp_ Q4 3 3 (some 88)) 70 := pS_P y4 (fun k a b => by rw [nP k (by omega), cP k (by omega)])
  have w2 : (stp_ Q4 3 3 (some 88)) 3 2 = some 86 := by rw [stp_j _ _ (by omega), cP 3 (by omega)]; exact w2
  have tx : (stp_ Q4 3 3 (some 88)) 86 0 = some 87 := by rw [nP 86 (by omega), cP 86 (by omega)]; exact tx
  have f6 : F4 86 = fun _ => 0 := by rw [cF 86 (by omega)]; exact f6
  have f7 : F4 87 = fun _ => 0 := by rw [cF 87 (by omega)]; exact f7
  have w3 : (stp_ Q4 3 3 (some 88)) 3 3 = some 88 := stp_eq _ _ _ _
  have o4 : (stp_ Q4 3 3 (some 88)) 88 4 = some 89 := by rw [nP 88 (by omega), e3, stp_j _ _ (by omega), stp_eq]
  have o5 : (stp_ Q4 3 3 (some 88)) 88 5 = some 90 := by rw [nP 88 (by omega), e3, stp_eq]
  clear nP cP cF
  revert tt w0 a0 v0 v1 v2 v3 y0 y1 y2 y3 f4 w1 y4 w2 tx f6 f7 w3 o4 o5
  generalize stp_ Q4 3 3 (some 88) = P4
  intro tt w0 a0 v0 v1 v2 v3 y0 y1 y2 y3 f4 w1 y4 w2 tx f6 f7 w3 o4 o5
  refine R_aload_n fX7_init_48 rfl ?_
  refine R_newO fX7_init_49 (q := 91) (by rw [hl]; rfl) (l' := [(3, 2), (1, 4), (7, 17), (0, 4), (0, 4), (0, 4), (0, 4), (0, 4), (0, 4), (0, 3), (0, 20), (6, 3), (0, 96), (5, 5), (0, 484), (0, 484), (0, 484), (0, 484), (7, 17), (0, 4), (0, 4), (0, 4), (0, 4), (0, 4), (0, 4), (0, 3), (0, 20), (6, 3), (0, 96), (5, 5), (0, 484), (0, 484), (0, 484), (0, 484), (7, 17), (0, 4), (0, 4), (0, 4), (0, 4), (0, 4), (0, 4), (0, 3), (0, 20), (6, 3), (0, 96), (5, 5), (0, 484), (0, 484), (0, 484), (0, 484), (7, 17), (0, 4), (0, 4), (0, 4), (0, 4), (0, 4), (0, 4), (0, 3), (0, 20), (6, 3), (0, 96), (5, 5), (0, 484), (0, 484), (0, 484), (0, 484), (7, 17), (0, 4), (0, 4), (0, 4), (0, 4), (0, 4), (0, 4), (0, 3), (0, 20), (6, 3), (0, 96), (5, 5), (0, 484), (0, 484), (0, 484), (0, 484), (8, 10), (0, 60), (4, 6), (0, 4), (0, 4), (2, 2)]) rfl ?_
  refine R_dup fX7_init_52 ?_
  refine R_callG fX7_init_53 rfl rfl pX0_init rfl ⟨Nat.le_of_ble_eq_true rfl, rfl⟩ (sp_iAdv (B := 91) (by omega) (by omega) ((ap_new (j := 87) hl).trans rfl) (by rw [List.length_append, hl]; rfl)) (fun kd1 F5 Q5 e1 => ?_)
  obtain ⟨e1, e2, e3⟩ := e1
  subst e1
  rw [List.append_assoc]
  refine (?_ : Rn (d - 1) mX7_init 56 _ _ (kd ++ [(3, 2), (1, 4), (7, 17), (0, 4), (0, 4), (0, 4), (0, 4), (0, 4), (0, 4), (0, 3), (0, 20), (6, 3), (0, 96), (5, 5), (0, 484), (0, 484), (0, 484), (0, 484), (7, 17), (0, 4), (0, 4), (0, 4), (0, 4), (0, 4), (0, 4), (0, 3), (0, 20), (6, 3), (0, 96), (5, 5), (0, 484), (0, 484), (0, 484), (0, 484), (7, 17), (0, 4), (0, 4), (0, 4), (0, 4), (0, 4), (0, 4), (0, 3), (0, 20), (6, 3), (0, 96), (5, 5), (0, 484), (0, 484), (0, 484), (0, 484), (7, 17), (0, 4), (0, 4), (0, 4), (0, 4), (0, 4), (0, 4), (0, 3), (0, 20), (6, 3), (0, 96), (5, 5), (0, 484), (0, 484), (0, 484), (0, 484), (7, 17), (0, 4), (0, 4), (0, 4), (0, 4), (0, 4), (0, 4), (0, 3), (0, 20), (6, 3), (0, 96), (5, 5), (0, 484), (0, 484), (0, 484), (0, 484), (8, 10), (0, 60), (4, 6), (0, 4), (0, 4), (2, 2), (4, 6), (0, 4), (0, 4), (0, 4)]) _ _ _)
  have cP : ∀ k, k < 91 → Q5 k = P4 k := fun k hk => by rw [e3]; simp (disch := omega) only [stp_kr, clP_ne]
  have cF : ∀ k, k < 91 → F5 k = F4 k := fun k hk => by rw [e2]; simp (disch := omega) only [clF_ne]
  refine R_putP 4 fX7_init_56 ((ap_old (by omega)).trans hk) (by omega) rfl rfl rfl ?_
  have nP : ∀ k, k ≠ 3 → stp_ Q5 3 4 (some 91) k = Q5 k := fun k hk => stp_kr _ _ _ hk
  have tt : LT 3 F F5 P (stp_ Q5 3 4 (some 91)) := fun k hk => ⟨by rw [cF k (by omega)]; exact (tt k hk).1, by rw [nP k (by omega), cP k (by omega)]; exact (tt k hk).2⟩
  have w0 : (stp_ Q5 3 4 (some 91)) 3 0 = some 4 := by rw [stp_j _ _ (by omega), cP 3 (by omega)]; exact w0
  have a0 : (stp_ Q5 3 4 (some 91)) 4 0 = some 5 := by rw [nP 4 (by omega), cP 4 (by omega)]; exact a0
  have v0 : (stp_ Q5 3 4 (some 91)) 5 0 = some 6 := by rw [nP 5 (by omega), cP 5 (by omega)]; exact v0
  have v1 : (stp_ Q5 3 4 (some 91)) 5 1 = some 22 := by rw [nP 5 (by omega), cP 5 (by omega)]; exact v1
  have v2 : (stp_ Q5 3 4 (some 91)) 5 2 = some 38 := by rw [nP 5 (by omega), cP 5 (by omega)]; exact v2
  have v3 : (stp_ Q5 3 4 (some 91)) 5 3 = some 54 := by rw [nP 5 (by omega), cP 5 (by omega)]; exact v3
  have y0 : pS (stp_ Q5 3 4 (some 91)) 6 := pS_P y0 (fun k a b => by rw [nP k (by omega), cP k (by omega)])
  have y1 : pS (stp_ Q5 3 4 (some 91)) 22 := pS_P y1 (fun k a b => by rw [nP k (by omega), cP k (by omega)])
  have y2 : pS (stp_ Q5 3 4 (some 91)) 38 := pS_P y2 (fun k a b => by rw [nP k (by omega), cP k (by omega)])
  have y3 : pS (stp_ Q5 3 4 (some 91)) 54 := pS_P y3 (fun k a b => by rw [nP k (by omega), cP k (by omega)])
  have f4 : F5 4 = fun _ => 0 := by rw [cF 4 (by omega)]; exact f4
  have w1 : (stp_ Q5 3 4 (some 91)) 3 1 = some 70 := by rw [stp_j _ _ (by omega), cP 3 (by omega)]; exact w1
  have y4 : pS (stp_ Q5 3 4 (some 91)) 70 := pS_P y4 (fun k a b => by rw [nP k (by omega), cP k (by omega)])
  have w2 : (stp_ Q5 3 4 (some 91)) 3 2 = some 86 := by rw [stp_j _ _ (by omega), cP 3 (by omega)]; exact w2
  have tx : (stp_ Q5 3 4 (some 91)) 86 0 = some 87 := by rw [nP 86 (by omega), cP 86 (by omega)]; exact tx
  have f6 : F5 86 = fun _ => 0 := by rw [cF 86 (by omega)]; exact f6
  have f7 : F5 87 = fun _ => 0 := by rw [cF 87 (by omega)]; exact f7
  have w3 : (stp_ Q5 3 4 (some 91)) 3 3 = some 88 := by rw [stp_j _ _ (by omega), cP 3 (by omega)]; exact w3
  have o4 : (stp_ Q5 3 4 (some 91)) 88 4 = some 89 := by rw [nP 88 (by omega), cP 88 (by omega)]; exact o4
  have o5 : (stp_ Q5 3 4 (some 91)) 88 5 = some 90 := by rw [nP 88 (by omega), cP 88 (by omega)]; exact o5
  have w4 : (stp_ Q5 3 4 (some 91)) 3 4 = some 91 := stp_eq _ _ _ _
  have d0 : (stp_ Q5 3 4 (some 91)) 91 0 = some 92 := by rw [nP 91 (by omega), e3, stp_j _ _ (by omega), stp_eq]
  have d1 : (stp_ Q5 3 4 (some 91)) 91 1 = some 95 := by rw [nP 91 (by omega), e3, stp_eq]
  have d4 : (stp_ Q5 3 4 (some 91)) 92 4 = some 93 := by rw [nP 92 (by omega), e3]; first | rfl | (simp (disch := omega) only [stp_eq, stp_j, stp_kr, clP_ne])
  have d5 : (stp_ Q5 3 4 (some 91)) 92 5 = some 94 := by rw [nP 92 (by omega), e3]; first | rfl | (simp (disch := omega) only [stp_eq, stp_j, stp_kr, clP_ne])
  clear nP cP cF
  revert tt w0 a0 v0 v1 v2 v3 y0 y1 y2 y3 f4 w1 y4 w2 tx f6 f7 w3 o4 o5 w4 d0 d1 d4 d5
  generalize stp_ Q5 3 4 (some 91) = P5
  intro tt w0 a0 v0 v1 v2 v3 y0 y1 y2 y3 f4 w1 y4 w2 tx f6 f7 w3 o4 o5 w4 d0 d1 d4 d5
  refine R_aload_n fX7_init_59 rfl ?_
  refine R_newO fX7_init_60 (q := 96) (by rw [hl]; rfl) (l' := [(3, 2), (1, 4), (7, 17), (0, 4), (0, 4), (0, 4), (0, 4), (0, 4), (0, 4), (0, 3), (0, 20), (6, 3), (0, 96), (5, 5), (0, 484), (0, 484), (0, 484), (0, 484), (7, 17), (0, 4), (0, 4), (0, 4), (0, 4), (0, 4), (0, 4), (0, 3), (0, 20), (6, 3), (0, 96), (5, 5), (0, 484), (0, 484), (0, 484), (0, 484), (7, 17), (0, 4), (0, 4), (0, 4), (0, 4), (0, 4), (0, 4), (0, 3), (0, 20), (6, 3), (0, 96), (5, 5), (0, 484), (0, 484), (0, 484), (0, 484), (7, 17), (0, 4), (0, 4), (0, 4), (0, 4), (0, 4), (0, 4), (0, 3), (0, 20), (6, 3), (0, 96), (5, 5), (0, 484), (0, 484), (0, 484), (0, 484), (7, 17), (0, 4), (0, 4), (0, 4), (0, 4), (0, 4), (0, 4), (0, 3), (0, 20), (6, 3), (0, 96), (5, 5), (0, 484), (0, 484), (0, 484), (0, 484), (8, 10), (0, 60), (4, 6), (0, 4), (0, 4), (2, 2), (4, 6), (0, 4), (0, 4), (0, 4), (7, 17)]) rfl ?_
  refine R_dup fX7_init_63 ?_
  refine R_callG fX7_init_64 rfl rfl pX5_init rfl ⟨Nat.le_of_ble_eq_true rfl, rfl⟩ (sp_iState (B := 96) (by omega) (by omega) ((ap_new (j := 92) hl).trans rfl) (by rw [List.length_append, hl]; rfl) ((ap_old (by omega)).trans h1) (by rw [clF_ne _ (by omega), (tt 1 (by omega)).1]; exact hF)) (fun kd1 F6 Q6 e1 => ?_)
  obtain ⟨e1, bs, br, u6⟩ := e1
  subst e1
  rw [List.append_assoc]
  refine (?_ : Rn (d - 1) mX7_init 67 _ _ (kd ++ [(3, 2), (1, 4), (7, 17), (0, 4), (0, 4), (0, 4), (0, 4), (0, 4), (0, 4), (0, 3), (0, 20), (6, 3), (0, 96), (5, 5), (0, 484), (0, 484), (0, 484), (0, 484), (7, 17), (0, 4), (0, 4), (0, 4), (0, 4), (0, 4), (0, 4), (0, 3), (0, 20), (6, 3), (0, 96), (5, 5), (0, 484), (0, 484), (0, 484), (0, 484), (7, 17), (0, 4), (0, 4), (0, 4), (0, 4), (0, 4), (0, 4), (0, 3), (0, 20), (6, 3), (0, 96), (5, 5), (0, 484), (0, 484), (0, 484), (0, 484), (7, 17), (0, 4), (0, 4), (0, 4), (0, 4), (0, 4), (0, 4), (0, 3), (0, 20), (6, 3), (0, 96), (5, 5), (0, 484), (0, 484), (0, 484), (0, 484), (7, 17), (0, 4), (0, 4), (0, 4), (0, 4), (0, 4), (0, 4), (0, 3), (0, 20), (6, 3), (0, 96), (5, 5), (0, 484), (0, 484), (0, 484), (0, 484), (8, 10), (0, 60), (4, 6), (0, 4), (0, 4), (2, 2), (4, 6), (0, 4), (0, 4), (0, 4), (7, 17), (0, 4), (0, 4), (0, 4), (0, 4), (0, 4), (0, 4), (0, 3), (0, 20), (6, 3), (0, 96), (5, 5), (0, 484), (0, 484), (0, 484), (0, 484)]) _ _ _)
  have cP : ∀ k, k < 96 → Q6 k = P5 k := fun k hk => by rw [(u6 k hk).2, clP_ne _ (by omega)]
  have cF : ∀ k, k < 96 → F6 k = F5 k := fun k hk => by rw [(u6 k hk).1, clF_ne _ (by omega)]
  refine R_putP 5 fX7_init_67 ((ap_old (by omega)).trans hk) (by omega) rfl rfl rfl ?_
  have nP : ∀ k, k ≠ 3 → stp_ Q6 3 5 (some 96) k = Q6 k := fun k hk => stp_kr _ _ _ hk
  have tt : LT 3 F F6 P (stp_ Q6 3 5 (some 96)) := fun k hk => ⟨by rw [cF k (by omega)]; exact (tt k hk).1, by rw [nP k (by omega), cP k (by omega)]; exact (tt k hk).2⟩
  have w0 : (stp_ Q6 3 5 (some 96)) 3 0 = some 4 := by rw [stp_j _ _ (by omega), cP 3 (by omega)]; exact w0
  have a0 : (stp_ Q6 3 5 (some 96)) 4 0 = some 5 := by rw [nP 4 (by omega), cP 4 (by omega)]; exact a0
  have v0 : (stp_ Q6 3 5 (some 96)) 5 0 = some 6 := by rw [nP 5 (by omega), cP 5 (by omega)]; exact v0
  have v1 : (stp_ Q6 3 5 (some 96)) 5 1 = some 22 := by rw [nP 5 (by omega), cP 5 (by omega)]; exact v1
  have v2 : (stp_ Q6 3 5 (some 96)) 5 2 = some 38 := by rw [nP 5 (by omega), cP 5 (by omega)]; exact v2
  have v3 : (stp_ Q6 3 5 (some 96)) 5 3 = some 54 := by rw [nP 5 (by omega), cP 5 (by omega)]; exact v3
  have y0 : pS (stp_ Q6 3 5 (some 96)) 6 := pS_P y0 (fun k a b => by rw [nP k (by omega), cP k (by omega)])
  have y1 : pS (stp_ Q6 3 5 (some 96)) 22 := pS_P y1 (fun k a b => by rw [nP k (by omega), cP k (by omega)])
  have y2 : pS (stp_ Q6 3 5 (some 96)) 38 := pS_P y2 (fun k a b => by rw [nP k (by omega), cP k (by omega)])
  have y3 : pS (stp_ Q6 3 5 (some 96)) 54 := pS_P y3 (fun k a b => by rw [nP k (by omega), cP k (by omega)])
  have f4 : F6 4 = fun _ => 0 := by rw [cF 4 (by omega)]; exact f4
  have w1 : (stp_ Q6 3 5 (some 96)) 3 1 = some 70 := by rw [stp_j _ _ (by omega), cP 3 (by omega)]; exact w1
  have y4 : pS (stp_ Q6 3 5 (some 96)) 70 := pS_P y4 (fun k a b => by rw [nP k (by omega), cP k (by omega)])
  have w2 : (stp_ Q6 3 5 (some 96)) 3 2 = some 86 := by rw [stp_j _ _ (by omega), cP 3 (by omega)]; exact w2
  have tx : (stp_ Q6 3 5 (some 96)) 86 0 = some 87 := by rw [nP 86 (by omega), cP 86 (by omega)]; exact tx
  have f6 : F6 86 = fun _ => 0 := by rw [cF 86 (by omega)]; exact f6
  have f7 : F6 87 = fun _ => 0 := by rw [cF 87 (by omega)]; exact f7
  have w3 : (stp_ Q6 3 5 (some 96)) 3 3 = some 88 := by rw [stp_j _ _ (by omega), cP 3 (by omega)]; exact w3
  have o4 : (stp_ Q6 3 5 (some 96)) 88 4 = some 89 := by rw [nP 88 (by omega), cP 88 (by omega)]; exact o4
  have o5 : (stp_ Q6 3 5 (some 96)) 88 5 = some 90 := by rw [nP 88 (by omega), cP 88 (by omega)]; exact o5
  have w4 : (stp_ Q6 3 5 (some 96)) 3 4 = some 91 := by rw [stp_j _ _ (by omega), cP 3 (by omega)]; exact w4
  have d0 : (stp_ Q6 3 5 (some 96)) 91 0 = some 92 := by rw [nP 91 (by omega), cP 91 (by omega)]; exact d0
  have d1 : (stp_ Q6 3 5 (some 96)) 91 1 = some 95 := by rw [nP 91 (by omega), cP 91 (by omega)]; exact d1
  have d4 : (stp_ Q6 3 5 (some 96)) 92 4 = some 93 := by rw [nP 92 (by omega), cP 92 (by omega)]; exact d4
  have d5 : (stp_ Q6 3 5 (some 96)) 92 5 = some 94 := by rw [nP 92 (by omega), cP 92 (by omega)]; exact d5
  have w5 : (stp_ Q6 3 5 (some 96)) 3 5 = some 96 := stp_eq _ _ _ _
  have y5 : pS (stp_ Q6 3 5 (some 96)) 96 := pS_P (pS_of bs) (fun k a b => nP k (by omega))
  have rl : Rel 96 F6 s0 := br
  clear nP cP cF
  revert tt w0 a0 v0 v1 v2 v3 y0 y1 y2 y3 f4 w1 y4 w2 tx f6 f7 w3 o4 o5 w4 d0 d1 d4 d5 w5 y5 rl
  generalize stp_ Q6 3 5 (some 96) = P6
  intro tt w0 a0 v0 v1 v2 v3 y0 y1 y2 y3 f4 w1 y4 w2 tx f6 f7 w3 o4 o5 w4 d0 d1 d4 d5 w5 y5 rl
  refine R_aload_n fX7_init_70 rfl ?_
  refine R_newO fX7_init_71 (q := 112) (by rw [hl]; rfl) (l' := [(3, 2), (1, 4), (7, 17), (0, 4), (0, 4), (0, 4), (0, 4), (0, 4), (0, 4), (0, 3), (0, 20), (6, 3), (0, 96), (5, 5), (0, 484), (0, 484), (0, 484), (0, 484), (7, 17), (0, 4), (0, 4), (0, 4), (0, 4), (0, 4), (0, 4), (0, 3), (0, 20), (6, 3), (0, 96), (5, 5), (0, 484), (0, 484), (0, 484), (0, 484), (7, 17), (0, 4), (0, 4), (0, 4), (0, 4), (0, 4), (0, 4), (0, 3), (0, 20), (6, 3), (0, 96), (5, 5), (0, 484), (0, 484), (0, 484), (0, 484), (7, 17), (0, 4), (0, 4), (0, 4), (0, 4), (0, 4), (0, 4), (0, 3), (0, 20), (6, 3), (0, 96), (5, 5), (0, 484), (0, 484), (0, 484), (0, 484), (7, 17), (0, 4), (0, 4), (0, 4), (0, 4), (0, 4), (0, 4), (0, 3), (0, 20), (6, 3), (0, 96), (5, 5), (0, 484), (0, 484), (0, 484), (0, 484), (8, 10), (0, 60), (4, 6), (0, 4), (0, 4), (2, 2), (4, 6), (0, 4), (0, 4), (0, 4), (7, 17), (0, 4), (0, 4), (0, 4), (0, 4), (0, 4), (0, 4), (0, 3), (0, 20), (6, 3), (0, 96), (5, 5), (0, 484), (0, 484), (0, 484), (0, 484), (7, 17)]) rfl ?_
  refine R_dup fX7_init_74 ?_
  refine R_callG fX7_init_75 rfl rfl pX5_init rfl ⟨Nat.le_of_ble_eq_true rfl, rfl⟩ (sp_iState (B := 112) (by omega) (by omega) ((ap_new (j := 108) hl).trans rfl) (by rw [List.length_append, hl]; rfl) ((ap_old (by omega)).trans h1) (by rw [clF_ne _ (by omega), (tt 1 (by omega)).1]; exact hF)) (fun kd1 F7 Q7 e1 => ?_)
  obtain ⟨e1, bs, br, u7⟩ := e1
  subst e1
  rw [List.append_assoc]
  refine (?_ : Rn (d - 1) mX7_init 78 _ _ (kd ++ [(3, 2), (1, 4), (7, 17), (0, 4), (0, 4), (0, 4), (0, 4), (0, 4), (0, 4), (0, 3), (0, 20), (6, 3), (0, 96), (5, 5), (0, 484), (0, 484), (0, 484), (0, 484), (7, 17), (0, 4), (0, 4), (0, 4), (0, 4), (0, 4), (0, 4), (0, 3), (0, 20), (6, 3), (0, 96), (5, 5), (0, 484), (0, 484), (0, 484), (0, 484), (7, 17), (0, 4), (0, 4), (0, 4), (0, 4), (0, 4), (0, 4), (0, 3), (0, 20), (6, 3), (0, 96), (5, 5), (0, 484), (0, 484), (0, 484), (0, 484), (7, 17), (0, 4), (0, 4), (0, 4), (0, 4), (0, 4), (0, 4), (0, 3), (0, 20), (6, 3), (0, 96), (5, 5), (0, 484), (0, 484), (0, 484), (0, 484), (7, 17), (0, 4), (0, 4), (0, 4), (0, 4), (0, 4), (0, 4), (0, 3), (0, 20), (6, 3), (0, 96), (5, 5), (0, 484), (0, 484), (0, 484), (0, 484), (8, 10), (0, 60), (4, 6), (0, 4), (0, 4), (2, 2), (4, 6), (0, 4), (0, 4), (0, 4), (7, 17), (0, 4), (0, 4), (0, 4), (0, 4), (0, 4), (0, 4), (0, 3), (0, 20), (6, 3), (0, 96), (5, 5), (0, 484), (0, 484), (0, 484), (0, 484), (7, 17), (0, 4), (0, 4), (0, 4), (0, 4), (0, 4), (0, 4), (0, 3), (0, 20), (6, 3), (0, 96), (5, 5), (0, 484), (0, 484), (0, 484), (0, 484)]) _ _ _)
  have cP : ∀ k, k < 112 → Q7 k = P6 k := fun k hk => by rw [(u7 k hk).2, clP_ne _ (by omega)]
  have cF : ∀ k, k < 112 → F7 k = F6 k := fun k hk => by rw [(u7 k hk).1, clF_ne _ (by omega)]
  refine R_putP 6 fX7_init_78 ((ap_old (by omega)).trans hk) (by omega) rfl rfl rfl ?_
  have nP : ∀ k, k ≠ 3 → stp_ Q7 3 6 (some 112) k = Q7 k := fun k hk => stp_kr _ _ _ hk
  have tt : LT 3 F F7 P (stp_ Q7 3 6 (some 112)) := fun k hk => ⟨by rw [cF k (by omega)]; exact (tt k hk).1, by rw [nP k (by omega), cP k (by omega)]; exact (tt k hk).2⟩
  have w0 : (stp_ Q7 3 6 (some 112)) 3 0 = some 4 := by rw [stp_j _ _ (by omega), cP 3 (by omega)]; exact w0
  have a0 : (stp_ Q7 3 6 (some 112)) 4 0 = some 5 := by rw [nP 4 (by omega), cP 4 (by omega)]; exact a0
  have v0 : (stp_ Q7 3 6 (some 112)) 5 0 = some 6 := by rw [nP 5 (by omega), cP 5 (by omega)]; exact v0
  have v1 : (stp_ Q7 3 6 (some 112)) 5 1 = some 22 := by rw [nP 5 (by omega), cP 5 (by omega)]; exact v1
  have v2 : (stp_ Q7 3 6 (some 112)) 5 2 = some 38 := by rw [nP 5 (by omega), cP 5 (by omega)]; exact v2
  have v3 : (stp_ Q7 3 6 (some 112)) 5 3 = some 54 := by rw [nP 5 (by omega), cP 5 (by omega)]; exact v3
  have y0 : pS (stp_ Q7 3 6 (some 112)) 6 := pS_P y0 (fun k a b => by rw [nP k (by omega), cP k (by omega)])
  have y1 : pS (stp_ Q7 3 6 (some 112)) 22 := pS_P y1 (fun k a b => by rw [nP k (by omega), cP k (by omega)])
  have y2 : pS (stp_ Q7 3 6 (some 112)) 38 := pS_P y2 (fun k a b => by rw [nP k (by omega), cP k (by omega)])
  have y3 : pS (stp_ Q7 3 6 (some 112)) 54 := pS_P y3 (fun k a b => by rw [nP k (by omega), cP k (by omega)])
  have f4 : F7 4 = fun _ => 0 := by rw [cF 4 (by omega)]; exact f4
  have w1 : (stp_ Q7 3 6 (some 112)) 3 1 = some 70 := by rw [stp_j _ _ (by omega), cP 3 (by omega)]; exact w1
  have y4 : pS (stp_ Q7 3 6 (some 112)) 70 := pS_P y4 (fun k a b => by rw [nP k (by omega), cP k (by omega)])
  have w2 : (stp_ Q7 3 6 (some 112)) 3 2 = some 86 := by rw [stp_j _ _ (by omega), cP 3 (by omega)]; exact w2
  have tx : (stp_ Q7 3 6 (some 112)) 86 0 = some 87 := by rw [nP 86 (by omega), cP 86 (by omega)]; exact tx
  have f6 : F7 86 = fun _ => 0 := by rw [cF 86 (by omega)]; exact f6
  have f7 : F7 87 = fun _ => 0 := by rw [cF 87 (by omega)]; exact f7
  have w3 : (stp_ Q7 3 6 (some 112)) 3 3 = some 88 := by rw [stp_j _ _ (by omega), cP 3 (by omega)]; exact w3
  have o4 : (stp_ Q7 3 6 (some 112)) 88 4 = some 89 := by rw [nP 88 (by omega), cP 88 (by omega)]; exact o4
  have o5 : (stp_ Q7 3 6 (some 112)) 88 5 = some 90 := by rw [nP 88 (by omega), cP 88 (by omega)]; exact o5
  have w4 : (stp_ Q7 3 6 (some 112)) 3 4 = some 91 := by rw [stp_j _ _ (by omega), cP 3 (by omega)]; exact w4
  have d0 : (stp_ Q7 3 6 (some 112)) 91 0 = some 92 := by rw [nP 91 (by omega), cP 91 (by omega)]; exact d0
  have d1 : (stp_ Q7 3 6 (some 112)) 91 1 = some 95 := by rw [nP 91 (by omega), cP 91 (by omega)]; exact d1
  have d4 : (stp_ Q7 3 6 (some 112)) 92 4 = some 93 := by rw [nP 92 (by omega), cP 92 (by omega)]; exact d4
  have d5 : (stp_ Q7 3 6 (some 112)) 92 5 = some 94 := by rw [nP 92 (by omega), cP 92 (by omega)]; exact d5
  have w5 : (stp_ Q7 3 6 (some 112)) 3 5 = some 96 := by rw [stp_j _ _ (by omega), cP 3 (by omega)]; exact w5
  have y5 : pS (stp_ Q7 3 6 (some 112)) 96 := pS_P y5 (fun k a b => by rw [nP k (by omega), cP k (by omega)])
  have rl : Rel 96 F7 s0 := Rel_frame rl (fun k a b => cF k (by omega))
  have w6 : (stp_ Q7 3 6 (some 112)) 3 6 = some 112 := stp_eq _ _ _ _
  have y6 : pS (stp_ Q7 3 6 (some 112)) 112 := pS_P (pS_of bs) (fun k a b => nP k (by omega))
  clear nP cP cF
  revert tt w0 a0 v0 v1 v2 v3 y0 y1 y2 y3 f4 w1 y4 w2 tx f6 f7 w3 o4 o5 w4 d0 d1 d4 d5 w5 y5 rl w6 y6
  generalize stp_ Q7 3 6 (some 112) = P7
  intro tt w0 a0 v0 v1 v2 v3 y0 y1 y2 y3 f4 w1 y4 w2 tx f6 f7 w3 o4 o5 w4 d0 d1 d4 d5 w5 y5 rl w6 y6
  refine R_aload_n fX7_init_81 rfl ?_
  refine R_iconst fX7_init_82 ?_
  refine R_putZ 7 fX7_init_83 ((ap_old (by omega)).trans hk) (by omega) rfl rfl rfl (by omega) ?_
  refine R_return fX7_init_86 rfl ?_
  have kS : ∀ x, (isB x ∨ x = 70) → shS (kd ++ [(3, 2), (1, 4), (7, 17), (0, 4), (0, 4), (0, 4), (0, 4), (0, 4), (0, 4), (0, 3), (0, 20), (6, 3), (0, 96), (5, 5), (0, 484), (0, 484), (0, 484), (0, 484), (7, 17), (0, 4), (0, 4), (0, 4), (0, 4), (0, 4), (0, 4), (0, 3), (0, 20), (6, 3), (0, 96), (5, 5), (0, 484), (0, 484), (0, 484), (0, 484), (7, 17), (0, 4), (0, 4), (0, 4), (0, 4), (0, 4), (0, 4), (0, 3), (0, 20), (6, 3), (0, 96), (5, 5), (0, 484), (0, 484), (0, 484), (0, 484), (7, 17), (0, 4), (0, 4), (0, 4), (0, 4), (0, 4), (0, 4), (0, 3), (0, 20), (6, 3), (0, 96), (5, 5), (0, 484), (0, 484), (0, 484), (0, 484), (7, 17), (0, 4), (0, 4), (0, 4), (0, 4), (0, 4), (0, 4), (0, 3), (0, 20), (6, 3), (0, 96), (5, 5), (0, 484), (0, 484), (0, 484), (0, 484), (8, 10), (0, 60), (4, 6), (0, 4), (0, 4), (2, 2), (4, 6), (0, 4), (0, 4), (0, 4), (7, 17), (0, 4), (0, 4), (0, 4), (0, 4), (0, 4), (0, 4), (0, 3), (0, 20), (6, 3), (0, 96), (5, 5), (0, 484), (0, 484), (0, 484), (0, 484), (7, 17), (0, 4), (0, 4), (0, 4), (0, 4), (0, 4), (0, 4), (0, 3), (0, 20), (6, 3), (0, 96), (5, 5), (0, 484), (0, 484), (0, 484), (0, 484)]) P7 x := fun x hx => by
    rcases (by unfold isB at hx; omega : x = 6 ∨ x = 22 ∨ x = 38 ∨ x = 54 ∨ x = 70 ∨ x = 96 ∨ x = 112) with rfl | rfl | rfl | rfl | rfl | rfl | rfl
    · exact shS_of (by omega) ⟨((ap_new (j := 2) hl).trans rfl), ((ap_new (j := 3) hl).trans rfl), ((ap_new (j := 4) hl).trans rfl), ((ap_new (j := 5) hl).trans rfl), ((ap_new (j := 6) hl).trans rfl), ((ap_new (j := 7) hl).trans rfl), ((ap_new (j := 8) hl).trans rfl), ((ap_new (j := 9) hl).trans rfl), ((ap_new (j := 10) hl).trans rfl), ((ap_new (j := 11) hl).trans rfl), ((ap_new (j := 12) hl).trans rfl), ((ap_new (j := 13) hl).trans rfl), ((ap_new (j := 14) hl).trans rfl), ((ap_new (j := 15) hl).trans rfl), ((ap_new (j := 16) hl).trans rfl), ((ap_new (j := 17) hl).trans rfl)⟩ y0
    · exact shS_of (by omega) ⟨((ap_new (j := 18) hl).trans rfl), ((ap_new (j := 19) hl).trans rfl), ((ap_new (j := 20) hl).trans rfl), ((ap_new (j := 21) hl).trans rfl), ((ap_new (j := 22) hl).trans rfl), ((ap_new (j := 23) hl).trans rfl), ((ap_new (j := 24) hl).trans rfl), ((ap_new (j := 25) hl).trans rfl), ((ap_new (j := 26) hl).trans rfl), ((ap_new (j := 27) hl).trans rfl), ((ap_new (j := 28) hl).trans rfl), ((ap_new (j := 29) hl).trans rfl), ((ap_new (j := 30) hl).trans rfl), ((ap_new (j := 31) hl).trans rfl), ((ap_new (j := 32) hl).trans rfl), ((ap_new (j := 33) hl).trans rfl)⟩ y1
    · exact shS_of (by omega) ⟨((ap_new (j := 34) hl).trans rfl), ((ap_new (j := 35) hl).trans rfl), ((ap_new (j := 36) hl).trans rfl), ((ap_new (j := 37) hl).trans rfl), ((ap_new (j := 38) hl).trans rfl), ((ap_new (j := 39) hl).trans rfl), ((ap_new (j := 40) hl).trans rfl), ((ap_new (j := 41) hl).trans rfl), ((ap_new (j := 42) hl).trans rfl), ((ap_new (j := 43) hl).trans rfl), ((ap_new (j := 44) hl).trans rfl), ((ap_new (j := 45) hl).trans rfl), ((ap_new (j := 46) hl).trans rfl), ((ap_new (j := 47) hl).trans rfl), ((ap_new (j := 48) hl).trans rfl), ((ap_new (j := 49) hl).trans rfl)⟩ y2
    · exact shS_of (by omega) ⟨((ap_new (j := 50) hl).trans rfl), ((ap_new (j := 51) hl).trans rfl), ((ap_new (j := 52) hl).trans rfl), ((ap_new (j := 53) hl).trans rfl), ((ap_new (j := 54) hl).trans rfl), ((ap_new (j := 55) hl).trans rfl), ((ap_new (j := 56) hl).trans rfl), ((ap_new (j := 57) hl).trans rfl), ((ap_new (j := 58) hl).trans rfl), ((ap_new (j := 59) hl).trans rfl), ((ap_new (j := 60) hl).trans rfl), ((ap_new (j := 61) hl).trans rfl), ((ap_new (j := 62) hl).trans rfl), ((ap_new (j := 63) hl).trans rfl), ((ap_new (j := 64) hl).trans rfl), ((ap_new (j := 65) hl).trans rfl)⟩ y3
    · exact shS_of (by omega) ⟨((ap_new (j := 66) hl).trans rfl), ((ap_new (j := 67) hl).trans rfl), ((ap_new (j := 68) hl).trans rfl), ((ap_new (j := 69) hl).trans rfl), ((ap_new (j := 70) hl).trans rfl), ((ap_new (j := 71) hl).trans rfl), ((ap_new (j := 72) hl).trans rfl), ((ap_new (j := 73) hl).trans rfl), ((ap_new (j := 74) hl).trans rfl), ((ap_new (j := 75) hl).trans rfl), ((ap_new (j := 76) hl).trans rfl), ((ap_new (j := 77) hl).trans rfl), ((ap_new (j := 78) hl).trans rfl), ((ap_new (j := 79) hl).trans rfl), ((ap_new (j := 80) hl).trans rfl), ((ap_new (j := 81) hl).trans rfl)⟩ y4
    · exact shS_of (by omega) ⟨((ap_new (j := 92) hl).trans rfl), ((ap_new (j := 93) hl).trans rfl), ((ap_new (j := 94) hl).trans rfl), ((ap_new (j := 95) hl).trans rfl), ((ap_new (j := 96) hl).trans rfl), ((ap_new (j := 97) hl).trans rfl), ((ap_new (j := 98) hl).trans rfl), ((ap_new (j := 99) hl).trans rfl), ((ap_new (j := 100) hl).trans rfl), ((ap_new (j := 101) hl).trans rfl), ((ap_new (j := 102) hl).trans rfl), ((ap_new (j := 103) hl).trans rfl), ((ap_new (j := 104) hl).trans rfl), ((ap_new (j := 105) hl).trans rfl), ((ap_new (j := 106) hl).trans rfl), ((ap_new (j := 107) hl).trans rfl)⟩ y5
    · exact shS_of (by omega) ⟨((ap_new (j := 108) hl).trans rfl), ((ap_new (j := 109) hl).trans rfl), ((ap_new (j := 110) hl).trans rfl), ((ap_new (j := 111) hl).trans rfl), ((ap_new (j := 112) hl).trans rfl), ((ap_new (j := 113) hl).trans rfl), ((ap_new (j := 114) hl).trans rfl), ((ap_new (j := 115) hl).trans rfl), ((ap_new (j := 116) hl).trans rfl), ((ap_new (j := 117) hl).trans rfl), ((ap_new (j := 118) hl).trans rfl), ((ap_new (j := 119) hl).trans rfl), ((ap_new (j := 120) hl).trans rfl), ((ap_new (j := 121) hl).trans rfl), ((ap_new (j := 122) hl).trans rfl), ((ap_new (j := 123) hl).trans rfl)⟩ y6
  have hhj : ∀ j : Int, 0 ≤ j → j < 4 → (j = 0 ∧ hh0 j = 6) ∨ (j = 1 ∧ hh0 j = 22) ∨ (j = 2 ∧ hh0 j = 38) ∨ (j = 3 ∧ hh0 j = 54) := fun j j0 j1 => by
    rcases (by omega : j = 0 ∨ j = 1 ∨ j = 2 ∨ j = 3) with rfl | rfl | rfl | rfl
    · exact Or.inl ⟨rfl, rfl⟩
    · exact Or.inr (Or.inl ⟨rfl, rfl⟩)
    · exact Or.inr (Or.inr (Or.inl ⟨rfl, rfl⟩))
    · exact Or.inr (Or.inr (Or.inr ⟨rfl, rfl⟩))
  have hX : shX (kd ++ [(3, 2), (1, 4), (7, 17), (0, 4), (0, 4), (0, 4), (0, 4), (0, 4), (0, 4), (0, 3), (0, 20), (6, 3), (0, 96), (5, 5), (0, 484), (0, 484), (0, 484), (0, 484), (7, 17), (0, 4), (0, 4), (0, 4), (0, 4), (0, 4), (0, 4), (0, 3), (0, 20), (6, 3), (0, 96), (5, 5), (0, 484), (0, 484), (0, 484), (0, 484), (7, 17), (0, 4), (0, 4), (0, 4), (0, 4), (0, 4), (0, 4), (0, 3), (0, 20), (6, 3), (0, 96), (5, 5), (0, 484), (0, 484), (0, 484), (0, 484), (7, 17), (0, 4), (0, 4), (0, 4), (0, 4), (0, 4), (0, 4), (0, 3), (0, 20), (6, 3), (0, 96), (5, 5), (0, 484), (0, 484), (0, 484), (0, 484), (7, 17), (0, 4), (0, 4), (0, 4), (0, 4), (0, 4), (0, 4), (0, 3), (0, 20), (6, 3), (0, 96), (5, 5), (0, 484), (0, 484), (0, 484), (0, 484), (8, 10), (0, 60), (4, 6), (0, 4), (0, 4), (2, 2), (4, 6), (0, 4), (0, 4), (0, 4), (7, 17), (0, 4), (0, 4), (0, 4), (0, 4), (0, 4), (0, 4), (0, 3), (0, 20), (6, 3), (0, 96), (5, 5), (0, 484), (0, 484), (0, 484), (0, 484), (7, 17), (0, 4), (0, 4), (0, 4), (0, 4), (0, 4), (0, 4), (0, 3), (0, 20), (6, 3), (0, 96), (5, 5), (0, 484), (0, 484), (0, 484), (0, 484)]) P7 96 112 hh0 := by
    refine ⟨((ap_old (by omega)).trans hk), ⟨w0, w1, w2, w3, w4, w5, w6⟩, ⟨by omega, by omega, by omega, ((ap_new (j := 0) hl).trans rfl), ((ap_new (j := 1) hl).trans rfl), a0⟩, fun j j0 j1 => ?_, kS, ⟨by omega, ((ap_new (j := 82) hl).trans rfl), ((ap_new (j := 83) hl).trans rfl), tx⟩, ⟨by omega, ((ap_new (j := 84) hl).trans rfl), ((ap_new (j := 85) hl).trans rfl), ((ap_new (j := 86) hl).trans rfl), o4, o5⟩, ⟨⟨by omega, by omega, ((ap_new (j := 87) hl).trans rfl), ((ap_new (j := 91) hl).trans rfl), d0, d1⟩, ⟨by omega, ((ap_new (j := 88) hl).trans rfl), ((ap_new (j := 89) hl).trans rfl), ((ap_new (j := 90) hl).trans rfl), d4, d5⟩⟩, ⟨by unfold isB; omega, by unfold isB; omega, by omega⟩, fun j j0 j1 => ?_, fun i j i0 i1 i2 => ?_, (ap_old (by omega)).trans hk2⟩
    · rcases (by omega : j = 0 ∨ j = 1 ∨ j = 2 ∨ j = 3) with rfl | rfl | rfl | rfl
      · exact v0
      · exact v1
      · exact v2
      · exact v3
    · have := hhj j j0 j1
      unfold isB
      omega
    · have h1 := hhj i i0 (by omega)
      have h2 := hhj j (by omega) i2
      omega
  refine ⟨_, _, _, rfl, rfl, fun σ sn => ⟨96, 112, hh0, hX, ?_⟩, fun k hk => ⟨by rw [stt_kr _ _ _ (by omega)]; exact (tt k hk).1, (tt k hk).2⟩⟩
  refine ⟨Rel_frame rl (fun k a b => stt_kr _ _ _ (by omega)), ?_, fun j a b => by omega, stt_eq _ _ _ _, fun z => by omega, ?_, ?_, ?_⟩
  · rw [stt_kr _ _ _ (by omega), f4]
  · rw [stt_kr _ _ _ (by omega), f6]
  · rw [stt_kr _ _ _ (by omega)]; exact f7
  · rw [stt_kr _ _ _ (by omega), (tt 2 (by omega)).1]; exact hG
