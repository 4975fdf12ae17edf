def LM : KL := [(0, 2107), (0, 8428), (0, 2107), (0, 2107), (0, 2107), (0, 60), (0, 2)]
theorem stt_up (F : FM) (k : Nat) (j v : Int) : stt F k j v k = up (F k) j v := by
  funext b
  unfold stt up
  by_cases h : b = j
  · rw [if_pos ⟨rfl, h⟩, if_pos h]
  · rw [if_neg (fun z => h z.2), if_neg h]
set_option maxHeartbeats 2000000 in
theorem sp_iM {d : Nat} {kd : KL} {F : FM} {P : PM}  (hd : 4 ≤ d) (hk : kd[128]? = some (10, 22)) (hl : kd.length = 129) (hz : F 128 = fun _ => 0) : Sp d 87 [.inr (some 128)] kd F P (QG (fun kd' F' P' => kd' = kd ++ LM ∧ shM kd' P' ∧ (∀ σ sn, RWl F' s0 0 σ 0 sn 0 (fun _ => 0)) ∧ LT 128 F F' P P')) := by
  refine Sp_of (me := mX8_init) (by omega) pX8_init ⟨rfl, Nat.le_of_ble_eq_true rfl⟩ ?_
  refine R_aload_n fX8_init_0 rfl ?_
  refine R_objinit fX8_init_1 (by omega) ?_
  refine R_aload_n fX8_init_4 rfl ?_
  refine R_sipush fX8_init_5 ?_
  refine R_newA1 fX8_init_8 (by decide) (q := 129) hl (l' := [(0, 2107)]) rfl ?_
  refine R_putP 0 fX8_init_10 ((ap_old (by omega)).trans hk) (by omega) rfl rfl rfl ?_
  refine R_aload_n fX8_init_13 rfl ?_
  refine R_sipush fX8_init_14 ?_
  refine R_newA fX8_init_17 (by decide) (q := 130) (by rw [hl]; rfl) (l' := [(0, 2107), (0, 8428)]) rfl ?_
  refine R_putP 1 fX8_init_19 ((ap_old (by omega)).trans hk) (by omega) rfl rfl rfl ?_
  refine R_aload_n fX8_init_22 rfl ?_
  refine R_sipush fX8_init_23 ?_
  refine R_newA fX8_init_26 (by decide) (q := 131) (by rw [hl]; rfl) (l' := [(0, 2107), (0, 8428), (0, 2107)]) rfl ?_
  refine R_putP 2 fX8_init_28 ((ap_old (by omega)).trans hk) (by omega) rfl rfl rfl ?_
  refine R_aload_n fX8_init_31 rfl ?_
  refine R_sipush fX8_init_32 ?_
  refine R_newA fX8_init_35 (by decide) (q := 132) (by rw [hl]; rfl) (l' := [(0, 2107), (0, 8428), (0, 2107), (0, 2107)]) rfl ?_
  refine R_putP 3 fX8_init_37 ((ap_old (by omega)).trans hk) (by omega) rfl rfl rfl ?_
  refine R_aload_n fX8_init_40 rfl ?_
  refine R_sipush fX8_init_41 ?_
  refine R_newA fX8_init_44 (by decide) (q := 133) (by rw [hl]; rfl) (l' := [(0, 2107), (0, 8428), (0, 2107), (0, 2107), (0, 2107)]) rfl ?_
  refine R_putP 4 fX8_init_46 ((ap_old (by omega)).trans hk) (by omega) rfl rfl rfl ?_
  refine R_aload_n fX8_init_49 rfl ?_
  refine R_bipush fX8_init_50 ?_
  refine R_newA fX8_init_52 (by decide) (q := 134) (by rw [hl]; rfl) (l' := [(0, 2107), (0, 8428), (0, 2107), (0, 2107), (0, 2107), (0, 60)]) rfl ?_
  refine R_putP 8 fX8_init_54 ((ap_old (by omega)).trans hk) (by omega) rfl rfl rfl ?_
  refine R_aload_n fX8_init_57 rfl ?_
  refine R_iconst fX8_init_58 ?_
  refine R_newA fX8_init_59 (by decide) (q := 135) (by rw [hl]; rfl) (l' := [(0, 2107), (0, 8428), (0, 2107), (0, 2107), (0, 2107), (0, 60), (0, 2)]) rfl ?_
  refine R_putP 21 fX8_init_61 ((ap_old (by omega)).trans hk) (by omega) rfl rfl rfl ?_
  refine R_aload_n fX8_init_64 rfl ?_
  refine R_getP 0 fX8_init_65 ((ap_old (by omega)).trans hk) (by omega) rfl rfl rfl (v := 129) (by simp (disch := omega) only [stp_eq, stp_j]) ?_
  refine R_bipush fX8_init_68 ?_
  refine R_iconst fX8_init_70 ?_
  refine R_iastore fX8_init_71 ((ap_new (j := 0) hl).trans rfl) (by omega) (by omega) ?_
  refine R_aload_n fX8_init_72 rfl ?_
  refine R_getP 0 fX8_init_73 ((ap_old (by omega)).trans hk) (by omega) rfl rfl rfl (v := 129) (by simp (disch := omega) only [stp_eq, stp_j]) ?_
  refine R_bipush fX8_init_76 ?_
  refine R_iconst fX8_init_78 ?_
  refine R_iastore fX8_init_79 ((ap_new (j := 0) hl).trans rfl) (by omega) (by omega) ?_
  have hM : shM (kd ++ [(0, 2107), (0, 8428), (0, 2107), (0, 2107), (0, 2107), (0, 60), (0, 2)]) (stp_ (stp_ (stp_ (stp_ (stp_ (stp_ (stp_ P 128 0 (some 129)) 128 1 (some 130)) 128 2 (some 131)) 128 3 (some 132)) 128 4 (some 133)) 128 8 (some 134)) 128 21 (some 135)) := ⟨((ap_old (by omega)).trans hk), ((ap_new (j := 0) hl).trans rfl), ((ap_new (j := 1) hl).trans rfl), ((ap_new (j := 2) hl).trans rfl), ((ap_new (j := 3) hl).trans rfl), ((ap_new (j := 4) hl).trans rfl), ((ap_new (j := 5) hl).trans rfl), ((ap_new (j := 6) hl).trans rfl), (by simp (disch := omega) only [stp_eq, stp_j]), (by simp (disch := omega) only [stp_eq, stp_j]), (by simp (disch := omega) only [stp_eq, stp_j]), (by simp (disch := omega) only [stp_eq, stp_j]), (by simp (disch := omega) only [stp_eq, stp_j]), (by simp (disch := omega) only [stp_eq, stp_j]), (by simp (disch := omega) only [stp_eq, stp_j])⟩
  have g126 : (stt (stt (clF (clF (clF (clF (clF (clF (clF F 129) 130) 131) 132) 133) 134) 135) 129 26 1) 129 28 1) 129 = z0 := by
    rw [stt_up, stt_up]
    simp (disch := omega) only [clF_ne]
    rw [clF_eq]
    rfl
  have g128 : (stt (stt (clF (clF (clF (clF (clF (clF (clF F 129) 130) 131) 132) 133) 134) 135) 129 26 1) 129 28 1) 131 = fun _ => 0 := by
    rw [stt_kr _ _ _ (by omega), stt_kr _ _ _ (by omega)]
    simp (disch := omega) only [clF_ne]
    rw [clF_eq]
  have g129 : (stt (stt (clF (clF (clF (clF (clF (clF (clF F 129) 130) 131) 132) 133) 134) 135) 129 26 1) 129 28 1) 132 = fun _ => 0 := by
    rw [stt_kr _ _ _ (by omega), stt_kr _ _ _ (by omega)]
    simp (disch := omega) only [clF_ne]
    rw [clF_eq]
  have g130 : (stt (stt (clF (clF (clF (clF (clF (clF (clF F 129) 130) 131) 132) 133) 134) 135) 129 26 1) 129 28 1) 133 = fun _ => 0 := by
    rw [stt_kr _ _ _ (by omega), stt_kr _ _ _ (by omega)]
    simp (disch := omega) only [clF_ne]
    rw [clF_eq]
  have g131 : (stt (stt (clF (clF (clF (clF (clF (clF (clF F 129) 130) 131) 132) 133) 134) 135) 129 26 1) 129 28 1) 134 = fun _ => 0 := by
    rw [stt_kr _ _ _ (by omega), stt_kr _ _ _ (by omega)]
    simp (disch := omega) only [clF_ne]
    rw [clF_eq]
  have g125 : (stt (stt (clF (clF (clF (clF (clF (clF (clF F 129) 130) 131) 132) 133) 134) 135) 129 26 1) 129 28 1) 128 = fun _ => 0 := by
    rw [stt_kr _ _ _ (by omega), stt_kr _ _ _ (by omega)]
    simp (disch := omega) only [clF_ne]
    exact hz
  have gl : ∀ k, k < 128 → (stt (stt (clF (clF (clF (clF (clF (clF (clF F 129) 130) 131) 132) 133) 134) 135) 129 26 1) 129 28 1) k = F k := fun k hk => by
    rw [stt_kr _ _ _ (by omega), stt_kr _ _ _ (by omega)]
    simp (disch := omega) only [clF_ne]
  have pl : ∀ k, k < 128 → (stp_ (stp_ (stp_ (stp_ (stp_ (stp_ (stp_ P 128 0 (some 129)) 128 1 (some 130)) 128 2 (some 131)) 128 3 (some 132)) 128 4 (some 133)) 128 8 (some 134)) 128 21 (some 135)) k = P k := fun k hk => by
    simp (disch := omega) only [stp_kr]
  revert hM g126 g128 g129 g130 g131 g125 gl pl
  generalize (stt (stt (clF (clF (clF (clF (clF (clF (clF F 129) 130) 131) 132) 133) 134) 135) 129 26 1) 129 28 1) = G
  generalize (stp_ (stp_ (stp_ (stp_ (stp_ (stp_ (stp_ P 128 0 (some 129)) 128 1 (some 130)) 128 2 (some 131)) 128 3 (some 132)) 128 4 (some 133)) 128 8 (some 134)) 128 21 (some 135)) = PG
  intro hM g126 g128 g129 g130 g131 g125 gl pl
  refine R_aload_n fX8_init_80 rfl ?_
  refine R_iconst fX8_init_81 ?_
  refine R_bipush fX8_init_82 ?_
  rw [setr_me g126]
  refine R_callN fX8_init_84 rfl rfl pX8_begins rfl ⟨Nat.le_of_ble_eq_true rfl, rcv_v rfl (by omega) hM.1⟩ (sp_mbegins (by omega) hM) (fun F1 q => ?_)
  subst q
  refine R_return fX8_init_87 rfl ?_
  refine ⟨_, _, _, rfl, rfl, hM, fun σ sn => ⟨setr_eq _ _ _, ?_, fun j a b => by omega, ?_, fun z => by omega, ?_, ?_, ?_, ?_, ?_, ?_, ?_⟩, fun k hk => ⟨by rw [setr_ne _ _ (by omega)]; exact gl k hk, pl k hk⟩⟩
  · rw [setr_ne _ _ (by omega), g125]
  · rw [setr_ne _ _ (by omega), g125]
  · rw [setr_ne _ _ (by omega), g125]
  · rw [setr_ne _ _ (by omega), g131]
  · rw [setr_ne _ _ (by omega), g125]
  · rw [setr_eq]; exact Zr_s0
  · rw [setr_ne _ _ (by omega), g128]; exact fun _ _ => rfl
  · rw [setr_ne _ _ (by omega), g129]; exact fun _ _ => rfl
  · rw [setr_ne _ _ (by omega), g130]; exact fun _ _ => rfl
