theorem RW_fr {F F' : FM} {s t : Int → Int} {m : Int} {σ : Int → Int → Int} {hs : Int} {sn : Int → Int} {n : Int} {c : Int → Int} (hW : RWl F s m σ hs sn n c) (h5 : F' 128 5 = F 128 5) (h6 : F' 128 6 = F 128 6) (h9 : F' 128 9 = F 128 9) (h7 : F' 128 7 = 0) (h127 : F' 130 = F 130) (h130 : F' 133 = F 133) (h131 : F' 134 = F 134) (h126 : F' 129 = t) (zt : Zr t) (z128 : Zr (F' 131)) (z129 : Zr (F' 132)) : RWl F' t m σ hs sn n c := by
  obtain ⟨r1, r2, r3, r4, r5, r6, r7, r8, z1, z2, z3, z4⟩ := hW
  refine ⟨h126, by rw [h6]; exact r2, fun j j0 j1 => ?_, by rw [h5]; exact r4, fun z => by rw [h130]; exact r5 z, by rw [h9]; exact r6, by rw [h131]; exact r7, h7, by rw [h126]; exact zt, z128, z129, by rw [h130]; exact z4⟩
  rw [← r3 j j0 j1]
  funext a
  unfold PS
  rw [h127]
theorem sp_rfault {d : Nat} {kd : KL} {F : FM} {P : PM} {s : Int → Int} {m : Int} {σ : Int → Int → Int} {hs : Int} {sn : Int → Int} {n : Int} {c : Int → Int} {w : Int} (hd : 8 ≤ d) (hM : shM kd P) (hW : RWl F s m σ hs sn n c) (hA : AW s m σ hs sn n) (h2 : s 2 + 60 ≤ 20000) : Sp d 136 [.inr (some 128), .inl w] kd F P (QV kd P (fun r F' => r = aFault c n s w ∧ RWl F' s m σ hs sn n c ∧ ∀ k, k < 128 → F' k = F k)) := by
  refine Sp_of (me := mX8_fault) (by omega) pX8_fault ⟨rfl, Nat.le_of_ble_eq_true rfl⟩ ?_
  obtain ⟨r1, r2, r3, r4, r5, r6, r7, r8, z1, z2, z3, z4⟩ := id hW
  have hm := hA.2.1
  have hnn := hA.2.2.2.2.2
  have hw := hA.1
  have zs : Zr s := by rw [← r1]; exact z1
  have zt : Zr (PF c n s).2.2.2.2 := pfm_zr n.toNat hw (by omega) zs
  have hre := pfm_re (c := c) (n := n) n.toNat (s := s) (pos := 0) (cm := 0) (by omega)
  rw [show pfm c n n.toNat s 0 0 = PF c n s from rfl] at hre
  refine R_iload_n fX8_fault_0 rfl ?_
  refine R_iconst fX8_fault_1 ?_
  refine R_iconst fX8_fault_2 ?_
  refine R_callE fX8_fault_3 rfl rfl pX8_in rfl ⟨Nat.le_of_ble_eq_true rfl, rfl⟩ (sp_min (by omega)) ?_
  refine R_if_ne fX8_fault_6 rfl (fun h6 => ?_) (fun h6 => ?_)
  · have hv : 0 ≤ w ∧ w ≤ 2 := by
      by_cases z : 0 ≤ w ∧ w ≤ 2
      · exact z
      · rw [if_neg z] at h6; omega
    refine R_aload_n fX8_fault_12 rfl ?_
    refine R_getP 0 fX8_fault_13 hM.1 (by omega) rfl rfl rfl hM.2.2.2.2.2.2.2.2.1 ?_
    refine R_aload_n fX8_fault_16 rfl ?_
    refine R_getP 2 fX8_fault_17 hM.1 (by omega) rfl rfl rfl hM.2.2.2.2.2.2.2.2.2.2.1 ?_
    refine R_callN fX8_fault_20 rfl rfl pX8_copies rfl ⟨Nat.le_of_ble_eq_true rfl, rfl⟩ (sp_mcopies (by omega) hM.2.1 hM.2.2.2.1 (by omega) (by omega) z1 z2) (fun F1 e1 => ?_)
    have f126 : F1 129 = s := by rw [e1, setr_ne _ _ (by omega)]; exact r1
    have f128 : F1 131 = s := by rw [e1, setr_eq]; exact r1
    have fo : ∀ k, k ≠ 131 → F1 k = F k := fun k hk => by rw [e1, setr_ne _ _ hk]
    refine R_aload_n fX8_fault_23 rfl ?_
    refine R_callV fX8_fault_24 rfl rfl pX8_plays rfl ⟨Nat.le_of_ble_eq_true rfl, rcv_v rfl (by omega) hM.1⟩ (sp_mplays (by omega) hM (c := c) (n := n) (s := s) (by rw [fo 134 (by omega)]; exact r7) ⟨by rw [fo 128 (by omega)]; exact r6, hnn⟩ f126 hw h2) (fun r F2 q => ?_)
    obtain ⟨q1, q2, q3, q4, q5, q6⟩ := q
    refine R_istore_n fX8_fault_27 rfl ?_
    refine R_aload_n fX8_fault_28 rfl ?_
    refine R_getP 2 fX8_fault_29 hM.1 (by omega) rfl rfl rfl hM.2.2.2.2.2.2.2.2.2.2.1 ?_
    refine R_aload_n fX8_fault_32 rfl ?_
    refine R_getP 0 fX8_fault_33 hM.1 (by omega) rfl rfl rfl hM.2.2.2.2.2.2.2.2.1 ?_
    refine R_callN fX8_fault_36 rfl rfl pX8_copies rfl ⟨Nat.le_of_ble_eq_true rfl, rfl⟩ (sp_mcopies (by omega) hM.2.2.2.1 hM.2.1 (by omega) (by omega) (by rw [q6.2 131 (by omega) (by omega) (by omega), f128]; exact zs) (by rw [q2]; exact zt)) (fun F3 e3 => ?_)
    have g126 : F3 129 = s := by rw [e3, setr_eq, q6.2 131 (by omega) (by omega) (by omega)]; exact f128
    have go : ∀ k, k ≠ 129 → F3 k = F2 k := fun k hk => by rw [e3, setr_ne _ _ hk]
    have g125 : ∀ j, j ≠ 7 → j ≠ 17 → j ≠ 18 → j ≠ 19 → j ≠ 20 → F3 128 j = F 128 j := fun j a b e f g => by rw [go 128 (by omega), q6.1 j a b e f g, fo 128 (by omega)]
    have gk : ∀ k, k ≠ 128 → k ≠ 129 → k ≠ 135 → k ≠ 131 → F3 k = F k := fun k a b e f => by rw [go k b, q6.2 k a b e, fo k f]
    have g7 : F3 128 7 = 0 := by rw [go 128 (by omega)]; exact q5
    have W3 : RWl F3 s m σ hs sn n c := RW_fr hW (g125 5 (by omega) (by omega) (by omega) (by omega) (by omega)) (g125 6 (by omega) (by omega) (by omega) (by omega) (by omega)) (g125 9 (by omega) (by omega) (by omega) (by omega) (by omega)) g7 (gk 130 (by omega) (by omega) (by omega) (by omega)) (gk 133 (by omega) (by omega) (by omega) (by omega)) (gk 134 (by omega) (by omega) (by omega) (by omega)) g126 zs (by rw [go 131 (by omega), q6.2 131 (by omega) (by omega) (by omega), f128]; exact zs) (by rw [gk 132 (by omega) (by omega) (by omega) (by omega)]; exact z3)
    have L3 : ∀ k, k < 128 → F3 k = F k := fun k hk => gk k (by omega) (by omega) (by omega) (by omega)
    refine R_iload_n fX8_fault_39 rfl ?_
    refine R_ldc fX8_fault_40 ?_
    refine R_icmp_eq fX8_fault_42 rfl (fun h42 => ?_) (fun h42 => ?_)
    · refine R_iload_n fX8_fault_49 rfl ?_
      refine R_goto fX8_fault_50 rfl ?_
      refine R_ireturn fX8_fault_89 rfl ?_
      refine ⟨_, _, rfl, ?_, W3, L3⟩
      unfold aFault
      rw [if_neg (by omega)]
      by_cases t0 : (PF c n s).2.1 = 0
      · rw [if_pos t0] at q1
        first
        | (exfalso; omega)
        | (rw [if_pos t0]; done)
        | (rw [if_pos t0]; exact q1)
      · rw [if_neg t0] at q1
        have q4' := q4 t0
        rw [if_neg t0]
        by_cases w0 : w = 0
        · rw [if_pos w0]
          first
          | (exfalso; omega)
          | exact q1
        · rw [if_neg w0]
          by_cases w1 : w = 1
          · rw [if_pos w1]; omega
          · rw [if_neg w1]
            by_cases t2 : (PF c n s).2.1 = 2
            · rw [if_pos t2]; omega
            · first
              | (rw [if_neg t2]; done)
              | (rw [if_neg t2]; omega)
    · refine R_iload_n fX8_fault_45 rfl ?_
      refine R_if_ne fX8_fault_46 rfl (fun h46 => ?_) (fun h46 => ?_)
      · refine R_iload_n fX8_fault_53 rfl ?_
        refine R_iconst fX8_fault_54 ?_
        refine R_icmp_ne fX8_fault_55 rfl (fun h55 => ?_) (fun h55 => ?_)
        · refine R_aload_n fX8_fault_73 rfl ?_
          have e18 : F3 128 18 = F2 128 18 := by rw [go 128 (by omega)]
          refine R_getI 18 fX8_fault_74 hM.1 (by omega) rfl rfl rfl ?_
          refine R_if_ne fX8_fault_77 rfl (fun h77 => ?_) (fun h77 => ?_)
          · refine R_aload_n fX8_fault_85 rfl ?_
            refine R_getI 18 fX8_fault_86 hM.1 (by omega) rfl rfl rfl ?_
            refine R_ireturn fX8_fault_89 rfl ?_
            refine ⟨_, _, rfl, ?_, W3, L3⟩
            unfold aFault
            rw [if_neg (by omega)]
            by_cases t0 : (PF c n s).2.1 = 0
            · rw [if_pos t0] at q1
              first
              | (exfalso; omega)
              | (rw [if_pos t0]; done)
              | (rw [if_pos t0]; exact q1)
            · rw [if_neg t0] at q1
              have q4' := q4 t0
              rw [if_neg t0]
              by_cases w0 : w = 0
              · rw [if_pos w0]
                first
                | (exfalso; omega)
                | exact q1
              · rw [if_neg w0]
                by_cases w1 : w = 1
                · rw [if_pos w1]; omega
                · rw [if_neg w1]
                  by_cases t2 : (PF c n s).2.1 = 2
                  · rw [if_pos t2]; omega
                  · first
                    | (rw [if_neg t2]; done)
                    | (rw [if_neg t2]; omega)
          · refine R_ldc fX8_fault_80 ?_
            refine R_goto fX8_fault_82 rfl ?_
            refine R_ireturn fX8_fault_89 rfl ?_
            refine ⟨_, _, rfl, ?_, W3, L3⟩
            unfold aFault
            rw [if_neg (by omega)]
            by_cases t0 : (PF c n s).2.1 = 0
            · rw [if_pos t0] at q1
              first
              | (exfalso; omega)
              | (rw [if_pos t0]; done)
              | (rw [if_pos t0]; exact q1)
            · rw [if_neg t0] at q1
              have q4' := q4 t0
              rw [if_neg t0]
              by_cases w0 : w = 0
              · rw [if_pos w0]
                first
                | (exfalso; omega)
                | exact q1
              · rw [if_neg w0]
                by_cases w1 : w = 1
                · rw [if_pos w1]; omega
                · rw [if_neg w1]
                  by_cases t2 : (PF c n s).2.1 = 2
                  · rw [if_pos t2]; omega
                  · first
                    | (rw [if_neg t2]; done)
                    | (rw [if_neg t2]; omega)
        · refine R_aload_n fX8_fault_58 rfl ?_
          have e18 : F3 128 18 = F2 128 18 := by rw [go 128 (by omega)]
          refine R_getI 18 fX8_fault_59 hM.1 (by omega) rfl rfl rfl ?_
          refine R_if_ne fX8_fault_62 rfl (fun h62 => ?_) (fun h62 => ?_)
          · refine R_iconst fX8_fault_69 ?_
            refine R_goto fX8_fault_70 rfl ?_
            refine R_ireturn fX8_fault_89 rfl ?_
            refine ⟨_, _, rfl, ?_, W3, L3⟩
            unfold aFault
            rw [if_neg (by omega)]
            by_cases t0 : (PF c n s).2.1 = 0
            · rw [if_pos t0] at q1
              first
              | (exfalso; omega)
              | (rw [if_pos t0]; done)
              | (rw [if_pos t0]; exact q1)
            · rw [if_neg t0] at q1
              have q4' := q4 t0
              rw [if_neg t0]
              by_cases w0 : w = 0
              · rw [if_pos w0]
                first
                | (exfalso; omega)
                | exact q1
              · rw [if_neg w0]
                by_cases w1 : w = 1
                · rw [if_pos w1]; omega
                · rw [if_neg w1]
                  by_cases t2 : (PF c n s).2.1 = 2
                  · rw [if_pos t2]; omega
                  · first
                    | (rw [if_neg t2]; done)
                    | (rw [if_neg t2]; omega)
          · refine R_iconst fX8_fault_65 ?_
            refine R_goto fX8_fault_66 rfl ?_
            refine R_ireturn fX8_fault_89 rfl ?_
            refine ⟨_, _, rfl, ?_, W3, L3⟩
            unfold aFault
            rw [if_neg (by omega)]
            by_cases t0 : (PF c n s).2.1 = 0
            · rw [if_pos t0] at q1
              first
              | (exfalso; omega)
              | (rw [if_pos t0]; done)
              | (rw [if_pos t0]; exact q1)
            · rw [if_neg t0] at q1
              have q4' := q4 t0
              rw [if_neg t0]
              by_cases w0 : w = 0
              · rw [if_pos w0]
                first
                | (exfalso; omega)
                | exact q1
              · rw [if_neg w0]
                by_cases w1 : w = 1
                · rw [if_pos w1]; omega
                · rw [if_neg w1]
                  by_cases t2 : (PF c n s).2.1 = 2
                  · rw [if_pos t2]; omega
                  · first
                    | (rw [if_neg t2]; done)
                    | (rw [if_neg t2]; omega)
      · refine R_iload_n fX8_fault_49 rfl ?_
        refine R_goto fX8_fault_50 rfl ?_
        refine R_ireturn fX8_fault_89 rfl ?_
        refine ⟨_, _, rfl, ?_, W3, L3⟩
        unfold aFault
        rw [if_neg (by omega)]
        by_cases t0 : (PF c n s).2.1 = 0
        · rw [if_pos t0] at q1
          first
          | (exfalso; omega)
          | (rw [if_pos t0]; done)
          | (rw [if_pos t0]; exact q1)
        · rw [if_neg t0] at q1
          have q4' := q4 t0
          rw [if_neg t0]
          by_cases w0 : w = 0
          · rw [if_pos w0]
            first
            | (exfalso; omega)
            | exact q1
          · rw [if_neg w0]
            by_cases w1 : w = 1
            · rw [if_pos w1]; omega
            · rw [if_neg w1]
              by_cases t2 : (PF c n s).2.1 = 2
              · rw [if_pos t2]; omega
              · first
                | (rw [if_neg t2]; done)
                | (rw [if_neg t2]; omega)
  · refine R_ldc fX8_fault_9 ?_
    refine R_ireturn fX8_fault_11 rfl ?_
    have hv : w < 0 ∨ 2 < w := by
      by_cases z : 0 ≤ w ∧ w ≤ 2
      · rw [if_pos z] at h6; omega
      · omega
    exact ⟨_, _, rfl, by unfold aFault; rw [if_pos hv], hW, fun _ _ => rfl⟩
theorem sp_rplay {d : Nat} {kd : KL} {F : FM} {P : PM} {s : Int → Int} {m : Int} {σ : Int → Int → Int} {hs : Int} {sn : Int → Int} {n : Int} {c : Int → Int}  (hd : 8 ≤ d) (hM : shM kd P) (hW : RWl F s m σ hs sn n c) (hA : AW s m σ hs sn n) (h2 : s 2 + 60 ≤ 20000) : Sp d 137 [.inr (some 128)] kd F P (QV kd P (fun r F' => r = aPlay c n s ∧ RWl F' (tPlay c n s) (tm (aPlay c n s) m) (tσ (aPlay c n s) m σ s) hs sn n c ∧ ∀ k, k < 128 → F' k = F k)) := by
  refine Sp_of (me := mX8_play) (by omega) pX8_play ⟨rfl, Nat.le_of_ble_eq_true rfl⟩ ?_
  obtain ⟨r1, r2, r3, r4, r5, r6, r7, r8, z1, z2, z3, z4⟩ := id hW
  have hm := hA.2.1
  have hnn := hA.2.2.2.2.2
  have hw := hA.1
  have zs : Zr s := by rw [← r1]; exact z1
  have zt : Zr (PF c n s).2.2.2.2 := pfm_zr n.toNat hw (by omega) zs
  have hre := pfm_re (c := c) (n := n) n.toNat (s := s) (pos := 0) (cm := 0) (by omega)
  rw [show pfm c n n.toNat s 0 0 = PF c n s from rfl] at hre
  have hcm := pfm_cm (c := c) (n := n) n.toNat (s := s) (pos := 0) (cm := 0) (by omega)
  rw [show pfm c n n.toNat s 0 0 = PF c n s from rfl] at hcm
  refine R_aload_n fX8_play_0 rfl ?_
  refine R_getP 0 fX8_play_1 hM.1 (by omega) rfl rfl rfl hM.2.2.2.2.2.2.2.2.1 ?_
  refine R_aload_n fX8_play_4 rfl ?_
  refine R_getP 2 fX8_play_5 hM.1 (by omega) rfl rfl rfl hM.2.2.2.2.2.2.2.2.2.2.1 ?_
  refine R_callN fX8_play_8 rfl rfl pX8_copies rfl ⟨Nat.le_of_ble_eq_true rfl, rfl⟩ (sp_mcopies (by omega) hM.2.1 hM.2.2.2.1 (by omega) (by omega) z1 z2) (fun F1 e1 => ?_)
  have f126 : F1 129 = s := by rw [e1, setr_ne _ _ (by omega)]; exact r1
  have f128 : F1 131 = s := by rw [e1, setr_eq]; exact r1
  have fo : ∀ k, k ≠ 131 → F1 k = F k := fun k hk => by rw [e1, setr_ne _ _ hk]
  refine R_aload_n fX8_play_11 rfl ?_
  refine R_callV fX8_play_12 rfl rfl pX8_plays rfl ⟨Nat.le_of_ble_eq_true rfl, rcv_v rfl (by omega) hM.1⟩ (sp_mplays (by omega) hM (c := c) (n := n) (s := s) (by rw [fo 134 (by omega)]; exact r7) ⟨by rw [fo 128 (by omega)]; exact r6, hnn⟩ f126 hw h2) (fun r F2 q => ?_)
  obtain ⟨q1, q2, q3, q4, q5, q6⟩ := q
  refine R_istore_n fX8_play_15 rfl ?_
  refine R_aload_n fX8_play_16 rfl ?_
  refine R_getP 2 fX8_play_17 hM.1 (by omega) rfl rfl rfl hM.2.2.2.2.2.2.2.2.2.2.1 ?_
  refine R_aload_n fX8_play_20 rfl ?_
  refine R_getP 0 fX8_play_21 hM.1 (by omega) rfl rfl rfl hM.2.2.2.2.2.2.2.2.1 ?_
  refine R_callN fX8_play_24 rfl rfl pX8_copies rfl ⟨Nat.le_of_ble_eq_true rfl, rfl⟩ (sp_mcopies (by omega) hM.2.2.2.1 hM.2.1 (by omega) (by omega) (by rw [q6.2 131 (by omega) (by omega) (by omega), f128]; exact zs) (by rw [q2]; exact zt)) (fun F3 e3 => ?_)
  have g126 : F3 129 = s := by rw [e3, setr_eq, q6.2 131 (by omega) (by omega) (by omega)]; exact f128
  have go : ∀ k, k ≠ 129 → F3 k = F2 k := fun k hk => by rw [e3, setr_ne _ _ hk]
  have g125 : ∀ j, j ≠ 7 → j ≠ 17 → j ≠ 18 → j ≠ 19 → j ≠ 20 → F3 128 j = F 128 j := fun j a b e f g => by rw [go 128 (by omega), q6.1 j a b e f g, fo 128 (by omega)]
  have gk : ∀ k, k ≠ 128 → k ≠ 129 → k ≠ 135 → k ≠ 131 → F3 k = F k := fun k a b e f => by rw [go k b, q6.2 k a b e, fo k f]
  have g7 : F3 128 7 = 0 := by rw [go 128 (by omega)]; exact q5
  have W3 : RWl F3 s m σ hs sn n c := RW_fr hW (g125 5 (by omega) (by omega) (by omega) (by omega) (by omega)) (g125 6 (by omega) (by omega) (by omega) (by omega) (by omega)) (g125 9 (by omega) (by omega) (by omega) (by omega) (by omega)) g7 (gk 130 (by omega) (by omega) (by omega) (by omega)) (gk 133 (by omega) (by omega) (by omega) (by omega)) (gk 134 (by omega) (by omega) (by omega) (by omega)) g126 zs (by rw [go 131 (by omega), q6.2 131 (by omega) (by omega) (by omega), f128]; exact zs) (by rw [gk 132 (by omega) (by omega) (by omega) (by omega)]; exact z3)
  have L3 : ∀ k, k < 128 → F3 k = F k := fun k hk => gk k (by omega) (by omega) (by omega) (by omega)
  refine R_iload_n fX8_play_27 rfl ?_
  refine R_ldc fX8_play_28 ?_
  refine R_icmp_eq fX8_play_30 rfl (fun h30 => ?_) (fun h30 => ?_)
  · refine R_aload_n fX8_play_36 rfl ?_
    have t0 : (PF c n s).2.1 = 0 := by
      by_cases z : (PF c n s).2.1 = 0
      · exact z
      · rw [if_neg z] at q1; omega
    have ha : aPlay c n s = (PF c n s).2.2.2.1 := by unfold aPlay; rw [if_pos t0]
    have ht : tPlay c n s = (PF c n s).2.2.2.2 := by unfold tPlay; rw [if_pos t0]
    refine R_callN fX8_play_37 rfl rfl pX8_changes rfl ⟨Nat.le_of_ble_eq_true rfl, rcv_v rfl (by omega) hM.1⟩ (sp_mchanges (by omega) hM g7 W3.2.1 hm (by rw [g126]; exact zs)) (fun F4 q7 => ?_)
    have W4 := (RW_pub (F' := setr F4 129 s) (t := s) (a := aPlay c n s) W3 hm (fun _ => rfl) zs (by rw [if_neg (by omega)]; exact ⟨F4, q7, rfl⟩)).1
    have h126 : F4 129 = s := by rw [q7.2.2 129 (by omega) (by omega)]; exact g126
    rw [← setr_me h126] at W4
    refine R_aload_n fX8_play_40 rfl ?_
    refine R_callV fX8_play_41 rfl rfl pX8_plays rfl ⟨Nat.le_of_ble_eq_true rfl, rcv_v rfl (by omega) hM.1⟩ (sp_mplays (by omega) hM (c := c) (n := n) (s := s) W4.2.2.2.2.2.2.1 ⟨W4.2.2.2.2.2.1, hnn⟩ h126 hw h2) (fun r5 F5 u => ?_)
    obtain ⟨u1, u2, u3, u4, u5, u6⟩ := u
    rw [if_pos t0] at u1
    refine R_ldc fX8_play_44 ?_
    refine R_icmp_ne fX8_play_46 rfl (fun h46 => ?_) (fun h46 => ?_)
    · refine R_ldc fX8_play_56 ?_
      refine R_ireturn fX8_play_58 rfl ?_
      first
      | (exfalso; omega)
      | (have W5 : RWl F5 (PF c n s).2.2.2.2 (tm (aPlay c n s) m) (tσ (aPlay c n s) m σ s) hs sn n c := RW_fr W4 (u6.1 5 (by omega) (by omega) (by omega) (by omega) (by omega)) (u6.1 6 (by omega) (by omega) (by omega) (by omega) (by omega)) (u6.1 9 (by omega) (by omega) (by omega) (by omega) (by omega)) u5 (u6.2 130 (by omega) (by omega) (by omega)) (u6.2 133 (by omega) (by omega) (by omega)) (u6.2 134 (by omega) (by omega) (by omega)) u2 zt (by rw [u6.2 131 (by omega) (by omega) (by omega)]; exact W4.2.2.2.2.2.2.2.2.2.1) (by rw [u6.2 132 (by omega) (by omega) (by omega)]; exact W4.2.2.2.2.2.2.2.2.2.2.1)
         refine ⟨_, _, rfl, ?_, ?_, fun k hk => ?_⟩
         · rw [ha]; exact u3 t0
         · rw [ht]; exact W5
         · rw [u6.2 k (by omega) (by omega) (by omega), q7.2.2 k (by omega) (by omega)]; exact L3 k hk)
    · refine R_aload_n fX8_play_49 rfl ?_
      refine R_getI 19 fX8_play_50 hM.1 (by omega) rfl rfl rfl ?_
      refine R_goto fX8_play_53 rfl ?_
      refine R_ireturn fX8_play_58 rfl ?_
      first
      | (exfalso; omega)
      | (have W5 : RWl F5 (PF c n s).2.2.2.2 (tm (aPlay c n s) m) (tσ (aPlay c n s) m σ s) hs sn n c := RW_fr W4 (u6.1 5 (by omega) (by omega) (by omega) (by omega) (by omega)) (u6.1 6 (by omega) (by omega) (by omega) (by omega) (by omega)) (u6.1 9 (by omega) (by omega) (by omega) (by omega) (by omega)) u5 (u6.2 130 (by omega) (by omega) (by omega)) (u6.2 133 (by omega) (by omega) (by omega)) (u6.2 134 (by omega) (by omega) (by omega)) u2 zt (by rw [u6.2 131 (by omega) (by omega) (by omega)]; exact W4.2.2.2.2.2.2.2.2.2.1) (by rw [u6.2 132 (by omega) (by omega) (by omega)]; exact W4.2.2.2.2.2.2.2.2.2.2.1)
         refine ⟨_, _, rfl, ?_, ?_, fun k hk => ?_⟩
         · rw [ha]; exact u3 t0
         · rw [ht]; exact W5
         · rw [u6.2 k (by omega) (by omega) (by omega), q7.2.2 k (by omega) (by omega)]; exact L3 k hk)
  · refine R_ldc fX8_play_33 ?_
    refine R_ireturn fX8_play_35 rfl ?_
    have t0 : ¬ (PF c n s).2.1 = 0 := fun z => by rw [if_pos z] at q1; omega
    have ha : aPlay c n s = -1000002 := by unfold aPlay; rw [if_neg t0]
    have ht : tPlay c n s = s := by unfold tPlay; rw [if_neg t0]
    refine ⟨_, _, rfl, ha.symm, ?_, L3⟩
    unfold tm tσ
    rw [if_pos (by omega), if_pos (by omega), ht]
    exact W3
