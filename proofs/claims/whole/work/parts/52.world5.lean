theorem sp_rrestore {d : Nat} {kd : KL} {F : FM} {P : PM} {s : Int → Int} {m : Int} {σ : Int → Int → Int} {hs : Int} {sn : Int → Int} {n : Int} {c : Int → Int}  (hd : 2 ≤ d) (hM : shM kd P) (hW : RWl F s m σ hs sn n c) (hA : AW s m σ hs sn n)  : Sp d 126 [.inr (some 128)] kd F P (QV kd P (fun r F' => r = aRest hs sn ∧ RWl F' (tRest hs sn s) (tm (aRest hs sn) m) (tσ (aRest hs sn) m σ s) hs sn n c ∧ ∀ k, k < 128 → F' k = F k)) := by
  refine Sp_of (me := mX8_restore) (by omega) pX8_restore ⟨rfl, Nat.le_of_ble_eq_true rfl⟩ ?_
  obtain ⟨r1, r2, r3, r4, r5, r6, r7, r8, z1, z2, z3, z4⟩ := id hW
  have hm := hA.2.1
  have hnn := hA.2.2.2.2.2
  have hh := hA.2.2.2.1
  refine R_aload_n fX8_restore_0 rfl ?_
  refine R_getI 5 fX8_restore_1 hM.1 (by omega) rfl rfl rfl ?_
  refine R_if_ne fX8_restore_4 rfl (fun h4 => ?_) (fun h4 => ?_)
  · have h1 : hs = 1 := by omega
    have hsn := r5 h1
    have hwn := (hA.2.2.2.2.1 h1).2.2.2.2.2.2.2.2.2.2.2.1
    refine R_aload_n fX8_restore_10 rfl ?_
    refine R_callN fX8_restore_11 rfl rfl pX8_changes rfl ⟨Nat.le_of_ble_eq_true rfl, rcv_v rfl (by omega) hM.1⟩ (sp_mchanges (by omega) hM r8 r2 hm z1) (fun F1 q => ?_)
    have q1 : Pch F m F1 := q
    have e126 : F1 129 = F 129 := q.2.2 129 (by omega) (by omega)
    have e130 : F1 133 = F 133 := q.2.2 133 (by omega) (by omega)
    refine R_aload_n fX8_restore_14 rfl ?_
    refine R_getP 4 fX8_restore_15 hM.1 (by omega) rfl rfl rfl hM.2.2.2.2.2.2.2.2.2.2.2.2.1 ?_
    refine R_aload_n fX8_restore_18 rfl ?_
    refine R_getP 0 fX8_restore_19 hM.1 (by omega) rfl rfl rfl hM.2.2.2.2.2.2.2.2.1 ?_
    refine R_callN fX8_restore_22 rfl rfl pX8_copies rfl ⟨Nat.le_of_ble_eq_true rfl, rfl⟩ (sp_mcopies (by omega) hM.2.2.2.2.2.1 hM.2.1 (by omega) (by omega) (by rw [e130]; exact z4) (by rw [e126]; exact z1)) (fun F2 q2 => ?_)
    subst q2
    rw [e130, hsn]
    refine R_aload_n fX8_restore_25 rfl ?_
    refine R_getP 0 fX8_restore_26 hM.1 (by omega) rfl rfl rfl hM.2.2.2.2.2.2.2.2.1 ?_
    refine R_iconst fX8_restore_29 ?_
    refine R_iaload fX8_restore_30 hM.2.1 (by omega) ?_
    refine R_ireturn fX8_restore_31 rfl ?_
    have ha : aRest hs sn = sn 2 := by unfold aRest; rw [if_neg (by omega)]
    have ht : tRest hs sn s = sn := by unfold tRest; rw [if_neg (by omega)]
    have h := RW_pub (a := sn 2) (t := sn) (F' := setr F1 129 sn) hW hm (fun z => by omega) (by rw [← hsn]; exact z4) (by rw [if_neg (by omega)]; exact ⟨F1, q1, rfl⟩)
    rw [ha, ht]
    exact ⟨_, _, rfl, by rw [setr_eq], h.1, h.2⟩
  · refine R_ldc fX8_restore_7 ?_
    refine R_ireturn fX8_restore_9 rfl ?_
    have h0 : hs = 0 := by omega
    unfold aRest tRest tm tσ
    rw [if_pos h0, if_pos h0, if_pos (by omega), if_pos (by omega)]
    exact ⟨_, _, rfl, rfl, hW, fun _ _ => rfl⟩
