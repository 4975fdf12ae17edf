theorem sp_rclearText {d : Nat} {kd : KL} {F : FM} {P : PM} {s : Int → Int} {m : Int} {σ : Int → Int → Int} {hs : Int} {sn : Int → Int} {n : Int} {c : Int → Int}  (hd : 1 ≤ d) (hM : shM kd P) (hW : RWl F s m σ hs sn n c) (hA : AW s m σ hs sn n)  : Sp d 129 [.inr (some 128)] kd F P (QV kd P (fun r F' => r = n ∧ RWl F' s m σ hs sn 0 c ∧ ∀ k, k < 128 → F' k = F k)) := by
  refine Sp_of (me := mX8_clearText) (by omega) pX8_clearText ⟨rfl, Nat.le_of_ble_eq_true rfl⟩ ?_
  obtain ⟨r1, r2, r3, r4, r5, r6, r7, r8, z1, z2, z3, z4⟩ := id hW
  have hm := hA.2.1
  have hnn := hA.2.2.2.2.2
  refine R_aload_n fX8_clearText_0 rfl ?_
  refine R_getI 9 fX8_clearText_1 hM.1 (by omega) rfl rfl rfl ?_
  refine R_istore_n fX8_clearText_4 rfl ?_
  refine R_aload_n fX8_clearText_5 rfl ?_
  refine R_iconst fX8_clearText_6 ?_
  refine R_putI 9 fX8_clearText_7 hM.1 (by omega) rfl rfl rfl ?_
  refine R_iload_n fX8_clearText_10 rfl ?_
  refine R_ireturn fX8_clearText_11 rfl ?_
  refine ⟨_, _, rfl, r6, ⟨?_, ?_, fun j j0 j1 => ?_, ?_, fun z => ?_, ?_, ?_, ?_, ?_, ?_, ?_, ?_⟩, fun k hk => stt_kr _ _ _ (by omega)⟩
  · rw [stt_kr _ _ _ (by omega)]; exact r1
  · rw [stt_j _ _ (by omega)]; exact r2
  · rw [← r3 j j0 j1]; funext a; unfold PS; rw [stt_kr _ _ _ (by omega)]
  · rw [stt_j _ _ (by omega)]; exact r4
  · rw [stt_kr _ _ _ (by omega)]; exact r5 z
  · rw [stt_eq]
  · rw [stt_kr _ _ _ (by omega)]; exact r7
  · rw [stt_j _ _ (by omega)]; exact r8
  · rw [stt_kr _ _ _ (by omega)]; exact z1
  · rw [stt_kr _ _ _ (by omega)]; exact z2
  · rw [stt_kr _ _ _ (by omega)]; exact z3
  · rw [stt_kr _ _ _ (by omega)]; exact z4
theorem sp_rkeep {d : Nat} {kd : KL} {F : FM} {P : PM} {s : Int → Int} {m : Int} {σ : Int → Int → Int} {hs : Int} {sn : Int → Int} {n : Int} {c : Int → Int}  (hd : 2 ≤ d) (hM : shM kd P) (hW : RWl F s m σ hs sn n c) (hA : AW s m σ hs sn n)  : Sp d 125 [.inr (some 128)] kd F P (QV kd P (fun r F' => r = s 2 ∧ RWl F' s m σ 1 s n c ∧ ∀ k, k < 128 → F' k = F k)) := by
  refine Sp_of (me := mX8_keep) (by omega) pX8_keep ⟨rfl, Nat.le_of_ble_eq_true rfl⟩ ?_
  obtain ⟨r1, r2, r3, r4, r5, r6, r7, r8, z1, z2, z3, z4⟩ := id hW
  have hm := hA.2.1
  have hnn := hA.2.2.2.2.2
  refine R_aload_n fX8_keep_0 rfl ?_
  refine R_getP 0 fX8_keep_1 hM.1 (by omega) rfl rfl rfl hM.2.2.2.2.2.2.2.2.1 ?_
  refine R_aload_n fX8_keep_4 rfl ?_
  refine R_getP 4 fX8_keep_5 hM.1 (by omega) rfl rfl rfl hM.2.2.2.2.2.2.2.2.2.2.2.2.1 ?_
  refine R_callN fX8_keep_8 rfl rfl pX8_copies rfl ⟨Nat.le_of_ble_eq_true rfl, rfl⟩ (sp_mcopies (by omega) hM.2.1 hM.2.2.2.2.2.1 (by omega) (by omega) z1 z4) (fun F1 q => ?_)
  subst q
  refine R_aload_n fX8_keep_11 rfl ?_
  refine R_iconst fX8_keep_12 ?_
  refine R_putZ 5 fX8_keep_13 hM.1 (by omega) rfl rfl rfl (by simp) ?_
  refine R_aload_n fX8_keep_16 rfl ?_
  refine R_getP 0 fX8_keep_17 hM.1 (by omega) rfl rfl rfl hM.2.2.2.2.2.2.2.2.1 ?_
  refine R_iconst fX8_keep_20 ?_
  refine R_iaload fX8_keep_21 hM.2.1 (by omega) ?_
  refine R_ireturn fX8_keep_22 rfl ?_
  refine ⟨_, _, rfl, ?_, ⟨?_, ?_, fun j j0 j1 => ?_, ?_, fun z => ?_, ?_, ?_, ?_, ?_, ?_, ?_, ?_⟩, fun k hk => ?_⟩
  · rw [stt_kr _ _ _ (by omega), setr_ne _ _ (by omega), r1]
  · rw [stt_kr _ _ _ (by omega), setr_ne _ _ (by omega)]; exact r1
  · rw [stt_j _ _ (by omega), setr_ne _ _ (by omega)]; exact r2
  · rw [← r3 j j0 j1]; funext a; unfold PS; rw [stt_kr _ _ _ (by omega), setr_ne _ _ (by omega)]
  · rw [stt_eq]
  · rw [stt_kr _ _ _ (by omega), setr_eq]; exact r1
  · rw [stt_j _ _ (by omega), setr_ne _ _ (by omega)]; exact r6
  · rw [stt_kr _ _ _ (by omega), setr_ne _ _ (by omega)]; exact r7
  · rw [stt_j _ _ (by omega), setr_ne _ _ (by omega)]; exact r8
  · rw [stt_kr _ _ _ (by omega), setr_ne _ _ (by omega)]; exact z1
  · rw [stt_kr _ _ _ (by omega), setr_ne _ _ (by omega)]; exact z2
  · rw [stt_kr _ _ _ (by omega), setr_ne _ _ (by omega)]; exact z3
  · rw [stt_kr _ _ _ (by omega), setr_eq]; exact z1
  · rw [stt_kr _ _ _ (by omega), setr_ne _ _ (by omega)]
