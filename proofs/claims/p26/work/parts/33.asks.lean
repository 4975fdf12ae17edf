/-! ## the class's calls: questions -/
def aCount (s : Int → Int) (m hs n w : Int) : Int := if w = 10 then m else if w = 11 then n else if w = 12 then hs else rNumber s w
theorem FR_rfl {F : FM} {P : PM} : FR F F P P := fun _ _ => ⟨rfl, rfl⟩
theorem sp_xplayerOf {d : Nat} {kd : KL} {F : FM} {P : PM} {s : Int → Int} {m : Int} {σ : Int → Int → Int} {hs : Int} {sn : Int → Int} {n : Int} {c : Int → Int} {p w : Int} (hd : 3 ≤ d) (hW : CW kd F P s m σ hs sn n c) (hA : AW s m σ hs sn n)  : Sp d 66 [.inr (some 3), .inl p, .inl w] kd F P (QI kd (fun r F' P' => r = rPlayerOf s p w ∧ CW kd F' P' s (m) (σ) (hs) (sn) (n) (c) ∧ FR F F' P P')) := by
  obtain ⟨b, e, h, hX, hD⟩ := hW
  refine Sp_of (me := mX7_playerOf) (by omega) pX7_playerOf ⟨rfl, Nat.le_of_ble_eq_true rfl⟩ ?_
  have hSb := shX_b hX
  have hSe := shX_e hX
  have hSn := shX_n hX
  have hw := hA.1
  have hR := hD.1
  have hm := hA.2.1
  have hsh := hA.2.2.2.1
  have hnn := hA.2.2.2.2.2
  obtain ⟨w0, w1, w2, w3, w4, w5, w6, w7, w8, w9, w10, w11, w12, w13⟩ := id hw
  refine R_aload_n fX7_playerOf_0 rfl ?_
  refine R_getP 5 fX7_playerOf_1 hX.1 (by omega) rfl rfl rfl hX.2.1.2.2.2.2.2.1 ?_
  refine R_iload_n fX7_playerOf_4 rfl ?_
  refine R_iload_n fX7_playerOf_5 rfl ?_
  refine R_callE fX7_playerOf_6 rfl rfl pX5_numberOfPlayer rfl ⟨Nat.le_of_ble_eq_true rfl, rcv_v rfl (shS_3 hSb 0) (shS_k0 hSb)⟩ (sp_numberOfPlayer (by omega) hSb hR hw) ?_
  refine R_ireturn fX7_playerOf_9 rfl ?_
  exact ⟨_, _, _, rfl, rfl, ⟨b, e, h, hX, hD⟩, FR_rfl⟩
theorem sp_xlotOf {d : Nat} {kd : KL} {F : FM} {P : PM} {s : Int → Int} {m : Int} {σ : Int → Int → Int} {hs : Int} {sn : Int → Int} {n : Int} {c : Int → Int} {p w : Int} (hd : 2 ≤ d) (hW : CW kd F P s m σ hs sn n c) (hA : AW s m σ hs sn n)  : Sp d 67 [.inr (some 3), .inl p, .inl w] kd F P (QI kd (fun r F' P' => r = rLotOf s p w ∧ CW kd F' P' s (m) (σ) (hs) (sn) (n) (c) ∧ FR F F' P P')) := by
  obtain ⟨b, e, h, hX, hD⟩ := hW
  refine Sp_of (me := mX7_lotOf) (by omega) pX7_lotOf ⟨rfl, Nat.le_of_ble_eq_true rfl⟩ ?_
  have hSb := shX_b hX
  have hSe := shX_e hX
  have hSn := shX_n hX
  have hw := hA.1
  have hR := hD.1
  have hm := hA.2.1
  have hsh := hA.2.2.2.1
  have hnn := hA.2.2.2.2.2
  obtain ⟨w0, w1, w2, w3, w4, w5, w6, w7, w8, w9, w10, w11, w12, w13⟩ := id hw
  refine R_aload_n fX7_lotOf_0 rfl ?_
  refine R_getP 5 fX7_lotOf_1 hX.1 (by omega) rfl rfl rfl hX.2.1.2.2.2.2.2.1 ?_
  refine R_iload_n fX7_lotOf_4 rfl ?_
  refine R_iload_n fX7_lotOf_5 rfl ?_
  refine R_callE fX7_lotOf_6 rfl rfl pX5_valueAt rfl ⟨Nat.le_of_ble_eq_true rfl, rcv_v rfl (shS_3 hSb 0) (shS_k0 hSb)⟩ (sp_valueAt (by omega) hSb hR hw) ?_
  refine R_ireturn fX7_lotOf_9 rfl ?_
  exact ⟨_, _, _, rfl, rfl, ⟨b, e, h, hX, hD⟩, FR_rfl⟩
theorem sp_xroundOf {d : Nat} {kd : KL} {F : FM} {P : PM} {s : Int → Int} {m : Int} {σ : Int → Int → Int} {hs : Int} {sn : Int → Int} {n : Int} {c : Int → Int} {p w : Int} (hd : 3 ≤ d) (hW : CW kd F P s m σ hs sn n c) (hA : AW s m σ hs sn n)  : Sp d 68 [.inr (some 3), .inl p, .inl w] kd F P (QI kd (fun r F' P' => r = rRoundOf s p w ∧ CW kd F' P' s (m) (σ) (hs) (sn) (n) (c) ∧ FR F F' P P')) := by
  obtain ⟨b, e, h, hX, hD⟩ := hW
  refine Sp_of (me := mX7_roundOf) (by omega) pX7_roundOf ⟨rfl, Nat.le_of_ble_eq_true rfl⟩ ?_
  have hSb := shX_b hX
  have hSe := shX_e hX
  have hSn := shX_n hX
  have hw := hA.1
  have hR := hD.1
  have hm := hA.2.1
  have hsh := hA.2.2.2.1
  have hnn := hA.2.2.2.2.2
  obtain ⟨w0, w1, w2, w3, w4, w5, w6, w7, w8, w9, w10, w11, w12, w13⟩ := id hw
  refine R_aload_n fX7_roundOf_0 rfl ?_
  refine R_getP 5 fX7_roundOf_1 hX.1 (by omega) rfl rfl rfl hX.2.1.2.2.2.2.2.1 ?_
  refine R_getP 15 fX7_roundOf_4 (shS_k0 hSb) (shS_3 hSb 0) rfl rfl rfl (shS_p15 hSb) ?_
  refine R_iload_n fX7_roundOf_7 rfl ?_
  refine R_iload_n fX7_roundOf_8 rfl ?_
  refine R_aload_n fX7_roundOf_9 rfl ?_
  refine R_getP 5 fX7_roundOf_10 hX.1 (by omega) rfl rfl rfl hX.2.1.2.2.2.2.2.1 ?_
  refine R_getI 0 fX7_roundOf_13 (shS_k0 hSb) (shS_3 hSb 0) rfl rfl rfl ?_
  rw [hR.1]
  refine R_callE fX7_roundOf_16 rfl rfl pX4_numberOfRound rfl ⟨Nat.le_of_ble_eq_true rfl, rcv_v rfl (shS_3 hSb 9) (shS_k9 hSb)⟩ (sp_numberOfRound (by omega) hSb hR hw) ?_
  refine R_ireturn fX7_roundOf_19 rfl ?_
  exact ⟨_, _, _, rfl, rfl, ⟨b, e, h, hX, hD⟩, FR_rfl⟩
theorem sp_xrecord {d : Nat} {kd : KL} {F : FM} {P : PM} {s : Int → Int} {m : Int} {σ : Int → Int → Int} {hs : Int} {sn : Int → Int} {n : Int} {c : Int → Int} {p w : Int} (hd : 2 ≤ d) (hW : CW kd F P s m σ hs sn n c) (hA : AW s m σ hs sn n)  : Sp d 69 [.inr (some 3), .inl p, .inl w] kd F P (QI kd (fun r F' P' => r = rRecord s p w ∧ CW kd F' P' s (m) (σ) (hs) (sn) (n) (c) ∧ FR F F' P P')) := by
  obtain ⟨b, e, h, hX, hD⟩ := hW
  refine Sp_of (me := mX7_record) (by omega) pX7_record ⟨rfl, Nat.le_of_ble_eq_true rfl⟩ ?_
  have hSb := shX_b hX
  have hSe := shX_e hX
  have hSn := shX_n hX
  have hw := hA.1
  have hR := hD.1
  have hm := hA.2.1
  have hsh := hA.2.2.2.1
  have hnn := hA.2.2.2.2.2
  obtain ⟨w0, w1, w2, w3, w4, w5, w6, w7, w8, w9, w10, w11, w12, w13⟩ := id hw
  refine R_aload_n fX7_record_0 rfl ?_
  refine R_getP 5 fX7_record_1 hX.1 (by omega) rfl rfl rfl hX.2.1.2.2.2.2.2.1 ?_
  refine R_getP 16 fX7_record_4 (shS_k0 hSb) (shS_3 hSb 0) rfl rfl rfl (shS_p16 hSb) ?_
  refine R_iload_n fX7_record_7 rfl ?_
  refine R_iload_n fX7_record_8 rfl ?_
  refine R_callE fX7_record_9 rfl rfl pX3_numberOfPair rfl ⟨Nat.le_of_ble_eq_true rfl, rcv_v rfl (shS_3 hSb 11) (shS_k11 hSb)⟩ (sp_numberOfPair (by omega) hSb hR hw) ?_
  refine R_ireturn fX7_record_12 rfl ?_
  exact ⟨_, _, _, rfl, rfl, ⟨b, e, h, hX, hD⟩, FR_rfl⟩
theorem sp_xwinner {d : Nat} {kd : KL} {F : FM} {P : PM} {s : Int → Int} {m : Int} {σ : Int → Int → Int} {hs : Int} {sn : Int → Int} {n : Int} {c : Int → Int}  (hd : 2 ≤ d) (hW : CW kd F P s m σ hs sn n c) (hA : AW s m σ hs sn n)  : Sp d 71 [.inr (some 3)] kd F P (QI kd (fun r F' P' => r = ldS (fun q => s (126 + 6 * q + 1)) (fun q => s (126 + 6 * q)) (s 0).toNat ∧ CW kd F' P' s (m) (σ) (hs) (sn) (n) (c) ∧ FR F F' P P')) := by
  obtain ⟨b, e, h, hX, hD⟩ := hW
  refine Sp_of (me := mX7_winner) (by omega) pX7_winner ⟨rfl, Nat.le_of_ble_eq_true rfl⟩ ?_
  have hSb := shX_b hX
  have hSe := shX_e hX
  have hSn := shX_n hX
  have hw := hA.1
  have hR := hD.1
  have hm := hA.2.1
  have hsh := hA.2.2.2.1
  have hnn := hA.2.2.2.2.2
  obtain ⟨w0, w1, w2, w3, w4, w5, w6, w7, w8, w9, w10, w11, w12, w13⟩ := id hw
  refine R_aload_n fX7_winner_0 rfl ?_
  refine R_getP 5 fX7_winner_1 hX.1 (by omega) rfl rfl rfl hX.2.1.2.2.2.2.2.1 ?_
  refine R_callE fX7_winner_4 rfl rfl pX5_leader rfl ⟨Nat.le_of_ble_eq_true rfl, rcv_v rfl (shS_3 hSb 0) (shS_k0 hSb)⟩ (sp_leader (by omega) hSb hR hw) ?_
  refine R_ireturn fX7_winner_7 rfl ?_
  exact ⟨_, _, _, rfl, rfl, ⟨b, e, h, hX, hD⟩, FR_rfl⟩
theorem sp_xcount {d : Nat} {kd : KL} {F : FM} {P : PM} {s : Int → Int} {m : Int} {σ : Int → Int → Int} {hs : Int} {sn : Int → Int} {n : Int} {c : Int → Int} {w : Int} (hd : 3 ≤ d) (hW : CW kd F P s m σ hs sn n c) (hA : AW s m σ hs sn n)  : Sp d 70 [.inr (some 3), .inl w] kd F P (QI kd (fun r F' P' => r = aCount s m hs n w ∧ CW kd F' P' s (m) (σ) (hs) (sn) (n) (c) ∧ FR F F' P P')) := by
  obtain ⟨b, e, h, hX, hD⟩ := hW
  refine Sp_of (me := mX7_count) (by omega) pX7_count ⟨rfl, Nat.le_of_ble_eq_true rfl⟩ ?_
  have hSb := shX_b hX
  have hSe := shX_e hX
  have hSn := shX_n hX
  have hw := hA.1
  have hR := hD.1
  have hm := hA.2.1
  have hsh := hA.2.2.2.1
  have hnn := hA.2.2.2.2.2
  obtain ⟨w0, w1, w2, w3, w4, w5, w6, w7, w8, w9, w10, w11, w12, w13⟩ := id hw
  refine R_iload_n fX7_count_0 rfl ?_
  by_cases cs1_0 : w = 10
  · subst cs1_0
    refine R_tab fX7_count_1 rfl ?_
    refine R_aload_n fX7_count_28 rfl ?_
    refine R_getP 0 fX7_count_29 hX.1 (by omega) rfl rfl rfl hX.2.1.1 ?_
    refine R_getI 1 fX7_count_32 hX.2.2.1.2.2.2.1 (by omega) rfl rfl rfl ?_
    refine R_ireturn fX7_count_35 rfl ?_
    exact ⟨_, _, _, rfl, (by unfold aCount; rw [if_pos rfl]; exact hD.2.1), ⟨b, e, h, hX, hD⟩, FR_rfl⟩
  by_cases cs1_1 : w = 11
  · subst cs1_1
    refine R_tab fX7_count_1 rfl ?_
    refine R_aload_n fX7_count_36 rfl ?_
    refine R_getP 2 fX7_count_37 hX.1 (by omega) rfl rfl rfl hX.2.1.2.2.1 ?_
    refine R_getI 1 fX7_count_40 hX.2.2.2.2.2.1.2.1 (by omega) rfl rfl rfl ?_
    refine R_ireturn fX7_count_43 rfl ?_
    exact ⟨_, _, _, rfl, (by unfold aCount; rw [if_neg (by omega), if_pos rfl]; exact hD.2.2.2.2.2.1), ⟨b, e, h, hX, hD⟩, FR_rfl⟩
  by_cases cs1_2 : w = 12
  · subst cs1_2
    refine R_tab fX7_count_1 rfl ?_
    refine R_aload_n fX7_count_44 rfl ?_
    refine R_getI 7 fX7_count_45 hX.1 (by omega) rfl rfl rfl ?_
    refine R_if_eq fX7_count_48 rfl (fun h48 => ?_) (fun h48 => ?_)
    · refine R_iconst fX7_count_55 ?_
      refine R_ireturn fX7_count_56 rfl ?_
      exact ⟨_, _, _, rfl, (by have h7 := hD.2.2.2.1; unfold aCount; rw [if_neg (by omega), if_neg (by omega), if_pos rfl]; omega), ⟨b, e, h, hX, hD⟩, FR_rfl⟩
    · refine R_iconst fX7_count_51 ?_
      refine R_goto fX7_count_52 rfl ?_
      refine R_ireturn fX7_count_56 rfl ?_
      exact ⟨_, _, _, rfl, (by have h7 := hD.2.2.2.1; unfold aCount; rw [if_neg (by omega), if_neg (by omega), if_pos rfl]; omega), ⟨b, e, h, hX, hD⟩, FR_rfl⟩
  refine R_tabD fX7_count_1 (by omega) rfl ?_
  refine R_aload_n fX7_count_57 rfl ?_
  refine R_getP 5 fX7_count_58 hX.1 (by omega) rfl rfl rfl hX.2.1.2.2.2.2.2.1 ?_
  refine R_iload_n fX7_count_61 rfl ?_
  refine R_callE fX7_count_62 rfl rfl pX5_number rfl ⟨Nat.le_of_ble_eq_true rfl, rcv_v rfl (shS_3 hSb 0) (shS_k0 hSb)⟩ (sp_number (by omega) hSb hR hw) ?_
  refine R_ireturn fX7_count_65 rfl ?_
  exact ⟨_, _, _, rfl, (by unfold aCount; rw [if_neg (by omega), if_neg (by omega), if_neg (by omega)]), ⟨b, e, h, hX, hD⟩, FR_rfl⟩
