/-! ## the class's calls: questions -/
noncomputable def aSure (s : Int → Int) (p : Int) : Int := if ¬ (0 ≤ p ∧ p < s 0) then -1000001 else if s 4 = 0 then -1000002 else if mxo (fun q => s (126 + 6 * q)) p (s 0).toNat + 1 ≤ s (126 + 6 * p) then mxo (fun q => s (126 + 6 * q)) p (s 0).toNat + 1 else -1000004
noncomputable def aReply (s : Int → Int) (p : Int) : Int := if ¬ (0 ≤ p ∧ p < s 0) then -1000001 else if s 4 = 0 ∨ cI (∀ q, 0 ≤ q → q < s 0 → q ≠ p → s (126 + 6 * q + 2) ≠ -1) = 0 then -1000002 else ldS (rpS s p) (rcS s p) (s (126 + 6 * p) + 1).toNat
def aHolds (s : Int → Int) (p e : Int) : Int := if ¬ (0 ≤ p ∧ p < s 0) ∨ e < 0 ∨ 2 < e then -1000001 else if s 0 ≠ 2 then -1000002 else if e = 0 ∨ s 4 = 0 then s (126 + 6 * p + 1) - s (126 + 6 * (1 - p) + 1) else s (126 + 6 * p + 1) - s (126 + 6 * (1 - p) + 1) + mxP (hT s p e) (s (126 + 6 * p) + 1).toNat
def aHolding (s : Int → Int) (p e : Int) : Int := if ¬ (0 ≤ p ∧ p < s 0) ∨ e < 1 ∨ 2 < e then -1000001 else if s 0 ≠ 2 ∨ s 4 = 0 then -1000002 else abP (hT s p e) (s (126 + 6 * p) + 1).toNat
noncomputable def aChance (s : Int → Int) (p : Int) : Int := if ¬ (0 ≤ p ∧ p < s 0) then -1000001 else cI (∀ q, 0 ≤ q → q < s 0 → q ≠ p → s (126 + 6 * q + 1) < s (126 + 6 * p + 1) + upS s)
def aCount (s : Int → Int) (m hs n w : Int) : Int := if w = 10 then m else if w = 11 then n else if w = 12 then hs else rNumber s w
theorem FR_rfl {F : FM} {P : PM} : FR F F P P := fun _ _ => ⟨rfl, rfl⟩
theorem sp_xplayerOf {d : Nat} {kd : KL} {F : FM} {P : PM} {s : Int → Int} {m : Int} {σ : Int → Int → Int} {hs : Int} {sn : Int → Int} {n : Int} {c : Int → Int} {p w : Int} (hd : 3 ≤ d) (hW : CW kd F P s m σ hs sn n c) (hA : AW s m σ hs sn n)  : Sp d 66 [.inr (some 3), .inl p, .inl w] kd F P (QI kd (fun r F' P' => r = rPlayerOf s p w ∧ CW kd F' P' s (m) (σ) (hs) (sn) (n) (c) ∧ FR F F' P P')) := by
  obtain ⟨b, e, h, hX, hD⟩ := hW
  refine Sp_of (me := mX7_playerOf) (by omega) pX7_playerOf ⟨rfl, Nat.le_of_ble_eq_true rfl⟩ ?_
  have hSb := shX_b hX
  have hSe := shX_e hX
  have hSn := shX_n hX
  have hw := hA.1
  have hR := hD.1
  have hm := hA.2.1
  have hsh := hA.2.2.2.1
  have hnn := hA.2.2.2.2.2
  obtain ⟨w0, w1, w2, w3, w4, w5, w6, w7, w8, w9, w10, w11, w12, w13⟩ := id hw
  refine R_aload_n fX7_playerOf_0 rfl ?_
  refine R_getP 5 fX7_playerOf_1 hX.1 (by omega) rfl rfl rfl hX.2.1.2.2.2.2.2.1 ?_
  refine R_iload_n fX7_playerOf_4 rfl ?_
  refine R_iload_n fX7_playerOf_5 rfl ?_
  refine R_callE fX7_playerOf_6 rfl rfl pX5_numberOfPlayer rfl ⟨Nat.le_of_ble_eq_true rfl, rcv_v rfl (shS_3 hSb 0) (shS_k0 hSb)⟩ (sp_numberOfPlayer (by omega) hSb hR hw) ?_
  refine R_ireturn fX7_playerOf_9 rfl ?_
  exact ⟨_, _, _, rfl, rfl, ⟨b, e, h, hX, hD⟩, FR_rfl⟩
theorem sp_xlotOf {d : Nat} {kd : KL} {F : FM} {P : PM} {s : Int → Int} {m : Int} {σ : Int → Int → Int} {hs : Int} {sn : Int → Int} {n : Int} {c : Int → Int} {p w : Int} (hd : 2 ≤ d) (hW : CW kd F P s m σ hs sn n c) (hA : AW s m σ hs sn n)  : Sp d 67 [.inr (some 3), .inl p, .inl w] kd F P (QI kd (fun r F' P' => r = rLotOf s p w ∧ CW kd F' P' s (m) (σ) (hs) (sn) (n) (c) ∧ FR F F' P P')) := by
  obtain ⟨b, e, h, hX, hD⟩ := hW
  refine Sp_of (me := mX7_lotOf) (by omega) pX7_lotOf ⟨rfl, Nat.le_of_ble_eq_true rfl⟩ ?_
  have hSb := shX_b hX
  have hSe := shX_e hX
  have hSn := shX_n hX
  have hw := hA.1
  have hR := hD.1
  have hm := hA.2.1
  have hsh := hA.2.2.2.1
  have hnn := hA.2.2.2.2.2
  obtain ⟨w0, w1, w2, w3, w4, w5, w6, w7, w8, w9, w10, w11, w12, w13⟩ := id hw
  refine R_aload_n fX7_lotOf_0 rfl ?_
  refine R_getP 5 fX7_lotOf_1 hX.1 (by omega) rfl rfl rfl hX.2.1.2.2.2.2.2.1 ?_
  refine R_iload_n fX7_lotOf_4 rfl ?_
  refine R_iload_n fX7_lotOf_5 rfl ?_
  refine R_callE fX7_lotOf_6 rfl rfl pX5_valueAt rfl ⟨Nat.le_of_ble_eq_true rfl, rcv_v rfl (shS_3 hSb 0) (shS_k0 hSb)⟩ (sp_valueAt (by omega) hSb hR hw) ?_
  refine R_ireturn fX7_lotOf_9 rfl ?_
  exact ⟨_, _, _, rfl, rfl, ⟨b, e, h, hX, hD⟩, FR_rfl⟩
theorem sp_xroundOf {d : Nat} {kd : KL} {F : FM} {P : PM} {s : Int → Int} {m : Int} {σ : Int → Int → Int} {hs : Int} {sn : Int → Int} {n : Int} {c : Int → Int} {p w : Int} (hd : 3 ≤ d) (hW : CW kd F P s m σ hs sn n c) (hA : AW s m σ hs sn n)  : Sp d 68 [.inr (some 3), .inl p, .inl w] kd F P (QI kd (fun r F' P' => r = rRoundOf s p w ∧ CW kd F' P' s (m) (σ) (hs) (sn) (n) (c) ∧ FR F F' P P')) := by
  obtain ⟨b, e, h, hX, hD⟩ := hW
  refine Sp_of (me := mX7_roundOf) (by omega) pX7_roundOf ⟨rfl, Nat.le_of_ble_eq_true rfl⟩ ?_
  have hSb := shX_b hX
  have hSe := shX_e hX
  have hSn := shX_n hX
  have hw := hA.1
  have hR := hD.1
  have hm := hA.2.1
  have hsh := hA.2.2.2.1
  have hnn := hA.2.2.2.2.2
  obtain ⟨w0, w1, w2, w3, w4, w5, w6, w7, w8, w9, w10, w11, w12, w13⟩ := id hw
  refine R_aload_n fX7_roundOf_0 rfl ?_
  refine R_getP 5 fX7_roundOf_1 hX.1 (by omega) rfl rfl rfl hX.2.1.2.2.2.2.2.1 ?_
  refine R_getP 15 fX7_roundOf_4 (shS_k0 hSb) (shS_3 hSb 0) rfl rfl rfl (shS_p15 hSb) ?_
  refine R_iload_n fX7_roundOf_7 rfl ?_
  refine R_iload_n fX7_roundOf_8 rfl ?_
  refine R_aload_n fX7_roundOf_9 rfl ?_
  refine R_getP 5 fX7_roundOf_10 hX.1 (by omega) rfl rfl rfl hX.2.1.2.2.2.2.2.1 ?_
  refine R_getI 0 fX7_roundOf_13 (shS_k0 hSb) (shS_3 hSb 0) rfl rfl rfl ?_
  rw [hR.1]
  refine R_callE fX7_roundOf_16 rfl rfl pX4_numberOfRound rfl ⟨Nat.le_of_ble_eq_true rfl, rcv_v rfl (shS_3 hSb 9) (shS_k9 hSb)⟩ (sp_numberOfRound (by omega) hSb hR hw) ?_
  refine R_ireturn fX7_roundOf_19 rfl ?_
  exact ⟨_, _, _, rfl, rfl, ⟨b, e, h, hX, hD⟩, FR_rfl⟩
theorem sp_xrecord {d : Nat} {kd : KL} {F : FM} {P : PM} {s : Int → Int} {m : Int} {σ : Int → Int → Int} {hs : Int} {sn : Int → Int} {n : Int} {c : Int → Int} {p w : Int} (hd : 2 ≤ d) (hW : CW kd F P s m σ hs sn n c) (hA : AW s m σ hs sn n)  : Sp d 69 [.inr (some 3), .inl p, .inl w] kd F P (QI kd (fun r F' P' => r = rRecord s p w ∧ CW kd F' P' s (m) (σ) (hs) (sn) (n) (c) ∧ FR F F' P P')) := by
  obtain ⟨b, e, h, hX, hD⟩ := hW
  refine Sp_of (me := mX7_record) (by omega) pX7_record ⟨rfl, Nat.le_of_ble_eq_true rfl⟩ ?_
  have hSb := shX_b hX
  have hSe := shX_e hX
  have hSn := shX_n hX
  have hw := hA.1
  have hR := hD.1
  have hm := hA.2.1
  have hsh := hA.2.2.2.1
  have hnn := hA.2.2.2.2.2
  obtain ⟨w0, w1, w2, w3, w4, w5, w6, w7, w8, w9, w10, w11, w12, w13⟩ := id hw
  refine R_aload_n fX7_record_0 rfl ?_
  refine R_getP 5 fX7_record_1 hX.1 (by omega) rfl rfl rfl hX.2.1.2.2.2.2.2.1 ?_
  refine R_getP 16 fX7_record_4 (shS_k0 hSb) (shS_3 hSb 0) rfl rfl rfl (shS_p16 hSb) ?_
  refine R_iload_n fX7_record_7 rfl ?_
  refine R_iload_n fX7_record_8 rfl ?_
  refine R_callE fX7_record_9 rfl rfl pX3_numberOfPair rfl ⟨Nat.le_of_ble_eq_true rfl, rcv_v rfl (shS_3 hSb 11) (shS_k11 hSb)⟩ (sp_numberOfPair (by omega) hSb hR hw) ?_
  refine R_ireturn fX7_record_12 rfl ?_
  exact ⟨_, _, _, rfl, rfl, ⟨b, e, h, hX, hD⟩, FR_rfl⟩
theorem sp_xwinner {d : Nat} {kd : KL} {F : FM} {P : PM} {s : Int → Int} {m : Int} {σ : Int → Int → Int} {hs : Int} {sn : Int → Int} {n : Int} {c : Int → Int}  (hd : 2 ≤ d) (hW : CW kd F P s m σ hs sn n c) (hA : AW s m σ hs sn n)  : Sp d 71 [.inr (some 3)] kd F P (QI kd (fun r F' P' => r = ldS (fun q => s (126 + 6 * q + 1)) (fun q => s (126 + 6 * q)) (s 0).toNat ∧ CW kd F' P' s (m) (σ) (hs) (sn) (n) (c) ∧ FR F F' P P')) := by
  obtain ⟨b, e, h, hX, hD⟩ := hW
  refine Sp_of (me := mX7_winner) (by omega) pX7_winner ⟨rfl, Nat.le_of_ble_eq_true rfl⟩ ?_
  have hSb := shX_b hX
  have hSe := shX_e hX
  have hSn := shX_n hX
  have hw := hA.1
  have hR := hD.1
  have hm := hA.2.1
  have hsh := hA.2.2.2.1
  have hnn := hA.2.2.2.2.2
  obtain ⟨w0, w1, w2, w3, w4, w5, w6, w7, w8, w9, w10, w11, w12, w13⟩ := id hw
  refine R_aload_n fX7_winner_0 rfl ?_
  refine R_getP 5 fX7_winner_1 hX.1 (by omega) rfl rfl rfl hX.2.1.2.2.2.2.2.1 ?_
  refine R_callE fX7_winner_4 rfl rfl pX5_leader rfl ⟨Nat.le_of_ble_eq_true rfl, rcv_v rfl (shS_3 hSb 0) (shS_k0 hSb)⟩ (sp_leader (by omega) hSb hR hw) ?_
  refine R_ireturn fX7_winner_7 rfl ?_
  exact ⟨_, _, _, rfl, rfl, ⟨b, e, h, hX, hD⟩, FR_rfl⟩
theorem sp_xcount {d : Nat} {kd : KL} {F : FM} {P : PM} {s : Int → Int} {m : Int} {σ : Int → Int → Int} {hs : Int} {sn : Int → Int} {n : Int} {c : Int → Int} {w : Int} (hd : 3 ≤ d) (hW : CW kd F P s m σ hs sn n c) (hA : AW s m σ hs sn n)  : Sp d 70 [.inr (some 3), .inl w] kd F P (QI kd (fun r F' P' => r = aCount s m hs n w ∧ CW kd F' P' s (m) (σ) (hs) (sn) (n) (c) ∧ FR F F' P P')) := by
  obtain ⟨b, e, h, hX, hD⟩ := hW
  refine Sp_of (me := mX7_count) (by omega) pX7_count ⟨rfl, Nat.le_of_ble_eq_true rfl⟩ ?_
  have hSb := shX_b hX
  have hSe := shX_e hX
  have hSn := shX_n hX
  have hw := hA.1
  have hR := hD.1
  have hm := hA.2.1
  have hsh := hA.2.2.2.1
  have hnn := hA.2.2.2.2.2
  obtain ⟨w0, w1, w2, w3, w4, w5, w6, w7, w8, w9, w10, w11, w12, w13⟩ := id hw
  refine R_iload_n fX7_count_0 rfl ?_
  by_cases cs1_0 : w = 10
  · subst cs1_0
    refine R_tab fX7_count_1 rfl ?_
    refine R_aload_n fX7_count_28 rfl ?_
    refine R_getP 0 fX7_count_29 hX.1 (by omega) rfl rfl rfl hX.2.1.1 ?_
    refine R_getI 1 fX7_count_32 hX.2.2.1.2.2.2.1 (by omega) rfl rfl rfl ?_
    refine R_ireturn fX7_count_35 rfl ?_
    exact ⟨_, _, _, rfl, (by unfold aCount; rw [if_pos rfl]; exact hD.2.1), ⟨b, e, h, hX, hD⟩, FR_rfl⟩
  by_cases cs1_1 : w = 11
  · subst cs1_1
    refine R_tab fX7_count_1 rfl ?_
    refine R_aload_n fX7_count_36 rfl ?_
    refine R_getP 2 fX7_count_37 hX.1 (by omega) rfl rfl rfl hX.2.1.2.2.1 ?_
    refine R_getI 1 fX7_count_40 hX.2.2.2.2.2.1.2.1 (by omega) rfl rfl rfl ?_
    refine R_ireturn fX7_count_43 rfl ?_
    exact ⟨_, _, _, rfl, (by unfold aCount; rw [if_neg (by omega), if_pos rfl]; exact hD.2.2.2.2.2.1), ⟨b, e, h, hX, hD⟩, FR_rfl⟩
  by_cases cs1_2 : w = 12
  · subst cs1_2
    refine R_tab fX7_count_1 rfl ?_
    refine R_aload_n fX7_count_44 rfl ?_
    refine R_getI 7 fX7_count_45 hX.1 (by omega) rfl rfl rfl ?_
    refine R_if_eq fX7_count_48 rfl (fun h48 => ?_) (fun h48 => ?_)
    · refine R_iconst fX7_count_55 ?_
      refine R_ireturn fX7_count_56 rfl ?_
      exact ⟨_, _, _, rfl, (by have h7 := hD.2.2.2.1; unfold aCount; rw [if_neg (by omega), if_neg (by omega), if_pos rfl]; omega), ⟨b, e, h, hX, hD⟩, FR_rfl⟩
    · refine R_iconst fX7_count_51 ?_
      refine R_goto fX7_count_52 rfl ?_
      refine R_ireturn fX7_count_56 rfl ?_
      exact ⟨_, _, _, rfl, (by have h7 := hD.2.2.2.1; unfold aCount; rw [if_neg (by omega), if_neg (by omega), if_pos rfl]; omega), ⟨b, e, h, hX, hD⟩, FR_rfl⟩
  refine R_tabD fX7_count_1 (by omega) rfl ?_
  refine R_aload_n fX7_count_57 rfl ?_
  refine R_getP 5 fX7_count_58 hX.1 (by omega) rfl rfl rfl hX.2.1.2.2.2.2.2.1 ?_
  refine R_iload_n fX7_count_61 rfl ?_
  refine R_callE fX7_count_62 rfl rfl pX5_number rfl ⟨Nat.le_of_ble_eq_true rfl, rcv_v rfl (shS_3 hSb 0) (shS_k0 hSb)⟩ (sp_number (by omega) hSb hR hw) ?_
  refine R_ireturn fX7_count_65 rfl ?_
  exact ⟨_, _, _, rfl, (by unfold aCount; rw [if_neg (by omega), if_neg (by omega), if_neg (by omega)]), ⟨b, e, h, hX, hD⟩, FR_rfl⟩
theorem sp_xsure {d : Nat} {kd : KL} {F : FM} {P : PM} {s : Int → Int} {m : Int} {σ : Int → Int → Int} {hs : Int} {sn : Int → Int} {n : Int} {c : Int → Int} {p : Int} (hd : 4 ≤ d) (hW : CW kd F P s m σ hs sn n c) (hA : AW s m σ hs sn n)  : Sp d 72 [.inr (some 3), .inl p] kd F P (QI kd (fun r F' P' => r = aSure s p ∧ CW kd F' P' s (m) (σ) (hs) (sn) (n) (c) ∧ FR F F' P P')) := by
  obtain ⟨b, e, h, hX, hD⟩ := hW
  refine Sp_of (me := mX7_sure) (by omega) pX7_sure ⟨rfl, Nat.le_of_ble_eq_true rfl⟩ ?_
  have hSb := shX_b hX
  have hSe := shX_e hX
  have hSn := shX_n hX
  have hw := hA.1
  have hR := hD.1
  have hm := hA.2.1
  have hsh := hA.2.2.2.1
  have hnn := hA.2.2.2.2.2
  obtain ⟨w0, w1, w2, w3, w4, w5, w6, w7, w8, w9, w10, w11, w12, w13⟩ := id hw
  have hmo : ∀ k : Nat, (k : Int) ≤ s 0 → 0 ≤ mxo (fun q => s (126 + 6 * q)) p k ∧ mxo (fun q => s (126 + 6 * q)) p k ≤ 120 := by
    intro k
    induction k with
    | zero => intro _; unfold mxo; omega
    | succ k ih =>
      intro hk
      have h1 := ih (by omega)
      have h2 := w3 k (by omega) (by omega)
      unfold mxo
      split <;> omega
  have hmo2 := hmo (s 0).toNat (by omega)
  refine R_aload_n fX7_sure_0 rfl ?_
  refine R_getP 5 fX7_sure_1 hX.1 (by omega) rfl rfl rfl hX.2.1.2.2.2.2.2.1 ?_
  refine R_iload_n fX7_sure_4 rfl ?_
  refine R_callE fX7_sure_5 rfl rfl pX5_hasPlayer rfl ⟨Nat.le_of_ble_eq_true rfl, rcv_v rfl (shS_3 hSb 0) (shS_k0 hSb)⟩ (sp_hasPlayer (by omega) hSb hR hw) ?_
  refine R_if_ne fX7_sure_8 rfl (fun h8 => ?_) (fun h8 => ?_)
  · have hp := cI_1 h8
    have hcp := (hR.2.2.2.2.2.2.2.1 p hp.1 (by omega)).1
    refine R_aload_n fX7_sure_14 rfl ?_
    refine R_getP 5 fX7_sure_15 hX.1 (by omega) rfl rfl rfl hX.2.1.2.2.2.2.2.1 ?_
    refine R_callE fX7_sure_18 rfl rfl pX5_isOver rfl ⟨Nat.le_of_ble_eq_true rfl, rcv_v rfl (shS_3 hSb 0) (shS_k0 hSb)⟩ (sp_isOver (by omega) hSb hR hw) ?_
    refine R_if_eq fX7_sure_21 rfl (fun h21 => ?_) (fun h21 => ?_)
    · have h4n := cI_0 h21
      refine R_aload_n fX7_sure_27 rfl ?_
      refine R_getP 5 fX7_sure_28 hX.1 (by omega) rfl rfl rfl hX.2.1.2.2.2.2.2.1 ?_
      refine R_iload_n fX7_sure_31 rfl ?_
      refine R_callE fX7_sure_32 rfl rfl pX5_mostCoinsOfOthers rfl ⟨Nat.le_of_ble_eq_true rfl, rcv_v rfl (shS_3 hSb 0) (shS_k0 hSb)⟩ (sp_mostCoinsOfOthers (by omega) hSb hR hw) ?_
      refine R_iconst fX7_sure_35 ?_
      refine R_iadd fX7_sure_36 (by omega) ?_
      refine R_istore_n fX7_sure_37 rfl ?_
      refine R_iload_n fX7_sure_38 rfl ?_
      refine R_aload_n fX7_sure_39 rfl ?_
      refine R_getP 5 fX7_sure_40 hX.1 (by omega) rfl rfl rfl hX.2.1.2.2.2.2.2.1 ?_
      refine R_getP 7 fX7_sure_43 (shS_k0 hSb) (shS_3 hSb 0) rfl rfl rfl (shS_p7 hSb) ?_
      refine R_iload_n fX7_sure_46 rfl ?_
      refine R_iaload fX7_sure_47 (shS_k1 hSb) (by omega) ?_
      refine R_icmp_gt fX7_sure_48 rfl (fun h48 => ?_) (fun h48 => ?_)
      · refine R_ldc fX7_sure_55 ?_
        refine R_ireturn fX7_sure_57 rfl ?_
        exact ⟨_, _, _, rfl, (by unfold aSure; rw [if_neg (fun z => z hp), if_neg h4n]; first | rw [if_pos (by omega)] | rw [if_neg (by omega)]), ⟨b, e, h, hX, hD⟩, FR_rfl⟩
      · refine R_iload_n fX7_sure_51 rfl ?_
        refine R_goto fX7_sure_52 rfl ?_
        refine R_ireturn fX7_sure_57 rfl ?_
        exact ⟨_, _, _, rfl, (by unfold aSure; rw [if_neg (fun z => z hp), if_neg h4n]; first | rw [if_pos (by omega)] | rw [if_neg (by omega)]), ⟨b, e, h, hX, hD⟩, FR_rfl⟩
    · refine R_ldc fX7_sure_24 ?_
      refine R_ireturn fX7_sure_26 rfl ?_
      exact ⟨_, _, _, rfl, (by unfold aSure; rw [if_neg (fun z => z hp), if_pos (cI_1 h21)]), ⟨b, e, h, hX, hD⟩, FR_rfl⟩
  · refine R_ldc fX7_sure_11 ?_
    refine R_ireturn fX7_sure_13 rfl ?_
    exact ⟨_, _, _, rfl, (by unfold aSure; rw [if_pos (cI_0 h8)]), ⟨b, e, h, hX, hD⟩, FR_rfl⟩
theorem sp_xchance {d : Nat} {kd : KL} {F : FM} {P : PM} {s : Int → Int} {m : Int} {σ : Int → Int → Int} {hs : Int} {sn : Int → Int} {n : Int} {c : Int → Int} {p : Int} (hd : 4 ≤ d) (hW : CW kd F P s m σ hs sn n c) (hA : AW s m σ hs sn n)  : Sp d 76 [.inr (some 3), .inl p] kd F P (QI kd (fun r F' P' => r = aChance s p ∧ CW kd F' P' s (m) (σ) (hs) (sn) (n) (c) ∧ FR F F' P P')) := by
  obtain ⟨b, e, h, hX, hD⟩ := hW
  refine Sp_of (me := mX7_chance) (by omega) pX7_chance ⟨rfl, Nat.le_of_ble_eq_true rfl⟩ ?_
  have hSb := shX_b hX
  have hSe := shX_e hX
  have hSn := shX_n hX
  have hw := hA.1
  have hR := hD.1
  have hm := hA.2.1
  have hsh := hA.2.2.2.1
  have hnn := hA.2.2.2.2.2
  obtain ⟨w0, w1, w2, w3, w4, w5, w6, w7, w8, w9, w10, w11, w12, w13⟩ := id hw
  refine R_aload_n fX7_chance_0 rfl ?_
  refine R_getP 5 fX7_chance_1 hX.1 (by omega) rfl rfl rfl hX.2.1.2.2.2.2.2.1 ?_
  refine R_iload_n fX7_chance_4 rfl ?_
  refine R_callE fX7_chance_5 rfl rfl pX5_hasPlayer rfl ⟨Nat.le_of_ble_eq_true rfl, rcv_v rfl (shS_3 hSb 0) (shS_k0 hSb)⟩ (sp_hasPlayer (by omega) hSb hR hw) ?_
  refine R_if_ne fX7_chance_8 rfl (fun h8 => ?_) (fun h8 => ?_)
  · have hp := cI_1 h8
    refine R_aload_n fX7_chance_14 rfl ?_
    refine R_getP 5 fX7_chance_15 hX.1 (by omega) rfl rfl rfl hX.2.1.2.2.2.2.2.1 ?_
    refine R_iload_n fX7_chance_18 rfl ?_
    refine R_callE fX7_chance_19 rfl rfl pX5_canLead rfl ⟨Nat.le_of_ble_eq_true rfl, rcv_v rfl (shS_3 hSb 0) (shS_k0 hSb)⟩ (sp_canLead hp (by omega) hSb hR hw) ?_
    refine R_if_eq fX7_chance_22 rfl (fun h22 => ?_) (fun h22 => ?_)
    · refine R_iconst fX7_chance_29 ?_
      refine R_ireturn fX7_chance_30 rfl ?_
      exact ⟨_, _, _, rfl, (by unfold aChance; rw [if_neg (fun z => z hp)]; first | (rw [h22]; done) | (rw [cI_t (cI_1 h22)])), ⟨b, e, h, hX, hD⟩, FR_rfl⟩
    · refine R_iconst fX7_chance_25 ?_
      refine R_goto fX7_chance_26 rfl ?_
      refine R_ireturn fX7_chance_30 rfl ?_
      exact ⟨_, _, _, rfl, (by unfold aChance; rw [if_neg (fun z => z hp)]; first | (rw [h22]; done) | (rw [cI_t (cI_1 h22)])), ⟨b, e, h, hX, hD⟩, FR_rfl⟩
  · refine R_ldc fX7_chance_11 ?_
    refine R_ireturn fX7_chance_13 rfl ?_
    exact ⟨_, _, _, rfl, (by unfold aChance; rw [if_pos (cI_0 h8)]), ⟨b, e, h, hX, hD⟩, FR_rfl⟩
theorem sp_xreply {d : Nat} {kd : KL} {F : FM} {P : PM} {s : Int → Int} {m : Int} {σ : Int → Int → Int} {hs : Int} {sn : Int → Int} {n : Int} {c : Int → Int} {p : Int} (hd : 8 ≤ d) (hW : CW kd F P s m σ hs sn n c) (hA : AW s m σ hs sn n)  : Sp d 73 [.inr (some 3), .inl p] kd F P (QI kd (fun r F' P' => r = aReply s p ∧ CW kd F' P' s (m) (σ) (hs) (sn) (n) (c) ∧ FR F F' P P')) := by
  obtain ⟨b, e, h, hX, hD⟩ := hW
  refine Sp_of (me := mX7_reply) (by omega) pX7_reply ⟨rfl, Nat.le_of_ble_eq_true rfl⟩ ?_
  have hSb := shX_b hX
  have hSe := shX_e hX
  have hSn := shX_n hX
  have hw := hA.1
  have hR := hD.1
  have hm := hA.2.1
  have hsh := hA.2.2.2.1
  have hnn := hA.2.2.2.2.2
  obtain ⟨w0, w1, w2, w3, w4, w5, w6, w7, w8, w9, w10, w11, w12, w13⟩ := id hw
  refine R_aload_n fX7_reply_0 rfl ?_
  refine R_getP 5 fX7_reply_1 hX.1 (by omega) rfl rfl rfl hX.2.1.2.2.2.2.2.1 ?_
  refine R_iload_n fX7_reply_4 rfl ?_
  refine R_callE fX7_reply_5 rfl rfl pX5_hasPlayer rfl ⟨Nat.le_of_ble_eq_true rfl, rcv_v rfl (shS_3 hSb 0) (shS_k0 hSb)⟩ (sp_hasPlayer (by omega) hSb hR hw) ?_
  refine R_if_ne fX7_reply_8 rfl (fun h8 => ?_) (fun h8 => ?_)
  · have hp := cI_1 h8
    refine R_aload_n fX7_reply_14 rfl ?_
    refine R_getP 5 fX7_reply_15 hX.1 (by omega) rfl rfl rfl hX.2.1.2.2.2.2.2.1 ?_
    refine R_callE fX7_reply_18 rfl rfl pX5_isOver rfl ⟨Nat.le_of_ble_eq_true rfl, rcv_v rfl (shS_3 hSb 0) (shS_k0 hSb)⟩ (sp_isOver (by omega) hSb hR hw) ?_
    refine R_if_ne fX7_reply_21 rfl (fun h21 => ?_) (fun h21 => ?_)
    · refine R_ldc fX7_reply_35 ?_
      refine R_ireturn fX7_reply_37 rfl ?_
      exact ⟨_, _, _, rfl, (by unfold aReply; rw [if_neg (fun z => z hp), if_pos (by first | exact Or.inl (cI_1 h21) | exact Or.inr h32)]), ⟨b, e, h, hX, hD⟩, FR_rfl⟩
    · refine R_aload_n fX7_reply_24 rfl ?_
      refine R_getP 5 fX7_reply_25 hX.1 (by omega) rfl rfl rfl hX.2.1.2.2.2.2.2.1 ?_
      refine R_iload_n fX7_reply_28 rfl ?_
      refine R_callE fX7_reply_29 rfl rfl pX5_othersHaveBids rfl ⟨Nat.le_of_ble_eq_true rfl, rcv_v rfl (shS_3 hSb 0) (shS_k0 hSb)⟩ (sp_othersHaveBids (by omega) hSb hR hw) ?_
      refine R_if_ne fX7_reply_32 rfl (fun h32 => ?_) (fun h32 => ?_)
      · have h4n := cI_0 h21
        have hq := cI_1 h32
        refine R_aload_n fX7_reply_38 rfl ?_
        refine R_getP 4 fX7_reply_39 hX.1 (by omega) rfl rfl rfl hX.2.1.2.2.2.2.1 ?_
        refine R_aload_n fX7_reply_42 rfl ?_
        refine R_getP 5 fX7_reply_43 hX.1 (by omega) rfl rfl rfl hX.2.1.2.2.2.2.2.1 ?_
        refine R_iload_n fX7_reply_46 rfl ?_
        refine R_callV fX7_reply_47 rfl rfl pX0_bestReply rfl ⟨Nat.le_of_ble_eq_true rfl, rcv_v rfl (by omega) hX.2.2.2.2.2.2.2.1.1.2.2.1⟩ (sp_bestReply (by omega) hSb hR hw hX.2.2.2.2.2.2.2.1.2 hX.2.2.2.2.2.2.2.1.1 (by have := isB_b hX.2.2.2.2.2.2.2.2.1.1; omega) (by omega) (by have := isB_b hX.2.2.2.2.2.2.2.2.1.1; omega) (by omega) hp hq) (fun r F1 q => ?_)
        refine R_ireturn fX7_reply_50 rfl ?_
        refine ⟨_, _, _, rfl, ?_, ⟨b, e, h, hX, DX_frame hX hD (by omega) (fun k k1 k2 k3 k4 => q.2 k (by omega) (by omega)) (by rw [q.2 86 (by omega) (by omega)])⟩, fun k hk => ⟨q.2 k (by omega) (by omega), rfl⟩⟩
        unfold aReply
        rw [if_neg (fun z => z hp), if_neg (fun z => z.elim h4n h32)]
        exact q.1
      · refine R_ldc fX7_reply_35 ?_
        refine R_ireturn fX7_reply_37 rfl ?_
        exact ⟨_, _, _, rfl, (by unfold aReply; rw [if_neg (fun z => z hp), if_pos (by first | exact Or.inl (cI_1 h21) | exact Or.inr h32)]), ⟨b, e, h, hX, hD⟩, FR_rfl⟩
  · refine R_ldc fX7_reply_11 ?_
    refine R_ireturn fX7_reply_13 rfl ?_
    exact ⟨_, _, _, rfl, (by unfold aReply; rw [if_pos (cI_0 h8)]), ⟨b, e, h, hX, hD⟩, FR_rfl⟩
theorem sp_xholding {d : Nat} {kd : KL} {F : FM} {P : PM} {s : Int → Int} {m : Int} {σ : Int → Int → Int} {hs : Int} {sn : Int → Int} {n : Int} {c : Int → Int} {p v : Int} (hd : 9 ≤ d) (hW : CW kd F P s m σ hs sn n c) (hA : AW s m σ hs sn n)  : Sp d 75 [.inr (some 3), .inl p, .inl v] kd F P (QI kd (fun r F' P' => r = aHolding s p v ∧ CW kd F' P' s (m) (σ) (hs) (sn) (n) (c) ∧ FR F F' P P')) := by
  obtain ⟨b, e, h, hX, hD⟩ := hW
  refine Sp_of (me := mX7_holding) (by omega) pX7_holding ⟨rfl, Nat.le_of_ble_eq_true rfl⟩ ?_
  have hSb := shX_b hX
  have hSe := shX_e hX
  have hSn := shX_n hX
  have hw := hA.1
  have hR := hD.1
  have hm := hA.2.1
  have hsh := hA.2.2.2.1
  have hnn := hA.2.2.2.2.2
  obtain ⟨w0, w1, w2, w3, w4, w5, w6, w7, w8, w9, w10, w11, w12, w13⟩ := id hw
  refine R_aload_n fX7_holding_0 rfl ?_
  refine R_getP 5 fX7_holding_1 hX.1 (by omega) rfl rfl rfl hX.2.1.2.2.2.2.2.1 ?_
  refine R_iload_n fX7_holding_4 rfl ?_
  refine R_callE fX7_holding_5 rfl rfl pX5_hasPlayer rfl ⟨Nat.le_of_ble_eq_true rfl, rcv_v rfl (shS_3 hSb 0) (shS_k0 hSb)⟩ (sp_hasPlayer (by omega) hSb hR hw) ?_
  refine R_if_eq fX7_holding_8 rfl (fun h8 => ?_) (fun h8 => ?_)
  · refine R_ldc fX7_holding_21 ?_
    refine R_ireturn fX7_holding_23 rfl ?_
    exact ⟨_, _, _, rfl, (by unfold aHolding; rw [if_pos (by first | exact Or.inl (cI_0 h8) | omega)]), ⟨b, e, h, hX, hD⟩, FR_rfl⟩
  · refine R_iload_n fX7_holding_11 rfl ?_
    refine R_iconst fX7_holding_12 ?_
    refine R_icmp_lt fX7_holding_13 rfl (fun h13 => ?_) (fun h13 => ?_)
    · refine R_ldc fX7_holding_21 ?_
      refine R_ireturn fX7_holding_23 rfl ?_
      exact ⟨_, _, _, rfl, (by unfold aHolding; rw [if_pos (by first | exact Or.inl (cI_0 h8) | omega)]), ⟨b, e, h, hX, hD⟩, FR_rfl⟩
    · refine R_iload_n fX7_holding_16 rfl ?_
      refine R_iconst fX7_holding_17 ?_
      refine R_icmp_le fX7_holding_18 rfl (fun h18 => ?_) (fun h18 => ?_)
      · have hp := cI_1 h8
        refine R_aload_n fX7_holding_24 rfl ?_
        refine R_getP 5 fX7_holding_25 hX.1 (by omega) rfl rfl rfl hX.2.1.2.2.2.2.2.1 ?_
        refine R_getI 0 fX7_holding_28 (shS_k0 hSb) (shS_3 hSb 0) rfl rfl rfl ?_
        rw [hR.1]
        refine R_iconst fX7_holding_31 ?_
        refine R_icmp_ne fX7_holding_32 rfl (fun h32 => ?_) (fun h32 => ?_)
        · refine R_ldc fX7_holding_45 ?_
          refine R_ireturn fX7_holding_47 rfl ?_
          exact ⟨_, _, _, rfl, (by unfold aHolding; rw [if_neg (by omega), if_pos (by first | exact Or.inl h32 | exact Or.inr (cI_1 h42))]), ⟨b, e, h, hX, hD⟩, FR_rfl⟩
        · refine R_aload_n fX7_holding_35 rfl ?_
          refine R_getP 5 fX7_holding_36 hX.1 (by omega) rfl rfl rfl hX.2.1.2.2.2.2.2.1 ?_
          refine R_callE fX7_holding_39 rfl rfl pX5_isOver rfl ⟨Nat.le_of_ble_eq_true rfl, rcv_v rfl (shS_3 hSb 0) (shS_k0 hSb)⟩ (sp_isOver (by omega) hSb hR hw) ?_
          refine R_if_eq fX7_holding_42 rfl (fun h42 => ?_) (fun h42 => ?_)
          · have h4n := cI_0 h42
            refine R_aload_n fX7_holding_48 rfl ?_
            refine R_getP 4 fX7_holding_49 hX.1 (by omega) rfl rfl rfl hX.2.1.2.2.2.2.1 ?_
            refine R_aload_n fX7_holding_52 rfl ?_
            refine R_getP 5 fX7_holding_53 hX.1 (by omega) rfl rfl rfl hX.2.1.2.2.2.2.2.1 ?_
            refine R_iload_n fX7_holding_56 rfl ?_
            refine R_iload_n fX7_holding_57 rfl ?_
            refine R_callV fX7_holding_58 rfl rfl pX0_bestOpenBid rfl ⟨Nat.le_of_ble_eq_true rfl, rcv_v rfl (by omega) hX.2.2.2.2.2.2.2.1.1.2.2.1⟩ (sp_bestOpenBid (by omega) hSb hR hw hX.2.2.2.2.2.2.2.1.2 hX.2.2.2.2.2.2.2.1.1 (by have := isB_b hX.2.2.2.2.2.2.2.2.1.1; omega) (by omega) (by have := isB_b hX.2.2.2.2.2.2.2.2.1.1; omega) h32 (by omega) (by omega)) (fun r F1 q => ?_)
            refine R_ireturn fX7_holding_61 rfl ?_
            refine ⟨_, _, _, rfl, ?_, ⟨b, e, h, hX, DX_frame hX hD (by omega) (fun k k1 k2 k3 k4 => q.2 k (by omega) (by omega)) (by rw [q.2 86 (by omega) (by omega)])⟩, fun k hk => ⟨q.2 k (by omega) (by omega), rfl⟩⟩
            unfold aHolding
            rw [if_neg (by omega), if_neg (fun z => z.elim (fun y => y h32) h4n)]
            exact q.1
          · refine R_ldc fX7_holding_45 ?_
            refine R_ireturn fX7_holding_47 rfl ?_
            exact ⟨_, _, _, rfl, (by unfold aHolding; rw [if_neg (by omega), if_pos (by first | exact Or.inl h32 | exact Or.inr (cI_1 h42))]), ⟨b, e, h, hX, hD⟩, FR_rfl⟩
      · refine R_ldc fX7_holding_21 ?_
        refine R_ireturn fX7_holding_23 rfl ?_
        exact ⟨_, _, _, rfl, (by unfold aHolding; rw [if_pos (by first | exact Or.inl (cI_0 h8) | omega)]), ⟨b, e, h, hX, hD⟩, FR_rfl⟩
theorem sp_xholds {d : Nat} {kd : KL} {F : FM} {P : PM} {s : Int → Int} {m : Int} {σ : Int → Int → Int} {hs : Int} {sn : Int → Int} {n : Int} {c : Int → Int} {p v : Int} (hd : 9 ≤ d) (hW : CW kd F P s m σ hs sn n c) (hA : AW s m σ hs sn n)  : Sp d 74 [.inr (some 3), .inl p, .inl v] kd F P (QI kd (fun r F' P' => r = aHolds s p v ∧ CW kd F' P' s (m) (σ) (hs) (sn) (n) (c) ∧ FR F F' P P')) := by
  obtain ⟨b, e, h, hX, hD⟩ := hW
  refine Sp_of (me := mX7_holds) (by omega) pX7_holds ⟨rfl, Nat.le_of_ble_eq_true rfl⟩ ?_
  have hSb := shX_b hX
  have hSe := shX_e hX
  have hSn := shX_n hX
  have hw := hA.1
  have hR := hD.1
  have hm := hA.2.1
  have hsh := hA.2.2.2.1
  have hnn := hA.2.2.2.2.2
  obtain ⟨w0, w1, w2, w3, w4, w5, w6, w7, w8, w9, w10, w11, w12, w13⟩ := id hw
  refine R_aload_n fX7_holds_0 rfl ?_
  refine R_getP 5 fX7_holds_1 hX.1 (by omega) rfl rfl rfl hX.2.1.2.2.2.2.2.1 ?_
  refine R_iload_n fX7_holds_4 rfl ?_
  refine R_callE fX7_holds_5 rfl rfl pX5_hasPlayer rfl ⟨Nat.le_of_ble_eq_true rfl, rcv_v rfl (shS_3 hSb 0) (shS_k0 hSb)⟩ (sp_hasPlayer (by omega) hSb hR hw) ?_
  refine R_if_eq fX7_holds_8 rfl (fun h8 => ?_) (fun h8 => ?_)
  · refine R_ldc fX7_holds_20 ?_
    refine R_ireturn fX7_holds_22 rfl ?_
    exact ⟨_, _, _, rfl, (by unfold aHolds; rw [if_pos (by first | exact Or.inl (cI_0 h8) | omega)]), ⟨b, e, h, hX, hD⟩, FR_rfl⟩
  · refine R_iload_n fX7_holds_11 rfl ?_
    refine R_if_lt fX7_holds_12 rfl (fun h12 => ?_) (fun h12 => ?_)
    · refine R_ldc fX7_holds_20 ?_
      refine R_ireturn fX7_holds_22 rfl ?_
      exact ⟨_, _, _, rfl, (by unfold aHolds; rw [if_pos (by first | exact Or.inl (cI_0 h8) | omega)]), ⟨b, e, h, hX, hD⟩, FR_rfl⟩
    · refine R_iload_n fX7_holds_15 rfl ?_
      refine R_iconst fX7_holds_16 ?_
      refine R_icmp_le fX7_holds_17 rfl (fun h17 => ?_) (fun h17 => ?_)
      · have hp := cI_1 h8
        refine R_aload_n fX7_holds_23 rfl ?_
        refine R_getP 5 fX7_holds_24 hX.1 (by omega) rfl rfl rfl hX.2.1.2.2.2.2.2.1 ?_
        refine R_getI 0 fX7_holds_27 (shS_k0 hSb) (shS_3 hSb 0) rfl rfl rfl ?_
        rw [hR.1]
        refine R_iconst fX7_holds_30 ?_
        refine R_icmp_eq fX7_holds_31 rfl (fun h31 => ?_) (fun h31 => ?_)
        · have hp1 := (hR.2.2.2.2.2.2.2.1 p (by omega) (by omega)).2.1
          have hp2 := (hR.2.2.2.2.2.2.2.1 (1 - p) (by omega) (by omega)).2.1
          have hb1 := w12 p (by omega) (by omega)
          have hb2 := w12 (1 - p) (by omega) (by omega)
          refine R_aload_n fX7_holds_37 rfl ?_
          refine R_getP 5 fX7_holds_38 hX.1 (by omega) rfl rfl rfl hX.2.1.2.2.2.2.2.1 ?_
          refine R_getP 8 fX7_holds_41 (shS_k0 hSb) (shS_3 hSb 0) rfl rfl rfl (shS_p8 hSb) ?_
          refine R_iload_n fX7_holds_44 rfl ?_
          refine R_iaload fX7_holds_45 (shS_k2 hSb) (by omega) ?_
          refine R_aload_n fX7_holds_46 rfl ?_
          refine R_getP 5 fX7_holds_47 hX.1 (by omega) rfl rfl rfl hX.2.1.2.2.2.2.2.1 ?_
          refine R_getP 8 fX7_holds_50 (shS_k0 hSb) (shS_3 hSb 0) rfl rfl rfl (shS_p8 hSb) ?_
          refine R_iconst fX7_holds_53 ?_
          refine R_iload_n fX7_holds_54 rfl ?_
          refine R_isub fX7_holds_55 (by omega) ?_
          refine R_iaload fX7_holds_56 (shS_k2 hSb) (by omega) ?_
          refine R_isub fX7_holds_57 (by omega) ?_
          rw [hp1, hp2]
          refine R_istore_n fX7_holds_58 rfl ?_
          refine R_iload_n fX7_holds_59 rfl ?_
          refine R_if_eq fX7_holds_60 rfl (fun h60 => ?_) (fun h60 => ?_)
          · refine R_iload_n fX7_holds_73 rfl ?_
            refine R_ireturn fX7_holds_74 rfl ?_
            exact ⟨_, _, _, rfl, (by unfold aHolds; rw [if_neg (by omega), if_neg (fun z => z h31), if_pos (by first | exact Or.inl h60 | exact Or.inr (cI_1 h70))]), ⟨b, e, h, hX, hD⟩, FR_rfl⟩
          · refine R_aload_n fX7_holds_63 rfl ?_
            refine R_getP 5 fX7_holds_64 hX.1 (by omega) rfl rfl rfl hX.2.1.2.2.2.2.2.1 ?_
            refine R_callE fX7_holds_67 rfl rfl pX5_isOver rfl ⟨Nat.le_of_ble_eq_true rfl, rcv_v rfl (shS_3 hSb 0) (shS_k0 hSb)⟩ (sp_isOver (by omega) hSb hR hw) ?_
            refine R_if_eq fX7_holds_70 rfl (fun h70 => ?_) (fun h70 => ?_)
            · have h4n := cI_0 h70
              refine R_aload_n fX7_holds_75 rfl ?_
              refine R_getP 4 fX7_holds_76 hX.1 (by omega) rfl rfl rfl hX.2.1.2.2.2.2.1 ?_
              refine R_aload_n fX7_holds_79 rfl ?_
              refine R_getP 5 fX7_holds_80 hX.1 (by omega) rfl rfl rfl hX.2.1.2.2.2.2.2.1 ?_
              refine R_iload_n fX7_holds_83 rfl ?_
              refine R_iload_n fX7_holds_84 rfl ?_
              refine R_callV fX7_holds_85 rfl rfl pX0_bestOpenBid rfl ⟨Nat.le_of_ble_eq_true rfl, rcv_v rfl (by omega) hX.2.2.2.2.2.2.2.1.1.2.2.1⟩ (sp_bestOpenBid (by omega) hSb hR hw hX.2.2.2.2.2.2.2.1.2 hX.2.2.2.2.2.2.2.1.1 (by have := isB_b hX.2.2.2.2.2.2.2.2.1.1; omega) (by omega) (by have := isB_b hX.2.2.2.2.2.2.2.2.1.1; omega) h31 (by omega) (by omega)) (fun r F1 q => ?_)
              obtain ⟨q0, q1⟩ := q
              subst q0
              have bb := isB_b hX.2.2.2.2.2.2.2.2.1.1
              have hcp := w3 p (by omega) (by omega)
              have hin := abP_in (h := hT s p v) (n := (s (126 + 6 * p) + 1).toNat)
              have hv := abP_val (h := hT s p v) (n := (s (126 + 6 * p) + 1).toNat) (by omega) (by have := hT_b hw (by omega) (p := p) (e := v) (x := 0) (by omega); omega)
              have hR1 : Rel b F1 s := Rel_frame hR (fun k a c => q1 k (by omega) (by omega))
              have hmx := mxP_b (g := hT s p v) (b := 900) (by omega) (n := (s (126 + 6 * p) + 1).toNat) (fun i _ _ => (hT_b hw (by omega) (by omega)).2)
              refine R_istore fX7_holds_88 rfl ?_
              refine R_iload_n fX7_holds_90 rfl ?_
              refine R_aload_n fX7_holds_91 rfl ?_
              refine R_getP 4 fX7_holds_92 hX.1 (by omega) rfl rfl rfl hX.2.1.2.2.2.2.1 ?_
              refine R_aload_n fX7_holds_95 rfl ?_
              refine R_getP 5 fX7_holds_96 hX.1 (by omega) rfl rfl rfl hX.2.1.2.2.2.2.2.1 ?_
              refine R_iload_n fX7_holds_99 rfl ?_
              refine R_iload fX7_holds_100 rfl ?_
              refine R_iload_n fX7_holds_102 rfl ?_
              refine R_callV fX7_holds_103 rfl rfl pX0_gainByOpenBid rfl ⟨Nat.le_of_ble_eq_true rfl, rcv_v rfl (by omega) hX.2.2.2.2.2.2.2.1.1.2.2.1⟩ (sp_gainByOpenBid (by omega) hSb hR1 hw hX.2.2.2.2.2.2.2.1.2 hX.2.2.2.2.2.2.2.1.1 (by have := isB_b hX.2.2.2.2.2.2.2.2.1.1; omega) (by omega) (by have := isB_b hX.2.2.2.2.2.2.2.2.1.1; omega) h31 (by omega) (by omega) (by omega)) (fun r F2 z => ?_)
              obtain ⟨z0, z1⟩ := z
              rw [← hv] at z0
              refine R_iadd fX7_holds_106 (by rw [z0]; omega) ?_
              refine R_ireturn fX7_holds_107 rfl ?_
              refine ⟨_, _, _, rfl, ?_, ⟨b, e, h, hX, DX_frame hX hD (by omega) (fun k k1 k2 k3 k4 => by rw [z1 k (by omega) (by omega)]; exact q1 k (by omega) (by omega)) (by rw [z1 86 (by omega) (by omega), q1 86 (by omega) (by omega)])⟩, fun k hk => ⟨by rw [z1 k (by omega) (by omega)]; exact q1 k (by omega) (by omega), rfl⟩⟩
              unfold aHolds
              rw [if_neg (by omega), if_neg (fun z => z h31), if_neg (fun z => z.elim h60 h4n), z0]
            · refine R_iload_n fX7_holds_73 rfl ?_
              refine R_ireturn fX7_holds_74 rfl ?_
              exact ⟨_, _, _, rfl, (by unfold aHolds; rw [if_neg (by omega), if_neg (fun z => z h31), if_pos (by first | exact Or.inl h60 | exact Or.inr (cI_1 h70))]), ⟨b, e, h, hX, hD⟩, FR_rfl⟩
        · refine R_ldc fX7_holds_34 ?_
          refine R_ireturn fX7_holds_36 rfl ?_
          exact ⟨_, _, _, rfl, (by unfold aHolds; rw [if_neg (by omega), if_pos h31]), ⟨b, e, h, hX, hD⟩, FR_rfl⟩
      · refine R_ldc fX7_holds_20 ?_
        refine R_ireturn fX7_holds_22 rfl ?_
        exact ⟨_, _, _, rfl, (by unfold aHolds; rw [if_pos (by first | exact Or.inl (cI_0 h8) | omega)]), ⟨b, e, h, hX, hD⟩, FR_rfl⟩
