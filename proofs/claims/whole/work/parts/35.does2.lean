/-! ## the class's calls: snapshot, undo, texts -/
def aRest (hs : Int) (sn : Int → Int) : Int := if hs = 0 then -1000002 else sn 2
def tRest (hs : Int) (sn s : Int → Int) : Int → Int := if hs = 0 then s else sn
def aType (n v : Int) : Int := if v < 32 ∨ 126 < v then -1000001 else if n < 60 then n + 1 else -1000003
def nType (n v : Int) : Int := if v < 32 ∨ 126 < v then n else if n < 60 then n + 1 else n
def cType (n v : Int) (c : Int → Int) : Int → Int := if v < 32 ∨ 126 < v then c else if n < 60 then up c n v else c
noncomputable def PF (c : Int → Int) (n : Int) (s : Int → Int) : Int × Int × Int × Int × (Int → Int) := pfm c n n.toNat s 0 0
noncomputable def aFault (c : Int → Int) (n : Int) (s : Int → Int) (w : Int) : Int := if w < 0 ∨ 2 < w then -1000001 else if (PF c n s).2.1 = 0 then -1000004 else if w = 0 then (PF c n s).1 else if w = 1 then (PF c n s).2.1 else if (PF c n s).2.1 = 2 then (PF c n s).2.2.1 else -1000004
noncomputable def aPlay (c : Int → Int) (n : Int) (s : Int → Int) : Int := if (PF c n s).2.1 = 0 then (PF c n s).2.2.2.1 else -1000002
noncomputable def tPlay (c : Int → Int) (n : Int) (s : Int → Int) : Int → Int := if (PF c n s).2.1 = 0 then (PF c n s).2.2.2.2 else s
theorem pfm_cm {c : Int → Int} {n : Int} : ∀ (N : Nat) {s : Int → Int} {pos cm : Int}, 0 ≤ cm → 0 ≤ (pfm c n N s pos cm).2.2.2.1
  | 0, s, pos, cm, h => h
  | N + 1, s, pos, cm, h => by
    unfold pfm
    split
    · split
      · split
        · exact h
        · exact pfm_cm N (by omega)
      · exact h
    · exact h
theorem sp_xkeep {d : Nat} {kd : KL} {F : FM} {P : PM} {s : Int → Int} {m : Int} {σ : Int → Int → Int} {hs : Int} {sn : Int → Int} {n : Int} {c : Int → Int}  (hd : 5 ≤ d) (hW : CW kd F P s m σ hs sn n c) (hA : AW s m σ hs sn n)  : Sp d 77 [.inr (some 3)] kd F P (QI kd (fun r F' P' => r = s 2 ∧ CW kd F' P' s (m) (σ) (1) (s) (n) (c) ∧ FR F F' P P')) := by
  obtain ⟨b, e, h, hX, hD⟩ := hW
  refine Sp_of (me := mX7_keep) (by omega) pX7_keep ⟨rfl, Nat.le_of_ble_eq_true rfl⟩ ?_
  have hSb := shX_b hX
  have hSe := shX_e hX
  have hSn := shX_n hX
  have hw := hA.1
  have hR := hD.1
  have hm := hA.2.1
  have hsh := hA.2.2.2.1
  have hnn := hA.2.2.2.2.2
  obtain ⟨w0, w1, w2, w3, w4, w5, w6, w7, w8, w9, w10, w11, w12, w13⟩ := id hw
  have bb := isB_b hX.2.2.2.2.2.2.2.2.1.1
  refine R_aload_n fX7_keep_0 rfl ?_
  refine R_getP 1 fX7_keep_1 hX.1 (by omega) rfl rfl rfl hX.2.1.2.1 ?_
  refine R_aload_n fX7_keep_4 rfl ?_
  refine R_getP 5 fX7_keep_5 hX.1 (by omega) rfl rfl rfl hX.2.1.2.2.2.2.2.1 ?_
  refine R_callN fX7_keep_8 rfl rfl pX5_copyFrom rfl ⟨Nat.le_of_ble_eq_true rfl, rcv_v rfl (shS_3 hSn 0) (shS_k0 hSn)⟩ (sp_copyFrom (by omega) hSn hSb (by omega) hR hw) (fun F1 q => ?_)
  obtain ⟨q1, q2⟩ := q
  have hRb : Rel b F1 s := Rel_frame hR (fun k a b => q2 k (by omega))
  refine R_aload_n fX7_keep_11 rfl ?_
  refine R_iconst fX7_keep_12 ?_
  refine R_putZ 7 fX7_keep_13 hX.1 (by omega) rfl rfl rfl (by simp) ?_
  refine R_aload_n fX7_keep_16 rfl ?_
  refine R_getP 5 fX7_keep_17 hX.1 (by omega) rfl rfl rfl hX.2.1.2.2.2.2.2.1 ?_
  refine R_getI 2 fX7_keep_20 (shS_k0 hSb) (shS_3 hSb 0) rfl rfl rfl ?_
  refine R_ireturn fX7_keep_23 rfl ?_
  refine ⟨_, _, _, rfl, ?_, ⟨b, e, h, hX, ?_⟩, fun k hk => ⟨?_, rfl⟩⟩
  · rw [stt_k _ _ _ _ (by omega)]; exact hRb.2.2.1
  · obtain ⟨d1, d2, d3, d4, d5, d6, d7, d8⟩ := id hD
    refine ⟨Rel_frame hRb (fun k a b => stt_kr _ _ _ (by omega)), ?_, fun j j0 j1 => ?_, ?_, fun _ => Rel_frame q1 (fun k a b => stt_kr _ _ _ (by omega)), ?_, ?_, ?_⟩
    · rw [stt_kr _ _ _ (by omega), q2 4 (by omega)]; exact d2
    · have hj := isB_b (hX.2.2.2.2.2.2.2.2.2.1 j j0 (by omega)).1
      exact Rel_frame (d3 j j0 j1) (fun k a b => by rw [stt_kr _ _ _ (by omega)]; exact q2 k (by omega))
    · exact stt_eq _ _ _ _
    · rw [stt_kr _ _ _ (by omega), q2 86 (by omega)]; exact d6
    · rw [stt_kr _ _ _ (by omega), q2 87 (by omega)]; exact d7
    · rw [stt_kr _ _ _ (by omega), q2 2 (by omega)]; exact d8
  · rw [stt_kr _ _ _ (by omega)]; exact q2 k (by omega)
theorem sp_xrestore {d : Nat} {kd : KL} {F : FM} {P : PM} {s : Int → Int} {m : Int} {σ : Int → Int → Int} {hs : Int} {sn : Int → Int} {n : Int} {c : Int → Int}  (hd : 5 ≤ d) (hW : CW kd F P s m σ hs sn n c) (hA : AW s m σ hs sn n)  : Sp d 78 [.inr (some 3)] kd F P (QI kd (fun r F' P' => r = aRest hs sn ∧ CW kd F' P' (tRest hs sn s) (tm (aRest hs sn) m) (tσ (aRest hs sn) m σ s) (hs) (sn) (n) (c) ∧ FR F F' P P')) := by
  obtain ⟨b, e, h, hX, hD⟩ := hW
  refine Sp_of (me := mX7_restore) (by omega) pX7_restore ⟨rfl, Nat.le_of_ble_eq_true rfl⟩ ?_
  have hSb := shX_b hX
  have hSe := shX_e hX
  have hSn := shX_n hX
  have hw := hA.1
  have hR := hD.1
  have hm := hA.2.1
  have hsh := hA.2.2.2.1
  have hnn := hA.2.2.2.2.2
  obtain ⟨w0, w1, w2, w3, w4, w5, w6, w7, w8, w9, w10, w11, w12, w13⟩ := id hw
  have be := isB_b hX.2.2.2.2.2.2.2.2.1.2.1
  have bb := isB_b hX.2.2.2.2.2.2.2.2.1.1
  have h37 := hD.2.2.2.1
  have hae : aRest hs sn ≤ -1000001 → tRest hs sn s = s := fun z => by
    unfold aRest at z
    unfold tRest
    by_cases y : hs = 0
    · rw [if_pos y]
    · rw [if_neg y] at z
      have := (hA.2.2.2.2.1 (by omega)).2.2.2.2.2.2.2.2.2.2.2.1
      omega
  refine R_aload_n fX7_restore_0 rfl ?_
  refine R_getI 7 fX7_restore_1 hX.1 (by omega) rfl rfl rfl ?_
  refine R_if_ne fX7_restore_4 rfl (fun h4 => ?_) (fun h4 => ?_)
  · have h1 : hs = 1 := by omega
    have h0 : ¬ hs = 0 := by omega
    have hwn := hA.2.2.2.2.1 h1
    have hRn := hD.2.2.2.2.1 h1
    have ha : aRest hs sn = sn 2 := by unfold aRest; rw [if_neg h0]
    have ht : tRest hs sn s = sn := by unfold tRest; rw [if_neg h0]
    refine R_aload_n fX7_restore_10 rfl ?_
    refine R_getP 6 fX7_restore_11 hX.1 (by omega) rfl rfl rfl hX.2.1.2.2.2.2.2.2 ?_
    refine R_aload_n fX7_restore_14 rfl ?_
    refine R_getP 1 fX7_restore_15 hX.1 (by omega) rfl rfl rfl hX.2.1.2.1 ?_
    refine R_callN fX7_restore_18 rfl rfl pX5_copyFrom rfl ⟨Nat.le_of_ble_eq_true rfl, rcv_v rfl (shS_3 hSe 0) (shS_k0 hSe)⟩ (sp_copyFrom (by omega) hSe hSn (by omega) hRn hwn) (fun F2 q => ?_)
    obtain ⟨q1, q2⟩ := q
    have hD2 := DX_e hX hD (by omega) (fun k k1 _ => q2 k k1)
    refine R_aload_n fX7_restore_21 rfl ?_
    refine R_aload_n fX7_restore_22 rfl ?_
    refine R_getP 6 fX7_restore_23 hX.1 (by omega) rfl rfl rfl hX.2.1.2.2.2.2.2.2 ?_
    refine R_getI 2 fX7_restore_26 (shS_k0 hSe) (shS_3 hSe 0) rfl rfl rfl ?_
    rw [q1.2.2.1]
    refine R_callI fX7_restore_29 rfl rfl pX7_adopt rfl ⟨Nat.le_of_ble_eq_true rfl, rcv_v rfl (by omega) hX.1⟩ (sp_adopt (by omega) hX hD2 hm (fun _ => q1)) (fun r F3 P3 y => ?_)
    obtain ⟨y1, y2, y3⟩ := y
    subst y1
    refine R_ireturn fX7_restore_32 rfl ?_
    exact ⟨_, _, _, rfl, ha.symm, tW hae (by rw [ha, ht]; exact y2), FR_tr (fun k hk => ⟨q2 k (by omega), rfl⟩) y3⟩
  · refine R_ldc fX7_restore_7 ?_
    refine R_ireturn fX7_restore_9 rfl ?_
    have h0 : hs = 0 := by omega
    have ha : aRest hs sn = -1000002 := by unfold aRest; rw [if_pos h0]
    exact ⟨_, _, _, rfl, ha.symm, tW hae (by rw [if_pos (by omega)]; exact ⟨b, e, h, hX, hD⟩), FR_rfl⟩
theorem sp_xundo {d : Nat} {kd : KL} {F : FM} {P : PM} {s : Int → Int} {m : Int} {σ : Int → Int → Int} {hs : Int} {sn : Int → Int} {n : Int} {c : Int → Int}  (hd : 2 ≤ d) (hW : CW kd F P s m σ hs sn n c) (hA : AW s m σ hs sn n)  : Sp d 79 [.inr (some 3)] kd F P (QI kd (fun r F' P' => r = (if m = 0 then -1000002 else m - 1) ∧ CW kd F' P' (if m = 0 then s else σ (m - 1)) (if m = 0 then m else m - 1) (σ) (hs) (sn) (n) (c) ∧ FR F F' P P')) := by
  obtain ⟨b, e, h, hX, hD⟩ := hW
  refine Sp_of (me := mX7_undo) (by omega) pX7_undo ⟨rfl, Nat.le_of_ble_eq_true rfl⟩ ?_
  have hSb := shX_b hX
  have hSe := shX_e hX
  have hSn := shX_n hX
  have hw := hA.1
  have hR := hD.1
  have hm := hA.2.1
  have hsh := hA.2.2.2.1
  have hnn := hA.2.2.2.2.2
  obtain ⟨w0, w1, w2, w3, w4, w5, w6, w7, w8, w9, w10, w11, w12, w13⟩ := id hw
  have bb := isB_b hX.2.2.2.2.2.2.2.2.1.1
  have h41 := hD.2.1
  obtain ⟨a1, a2, a3, a4, a5, a6, a7, a8, a9, a10, a11, a12⟩ := id hX
  obtain ⟨d1, d2, d3, d4, d5, d6, d7, d8⟩ := id hD
  have hh : ∀ j, 0 ≤ j → j < 4 → P 5 j = some (h j) ∧ 3 ≤ h j ∧ kd[h j]? = some (7, 17) := fun j j0 j1 => ⟨a4 j j0 j1, by have := isB_b (a10 j j0 j1).1; omega, shS_k0 (a5 _ (Or.inl (a10 j j0 j1).1))⟩
  refine R_aload_n fX7_undo_0 rfl ?_
  refine R_getP 0 fX7_undo_1 hX.1 (by omega) rfl rfl rfl hX.2.1.1 ?_
  refine R_getI 1 fX7_undo_4 hX.2.2.1.2.2.2.1 (by omega) rfl rfl rfl ?_
  refine R_if_ne fX7_undo_7 rfl (fun h7 => ?_) (fun h7 => ?_)
  · refine R_aload_n fX7_undo_13 rfl ?_
    refine R_aload_n fX7_undo_14 rfl ?_
    refine R_getP 0 fX7_undo_15 hX.1 (by omega) rfl rfl rfl hX.2.1.1 ?_
    refine R_aload_n fX7_undo_18 rfl ?_
    refine R_getP 5 fX7_undo_19 hX.1 (by omega) rfl rfl rfl hX.2.1.2.2.2.2.2.1 ?_
    refine R_callP fX7_undo_22 rfl rfl pX1_takeLatest rfl ⟨Nat.le_of_ble_eq_true rfl, rcv_v rfl (by omega) hX.2.2.1.2.2.2.1⟩ (sp_takeLatest (by omega) a3 hh (by omega) ⟨by omega, shS_k0 hSb⟩ (by omega)) (fun v F1 P1 q => ?_)
    obtain ⟨q1, q2, q3⟩ := q
    rw [d2] at q1 q2 q3
    have hv := a10 (m - 1) (by omega) (by omega)
    have h33 : P1 3 = P 3 := by rw [q3]; exact stp_kr _ _ _ (by omega)
    have h30 : stp_ P1 3 5 (some v) 3 0 = some 4 := by rw [stp_j _ _ (by omega), h33]; exact a2.1
    refine R_putP 5 fX7_undo_25 hX.1 (by omega) rfl rfl rfl ?_
    refine R_aload_n fX7_undo_28 rfl ?_
    refine R_getP 0 fX7_undo_29 hX.1 (by omega) rfl rfl rfl h30 ?_
    refine R_getI 1 fX7_undo_32 hX.2.2.1.2.2.2.1 (by omega) rfl rfl rfl ?_
    refine R_ireturn fX7_undo_35 rfl ?_
    refine ⟨_, _, _, rfl, by rw [if_neg (by omega), q2, stt_eq], ?_, fun k hk => ⟨?_, ?_⟩⟩
    · rw [if_neg (by omega), if_neg (by omega)]
      refine ⟨v, e, fun j => if j = m - 1 then b else h j, shX_P hX (fun k k3 k5 => ?_) ⟨?_, ?_, ?_, ?_, ?_, ?_, ?_⟩ (fun j j0 j1 => ?_) ⟨by rw [q1]; exact hv.1, a9.2.1, by rw [q1]; exact hv.2.2⟩ (fun j j0 j1 => ?_) (fun i j i0 ij j1 => ?_), ?_, ?_, fun j j0 j1 => ?_, ?_, fun z => ?_, ?_, ?_, ?_⟩
      · rw [stp_kr _ _ _ k3, q3]; exact stp_kr _ _ _ k5
      · exact h30
      · rw [stp_j _ _ (by omega), h33]; exact a2.2.1
      · rw [stp_j _ _ (by omega), h33]; exact a2.2.2.1
      · rw [stp_j _ _ (by omega), h33]; exact a2.2.2.2.1
      · rw [stp_j _ _ (by omega), h33]; exact a2.2.2.2.2.1
      · rw [stp_eq]
      · rw [stp_j _ _ (by omega), h33]; exact a2.2.2.2.2.2.2
      · rw [stp_kr _ _ _ (by omega), q3]
        show _ = some (if j = m - 1 then b else h j)
        by_cases hj : j = m - 1
        · rw [hj, stp_eq, if_pos rfl]
        · rw [stp_j _ _ hj, if_neg hj]; exact a4 j j0 j1
      · show isB (if j = m - 1 then b else h j) ∧ (if j = m - 1 then b else h j) ≠ v ∧ (if j = m - 1 then b else h j) ≠ e
        by_cases hj : j = m - 1
        · rw [if_pos hj, q1]; exact ⟨a9.1, fun z => hv.2.1 z.symm, a9.2.2⟩
        · rw [if_neg hj, q1]
          have h10 := a10 j j0 j1
          refine ⟨h10.1, fun z => ?_, h10.2.2⟩
          rcases (by omega : j < m - 1 ∨ m - 1 < j) with y | y
          · exact a11 j (m - 1) j0 y (by omega) z
          · exact a11 (m - 1) j (by omega) y j1 z.symm
      · show (if i = m - 1 then b else h i) ≠ (if j = m - 1 then b else h j)
        by_cases hi : i = m - 1
        · rw [if_pos hi, if_neg (by omega)]; exact fun z => (a10 j (by omega) j1).2.1 z.symm
        · rw [if_neg hi]
          by_cases hj : j = m - 1
          · rw [if_pos hj]; exact (a10 i i0 (by omega)).2.1
          · rw [if_neg hj]; exact a11 i j i0 ij j1
      · have hj := isB_b hv.1
        rw [q1, q2]
        exact Rel_frame (d3 (m - 1) (by omega) (by omega)) (fun k a b => stt_kr _ _ _ (by omega))
      · rw [q2, stt_eq]
      · show Rel (if j = m - 1 then b else h j) F1 (σ j)
        rw [if_neg (by omega), q2]
        have hj := isB_b (a10 j j0 (by omega)).1
        exact Rel_frame (d3 j j0 (by omega)) (fun k a b => stt_kr _ _ _ (by omega))
      · rw [q2, stt_k _ _ _ _ (by omega)]; exact d4
      · rw [q2]; exact Rel_frame (d5 z) (fun k a b => stt_kr _ _ _ (by omega))
      · rw [q2, stt_k _ _ _ _ (by omega)]; exact d6
      · rw [q2, stt_kr _ _ _ (by omega)]; exact d7
      · rw [q2, stt_kr _ _ _ (by omega)]; exact d8
    · rw [q2, stt_kr _ _ _ (by omega)]
    · rw [stp_kr _ _ _ (by omega), q3, stp_kr _ _ _ (by omega)]
  · refine R_ldc fX7_undo_10 ?_
    refine R_ireturn fX7_undo_12 rfl ?_
    exact ⟨_, _, _, rfl, by rw [if_pos (by omega)], by rw [if_pos (by omega), if_pos (by omega)]; exact ⟨b, e, h, hX, hD⟩, FR_rfl⟩
theorem sp_xtype {d : Nat} {kd : KL} {F : FM} {P : PM} {s : Int → Int} {m : Int} {σ : Int → Int → Int} {hs : Int} {sn : Int → Int} {n : Int} {c : Int → Int} {v : Int} (hd : 2 ≤ d) (hW : CW kd F P s m σ hs sn n c) (hA : AW s m σ hs sn n)  : Sp d 80 [.inr (some 3), .inl v] kd F P (QI kd (fun r F' P' => r = aType n v ∧ CW kd F' P' s (m) (σ) (hs) (sn) (nType n v) (cType n v c) ∧ FR F F' P P')) := by
  obtain ⟨b, e, h, hX, hD⟩ := hW
  refine Sp_of (me := mX7_type) (by omega) pX7_type ⟨rfl, Nat.le_of_ble_eq_true rfl⟩ ?_
  have hSb := shX_b hX
  have hSe := shX_e hX
  have hSn := shX_n hX
  have hw := hA.1
  have hR := hD.1
  have hm := hA.2.1
  have hsh := hA.2.2.2.1
  have hnn := hA.2.2.2.2.2
  obtain ⟨w0, w1, w2, w3, w4, w5, w6, w7, w8, w9, w10, w11, w12, w13⟩ := id hw
  have bb := isB_b hX.2.2.2.2.2.2.2.2.1.1
  have h86 := hD.2.2.2.2.2.1
  refine R_iload_n fX7_type_0 rfl ?_
  refine R_bipush fX7_type_1 ?_
  refine R_icmp_lt fX7_type_3 rfl (fun h3 => ?_) (fun h3 => ?_)
  · refine R_ldc fX7_type_12 ?_
    refine R_ireturn fX7_type_14 rfl ?_
    exact ⟨_, _, _, rfl, by unfold aType; rw [if_pos (by omega)], by unfold nType cType; rw [if_pos (by omega), if_pos (by omega)]; exact ⟨b, e, h, hX, hD⟩, FR_rfl⟩
  · refine R_iload_n fX7_type_6 rfl ?_
    refine R_bipush fX7_type_7 ?_
    refine R_icmp_le fX7_type_9 rfl (fun h9 => ?_) (fun h9 => ?_)
    · refine R_aload_n fX7_type_15 rfl ?_
      refine R_getP 2 fX7_type_16 hX.1 (by omega) rfl rfl rfl hX.2.1.2.2.1 ?_
      refine R_iload_n fX7_type_19 rfl ?_
      refine R_callV fX7_type_20 rfl rfl pX6_append rfl ⟨Nat.le_of_ble_eq_true rfl, rcv_v rfl (by omega) hX.2.2.2.2.2.1.2.1⟩ (sp_append (by omega) hX.2.2.2.2.2.1 ⟨h86, hnn⟩) (fun r F1 q => ?_)
      refine R_ireturn fX7_type_23 rfl ?_
      by_cases hn60 : n < 60
      · rw [if_pos hn60] at q
        obtain ⟨q1, q2⟩ := q
        refine ⟨_, _, _, rfl, by unfold aType; rw [if_neg (by omega), if_pos hn60]; exact q1, ?_, fun k hk => ⟨by rw [q2, stt_kr _ _ _ (by omega), stt_kr _ _ _ (by omega)], rfl⟩⟩
        unfold nType cType
        rw [if_neg (by omega), if_pos hn60, if_neg (by omega), if_pos hn60]
        obtain ⟨d1, d2, d3, d4, d5, d6, d7, d8⟩ := id hD
        have hk : ∀ k, k ≠ 86 → k ≠ 87 → F1 k = F k := fun k k1 k2 => by rw [q2, stt_kr _ _ _ k1, stt_kr _ _ _ k2]
        refine ⟨b, e, h, hX, Rel_frame d1 (fun k a b => hk k (by omega) (by omega)), ?_, fun j j0 j1 => ?_, ?_, fun z => Rel_frame (d5 z) (fun k a b => hk k (by omega) (by omega)), ?_, ?_, ?_⟩
        · rw [hk 4 (by omega) (by omega)]; exact d2
        · have hj := isB_b (hX.2.2.2.2.2.2.2.2.2.1 j j0 (by omega)).1
          exact Rel_frame (d3 j j0 j1) (fun k a b => hk k (by omega) (by omega))
        · rw [hk 3 (by omega) (by omega)]; exact d4
        · rw [q2, stt_eq]
        · rw [q2, stt_kr _ _ _ (by omega), ← d7]
          funext a
          unfold up stt
          by_cases ha : a = n
          · rw [if_pos ⟨rfl, ha⟩, if_pos ha]
          · rw [if_neg (fun z => ha z.2), if_neg ha]
        · rw [hk 2 (by omega) (by omega)]; exact d8
      · rw [if_neg hn60] at q
        obtain ⟨q1, q2⟩ := q
        refine ⟨_, _, _, rfl, by unfold aType; rw [if_neg (by omega), if_neg hn60]; exact q1, ?_, fun k hk => ⟨by rw [q2], rfl⟩⟩
        unfold nType cType
        rw [if_neg (by omega), if_neg hn60, if_neg (by omega), if_neg hn60, q2]
        exact ⟨b, e, h, hX, hD⟩
    · refine R_ldc fX7_type_12 ?_
      refine R_ireturn fX7_type_14 rfl ?_
      exact ⟨_, _, _, rfl, by unfold aType; rw [if_pos (by omega)], by unfold nType cType; rw [if_pos (by omega), if_pos (by omega)]; exact ⟨b, e, h, hX, hD⟩, FR_rfl⟩
theorem sp_xclearText {d : Nat} {kd : KL} {F : FM} {P : PM} {s : Int → Int} {m : Int} {σ : Int → Int → Int} {hs : Int} {sn : Int → Int} {n : Int} {c : Int → Int}  (hd : 1 ≤ d) (hW : CW kd F P s m σ hs sn n c) (hA : AW s m σ hs sn n)  : Sp d 81 [.inr (some 3)] kd F P (QI kd (fun r F' P' => r = n ∧ CW kd F' P' s (m) (σ) (hs) (sn) (0) (c) ∧ FR F F' P P')) := by
  obtain ⟨b, e, h, hX, hD⟩ := hW
  refine Sp_of (me := mX7_clearText) (by omega) pX7_clearText ⟨rfl, Nat.le_of_ble_eq_true rfl⟩ ?_
  have hSb := shX_b hX
  have hSe := shX_e hX
  have hSn := shX_n hX
  have hw := hA.1
  have hR := hD.1
  have hm := hA.2.1
  have hsh := hA.2.2.2.1
  have hnn := hA.2.2.2.2.2
  obtain ⟨w0, w1, w2, w3, w4, w5, w6, w7, w8, w9, w10, w11, w12, w13⟩ := id hw
  have bb := isB_b hX.2.2.2.2.2.2.2.2.1.1
  have h86 := hD.2.2.2.2.2.1
  refine R_aload_n fX7_clearText_0 rfl ?_
  refine R_getP 2 fX7_clearText_1 hX.1 (by omega) rfl rfl rfl hX.2.1.2.2.1 ?_
  refine R_getI 1 fX7_clearText_4 hX.2.2.2.2.2.1.2.1 (by omega) rfl rfl rfl ?_
  refine R_istore_n fX7_clearText_7 rfl ?_
  refine R_aload_n fX7_clearText_8 rfl ?_
  refine R_getP 2 fX7_clearText_9 hX.1 (by omega) rfl rfl rfl hX.2.1.2.2.1 ?_
  refine R_iconst fX7_clearText_12 ?_
  refine R_putI 1 fX7_clearText_13 hX.2.2.2.2.2.1.2.1 (by omega) rfl rfl rfl ?_
  refine R_iload_n fX7_clearText_16 rfl ?_
  refine R_ireturn fX7_clearText_17 rfl ?_
  obtain ⟨d1, d2, d3, d4, d5, d6, d7, d8⟩ := id hD
  refine ⟨_, _, _, rfl, h86, ⟨b, e, h, hX, Rel_frame d1 (fun k a b => stt_kr _ _ _ (by omega)), ?_, fun j j0 j1 => ?_, ?_, fun z => Rel_frame (d5 z) (fun k a b => stt_kr _ _ _ (by omega)), ?_, ?_, ?_⟩, fun k hk => ⟨stt_kr _ _ _ (by omega), rfl⟩⟩
  · rw [stt_kr _ _ _ (by omega)]; exact d2
  · have hj := isB_b (hX.2.2.2.2.2.2.2.2.2.1 j j0 (by omega)).1
    exact Rel_frame (d3 j j0 j1) (fun k a b => stt_kr _ _ _ (by omega))
  · rw [stt_kr _ _ _ (by omega)]; exact d4
  · rw [stt_eq]
  · rw [stt_kr _ _ _ (by omega)]; exact d7
  · rw [stt_kr _ _ _ (by omega)]; exact d8
theorem sp_xfault {d : Nat} {kd : KL} {F : FM} {P : PM} {s : Int → Int} {m : Int} {σ : Int → Int → Int} {hs : Int} {sn : Int → Int} {n : Int} {c : Int → Int} {w : Int} (hd : 9 ≤ d) (hW : CW kd F P s m σ hs sn n c) (hA : AW s m σ hs sn n) (h2 : s 2 + 60 ≤ 20000) : Sp d 82 [.inr (some 3), .inl w] kd F P (QI kd (fun r F' P' => r = aFault c n s w ∧ CW kd F' P' s (m) (σ) (hs) (sn) (n) (c) ∧ FR F F' P P')) := by
  obtain ⟨b, e, h, hX, hD⟩ := hW
  refine Sp_of (me := mX7_fault) (by omega) pX7_fault ⟨rfl, Nat.le_of_ble_eq_true rfl⟩ ?_
  have hSb := shX_b hX
  have hSe := shX_e hX
  have hSn := shX_n hX
  have hw := hA.1
  have hR := hD.1
  have hm := hA.2.1
  have hsh := hA.2.2.2.1
  have hnn := hA.2.2.2.2.2
  obtain ⟨w0, w1, w2, w3, w4, w5, w6, w7, w8, w9, w10, w11, w12, w13⟩ := id hw
  have be := isB_b hX.2.2.2.2.2.2.2.2.1.2.1
  have bb := isB_b hX.2.2.2.2.2.2.2.2.1.1
  refine R_iload_n fX7_fault_0 rfl ?_
  refine R_if_lt fX7_fault_1 rfl (fun h1 => ?_) (fun h1 => ?_)
  · refine R_ldc fX7_fault_9 ?_
    refine R_ireturn fX7_fault_11 rfl ?_
    exact ⟨_, _, _, rfl, by unfold aFault; rw [if_pos (by omega)], ⟨b, e, h, hX, hD⟩, FR_rfl⟩
  · refine R_iload_n fX7_fault_4 rfl ?_
    refine R_iconst fX7_fault_5 ?_
    refine R_icmp_le fX7_fault_6 rfl (fun h6 => ?_) (fun h6 => ?_)
    · refine R_aload_n fX7_fault_12 rfl ?_
      refine R_getP 2 fX7_fault_13 hX.1 (by omega) rfl rfl rfl hX.2.1.2.2.1 ?_
      refine R_aload_n fX7_fault_16 rfl ?_
      refine R_callP fX7_fault_17 rfl rfl pX7_freshDraft rfl ⟨Nat.le_of_ble_eq_true rfl, rcv_v rfl (by omega) hX.1⟩ (sp_freshDraft (by omega) hX hR hw) (fun v_ F1 P1 q => ?_)
      obtain ⟨rfl, rfl, q3, q4⟩ := q
      have hD1 := DX_e hX hD (by omega) (fun k k1 _ => q4 k k1)
      refine R_aload_n fX7_fault_20 rfl ?_
      refine R_getP 3 fX7_fault_21 hX.1 (by omega) rfl rfl rfl hX.2.1.2.2.2.1 ?_
      refine R_callN fX7_fault_24 rfl rfl pX6_perform rfl ⟨Nat.le_of_ble_eq_true rfl, rcv_v rfl (by omega) hX.2.2.2.2.2.1.2.1⟩ (sp_perform (by omega) hX.2.2.2.2.2.1 hSe hX.2.2.2.2.2.2.1 (by omega) (by omega) (by omega) ⟨hD1.2.2.2.2.2.1, hnn⟩ hD1.2.2.2.2.2.2.1 q3 hw h2) (fun F2 z => ?_)
      obtain ⟨z2, z3, z4, z5, zR, z1, zf⟩ := z
      have hD2 : DX F2 b h s m σ hs sn n c := DX_frame hX hD1 (by omega) (fun k k1 k2 k3 k4 => zf k k2 k1 k3) (by rw [z1]; exact hD1.2.2.2.2.2.1.symm)
      have hfr : ∀ k, (k < 3 ∨ 128 ≤ k) → F2 k = F k := fun k hk => by rw [zf k (by omega) (by omega) (by omega)]; exact q4 k (by omega)
      refine R_aload_n fX7_fault_27 rfl ?_
      refine R_getP 2 fX7_fault_28 hX.1 (by omega) rfl rfl rfl hX.2.1.2.2.1 ?_
      refine R_iload_n fX7_fault_31 rfl ?_
      refine R_callE fX7_fault_32 rfl rfl pX6_numberOfFault rfl ⟨Nat.le_of_ble_eq_true rfl, rcv_v rfl (by omega) hX.2.2.2.2.2.1.2.1⟩ (sp_numberOfFault (by omega) hX.2.2.2.2.2.1) ?_
      refine R_ireturn fX7_fault_35 rfl ?_
      refine ⟨_, _, _, rfl, ?_, ⟨b, _, h, hX, hD2⟩, fun k hk => ⟨hfr k hk, rfl⟩⟩
      have hf : aFault c n s w = if (pfm c n n.toNat s 0 0).2.1 = 0 then -1000004 else if w = 0 then (pfm c n n.toNat s 0 0).1 else if w = 1 then (pfm c n n.toNat s 0 0).2.1 else if (pfm c n n.toNat s 0 0).2.1 = 2 then (pfm c n n.toNat s 0 0).2.2.1 else -1000004 := by
        unfold aFault PF
        rw [if_neg (by omega)]
      rw [hf, z2, z3, z4]
    · refine R_ldc fX7_fault_9 ?_
      refine R_ireturn fX7_fault_11 rfl ?_
      exact ⟨_, _, _, rfl, by unfold aFault; rw [if_pos (by omega)], ⟨b, e, h, hX, hD⟩, FR_rfl⟩
theorem sp_xplay {d : Nat} {kd : KL} {F : FM} {P : PM} {s : Int → Int} {m : Int} {σ : Int → Int → Int} {hs : Int} {sn : Int → Int} {n : Int} {c : Int → Int}  (hd : 9 ≤ d) (hW : CW kd F P s m σ hs sn n c) (hA : AW s m σ hs sn n) (h2 : s 2 + 60 ≤ 20000) : Sp d 83 [.inr (some 3)] kd F P (QI kd (fun r F' P' => r = aPlay c n s ∧ CW kd F' P' (tPlay c n s) (tm (aPlay c n s) m) (tσ (aPlay c n s) m σ s) (hs) (sn) (n) (c) ∧ FR F F' P P')) := by
  obtain ⟨b, e, h, hX, hD⟩ := hW
  refine Sp_of (me := mX7_play) (by omega) pX7_play ⟨rfl, Nat.le_of_ble_eq_true rfl⟩ ?_
  have hSb := shX_b hX
  have hSe := shX_e hX
  have hSn := shX_n hX
  have hw := hA.1
  have hR := hD.1
  have hm := hA.2.1
  have hsh := hA.2.2.2.1
  have hnn := hA.2.2.2.2.2
  obtain ⟨w0, w1, w2, w3, w4, w5, w6, w7, w8, w9, w10, w11, w12, w13⟩ := id hw
  have be := isB_b hX.2.2.2.2.2.2.2.2.1.2.1
  have bb := isB_b hX.2.2.2.2.2.2.2.2.1.1
  have hcm : 0 ≤ (PF c n s).2.2.2.1 := pfm_cm n.toNat (by omega)
  have hae : aPlay c n s ≤ -1000001 → tPlay c n s = s := fun z => by
    unfold aPlay at z
    unfold tPlay
    by_cases y : (PF c n s).2.1 = 0
    · rw [if_pos y] at z; omega
    · rw [if_neg y]
  refine R_aload_n fX7_play_0 rfl ?_
  refine R_getP 2 fX7_play_1 hX.1 (by omega) rfl rfl rfl hX.2.1.2.2.1 ?_
  refine R_aload_n fX7_play_4 rfl ?_
  refine R_callP fX7_play_5 rfl rfl pX7_freshDraft rfl ⟨Nat.le_of_ble_eq_true rfl, rcv_v rfl (by omega) hX.1⟩ (sp_freshDraft (by omega) hX hR hw) (fun v_ F1 P1 q => ?_)
  obtain ⟨rfl, rfl, q3, q4⟩ := q
  have hD1 := DX_e hX hD (by omega) (fun k k1 _ => q4 k k1)
  refine R_aload_n fX7_play_8 rfl ?_
  refine R_getP 3 fX7_play_9 hX.1 (by omega) rfl rfl rfl hX.2.1.2.2.2.1 ?_
  refine R_callN fX7_play_12 rfl rfl pX6_perform rfl ⟨Nat.le_of_ble_eq_true rfl, rcv_v rfl (by omega) hX.2.2.2.2.2.1.2.1⟩ (sp_perform (by omega) hX.2.2.2.2.2.1 hSe hX.2.2.2.2.2.2.1 (by omega) (by omega) (by omega) ⟨hD1.2.2.2.2.2.1, hnn⟩ hD1.2.2.2.2.2.2.1 q3 hw h2) (fun F2 z => ?_)
  obtain ⟨z2, z3, z4, z5, zR, z1, zf⟩ := z
  have hD2 : DX F2 b h s m σ hs sn n c := DX_frame hX hD1 (by omega) (fun k k1 k2 k3 k4 => zf k k2 k1 k3) (by rw [z1]; exact hD1.2.2.2.2.2.1.symm)
  have hfr : ∀ k, (k < 3 ∨ 128 ≤ k) → F2 k = F k := fun k hk => by rw [zf k (by omega) (by omega) (by omega)]; exact q4 k (by omega)
  refine R_aload_n fX7_play_15 rfl ?_
  refine R_getP 2 fX7_play_16 hX.1 (by omega) rfl rfl rfl hX.2.1.2.2.1 ?_
  refine R_getI 3 fX7_play_19 hX.2.2.2.2.2.1.2.1 (by omega) rfl rfl rfl ?_
  refine R_if_ne fX7_play_22 rfl (fun h22 => ?_) (fun h22 => ?_)
  · refine R_ldc fX7_play_39 ?_
    refine R_ireturn fX7_play_41 rfl ?_
    first
    | (have hre : (PF c n s).2.1 = 0 := z3.symm.trans h22
       have ha : aPlay c n s = (PF c n s).2.2.2.1 := by unfold aPlay; rw [if_pos hre]
       have ht : tPlay c n s = (PF c n s).2.2.2.2 := by unfold tPlay; rw [if_pos hre]
       exact ⟨_, _, _, rfl, ha.symm, tW hae (by rw [ha, ht]; exact y2), FR_tr (fun k hk => ⟨hfr k hk, rfl⟩) y3⟩)
    | (have hre : ¬ (PF c n s).2.1 = 0 := fun z => h22 (z3.trans z)
       have ha : aPlay c n s = -1000002 := by unfold aPlay; rw [if_neg hre]
       exact ⟨_, _, _, rfl, ha.symm, tW hae (by rw [if_pos (by omega)]; exact ⟨b, _, h, hX, hD2⟩), fun k hk => ⟨hfr k hk, rfl⟩⟩)
  · refine R_aload_n fX7_play_25 rfl ?_
    refine R_aload_n fX7_play_26 rfl ?_
    refine R_getP 2 fX7_play_27 hX.1 (by omega) rfl rfl rfl hX.2.1.2.2.1 ?_
    refine R_getI 5 fX7_play_30 hX.2.2.2.2.2.1.2.1 (by omega) rfl rfl rfl ?_
    rw [z5]
    refine R_callI fX7_play_33 rfl rfl pX7_adopt rfl ⟨Nat.le_of_ble_eq_true rfl, rcv_v rfl (by omega) hX.1⟩ (sp_adopt (by omega) hX hD2 hm (fun _ => zR)) (fun r F3 P3 y => ?_)
    obtain ⟨y1, y2, y3⟩ := y
    subst y1
    refine R_goto fX7_play_36 rfl ?_
    refine R_ireturn fX7_play_41 rfl ?_
    first
    | (have hre : (PF c n s).2.1 = 0 := z3.symm.trans h22
       have ha : aPlay c n s = (PF c n s).2.2.2.1 := by unfold aPlay; rw [if_pos hre]
       have ht : tPlay c n s = (PF c n s).2.2.2.2 := by unfold tPlay; rw [if_pos hre]
       exact ⟨_, _, _, rfl, ha.symm, tW hae (by rw [ha, ht]; exact y2), FR_tr (fun k hk => ⟨hfr k hk, rfl⟩) y3⟩)
    | (have hre : ¬ (PF c n s).2.1 = 0 := fun z => h22 (z3.trans z)
       have ha : aPlay c n s = -1000002 := by unfold aPlay; rw [if_neg hre]
       exact ⟨_, _, _, rfl, ha.symm, tW hae (by rw [if_pos (by omega)]; exact ⟨b, _, h, hX, hD2⟩), fun k hk => ⟨hfr k hk, rfl⟩⟩)
