/-! ## the class's calls: changes -/
def tm (a m : Int) : Int := if a ≤ -1000001 then m else pmN m
def tσ (a m : Int) (σ : Int → Int → Int) (s : Int → Int) : Int → Int → Int := if a ≤ -1000001 then σ else pmS m σ s
theorem tW {kd : KL} {F : FM} {P : PM} {s t : Int → Int} {m : Int} {σ : Int → Int → Int} {hs : Int} {sn : Int → Int} {n : Int} {c : Int → Int} {a : Int} (he : a ≤ -1000001 → t = s) (h : if a ≤ -1000001 then CW kd F P s m σ hs sn n c else CW kd F P t (pmN m) (pmS m σ s) hs sn n c) : CW kd F P t (tm a m) (tσ a m σ s) hs sn n c := by
  unfold tm tσ
  by_cases z : a ≤ -1000001
  · rw [if_pos z] at h
    rw [if_pos z, if_pos z, he z]; exact h
  · rw [if_neg z] at h
    rw [if_neg z, if_neg z]; exact h
theorem FR_tr {F F' F'' : FM} {P P' P'' : PM} (h : FR F F' P P') (h2 : FR F' F'' P' P'') : FR F F'' P P'' := fun k hk => ⟨by rw [(h2 k hk).1, (h k hk).1], by rw [(h2 k hk).2, (h k hk).2]⟩
theorem aLot_e {s : Int → Int} {v : Int} (hw : WF s) (h : aLot s v ≤ -1000001) : tLot s v = s := by
  have := hw.2.1
  unfold aLot at h
  unfold tLot
  split
  · rfl
  · next z =>
    rw [if_neg z] at h
    split
    · rfl
    · next y => rw [if_neg y] at h; omega
theorem bids_nn {s : Int → Int} : 0 ≤ bidsS s := by
  have h := sg_bound (f := fun p => if s (126 + 6 * p + 2) = -1 then 0 else 1) (a := 0) (b := 1) (n := (s 0).toNat) (fun i _ _ => by show 0 ≤ (if s (126 + 6 * i + 2) = -1 then (0 : Int) else 1) ∧ (if s (126 + 6 * i + 2) = -1 then (0 : Int) else 1) ≤ 1; split <;> omega)
  unfold bidsS
  omega
theorem aBid_e {s : Int → Int} {p c : Int} (h : aBid s p c ≤ -1000001) : tBid s p c = s := by
  unfold aBid at h
  unfold tBid
  split
  · rfl
  · next z =>
    rw [if_neg z] at h
    split
    · rfl
    · next y => rw [if_neg y] at h; have := bids_nn (s := bidS s p c); omega
theorem aSet_e {s : Int → Int} {w v : Int} (hw : WF s) (h : aSet s w v ≤ -1000001) : tSet s w v = s := by
  have h4 := hw.2.2.2.2.1
  unfold aSet at h
  unfold tSet
  by_cases z : w < 0 ∨ 2 < w
  · rw [if_pos z]
  · rw [if_neg z] at h ⊢
    by_cases y : v < 0 ∨ (if w = 2 then 1 else 5) < v
    · rw [if_pos y]
    · rw [if_neg y] at h
      rcases (by omega : w = 0 ∨ w = 1 ∨ w = 2) with rfl | rfl | rfl
      · rw [Int.add_zero] at h; omega
      · rw [show (26 : Int) + 1 = 27 by omega] at h; omega
      · rw [show (26 : Int) + 2 = 28 by omega] at h; omega
theorem aRes_e {s : Int → Int} (hw : WF s) (h : aRes s ≤ -1000001) : tRes s = s := by
  have := wnS_in hw
  unfold aRes at h
  unfold tRes
  split
  · rfl
  · next z => rw [if_neg z] at h; omega
theorem coins_nn {s : Int → Int} (hw : WF s) : 0 ≤ coinsS s := by
  have h0 := hw.1
  have h := sg_bound (f := fun p => s (126 + 6 * p)) (a := 0) (b := 120) (n := (s 0).toNat) (fun i a b => ⟨(hw.2.2.2.1 i a (by omega)).1, (hw.2.2.2.1 i a (by omega)).2.1⟩)
  have := hw.2.2.1
  unfold coinsS
  omega
theorem aBeg_e {s : Int → Int} {n c : Int} (hw : WF s) (h : aBeg s n c ≤ -1000001) : tBeg s n c = s := by
  unfold aBeg at h
  unfold tBeg
  split
  · rfl
  · next z =>
    rw [if_neg z] at h
    split
    · rfl
    · next y =>
      rw [if_neg y] at h
      have := coins_nn (WF_begin (n := n) (c := c) hw.2.2.2.2.1 hw.2.2.2.2.2.2.2.2.2.2.2.2.2 (by omega) (by omega))
      omega
/-- the draft, worked upon, leaves the data -/
theorem DX_e {kd : KL} {P : PM} {b e : Nat} {h : Int → Nat} {F F' : FM} {s : Int → Int} {m : Int} {σ : Int → Int → Int} {hs : Int} {sn : Int → Int} {n : Int} {c : Int → Int} (hX : shX kd P b e h) (hD : DX F b h s m σ hs sn n c) (hm : m ≤ 4) (hF : ∀ k, (k < e ∨ e + 16 ≤ k) → (k < 88 ∨ 91 ≤ k) → F' k = F k) : DX F' b h s m σ hs sn n c := by
  have be := isB_b hX.2.2.2.2.2.2.2.2.1.2.1
  exact DX_frame hX hD hm (fun k k1 k2 k3 k4 => hF k k1 k3) (by rw [hF 86 (by omega) (by omega)])
theorem sp_xlot {d : Nat} {kd : KL} {F : FM} {P : PM} {s : Int → Int} {m : Int} {σ : Int → Int → Int} {hs : Int} {sn : Int → Int} {n : Int} {c : Int → Int} {v : Int} (hd : 6 ≤ d) (hW : CW kd F P s m σ hs sn n c) (hA : AW s m σ hs sn n)  : Sp d 62 [.inr (some 3), .inl v] kd F P (QI kd (fun r F' P' => r = aLot s v ∧ CW kd F' P' (tLot s v) (tm (aLot s v) m) (tσ (aLot s v) m σ s) (hs) (sn) (n) (c) ∧ FR F F' P P')) := by
  obtain ⟨b, e, h, hX, hD⟩ := hW
  refine Sp_of (me := mX7_lot) (by omega) pX7_lot ⟨rfl, Nat.le_of_ble_eq_true rfl⟩ ?_
  have hSb := shX_b hX
  have hSe := shX_e hX
  have hSn := shX_n hX
  have hw := hA.1
  have hR := hD.1
  have hm := hA.2.1
  have hsh := hA.2.2.2.1
  have hnn := hA.2.2.2.2.2
  obtain ⟨w0, w1, w2, w3, w4, w5, w6, w7, w8, w9, w10, w11, w12, w13⟩ := id hw
  have be := isB_b hX.2.2.2.2.2.2.2.2.1.2.1
  have bb := isB_b hX.2.2.2.2.2.2.2.2.1.1
  refine R_aload_n fX7_lot_0 rfl ?_
  refine R_aload_n fX7_lot_1 rfl ?_
  refine R_callP fX7_lot_2 rfl rfl pX7_freshDraft rfl ⟨Nat.le_of_ble_eq_true rfl, rcv_v rfl (by omega) hX.1⟩ (sp_freshDraft (by omega) hX hR hw) (fun v_ F1 P1 q => ?_)
  obtain ⟨rfl, rfl, q3, q4⟩ := q
  have hD1 := DX_e hX hD (by omega) (fun k k1 _ => q4 k k1)
  refine R_iload_n fX7_lot_5 rfl ?_
  refine R_callV fX7_lot_6 rfl rfl pX5_addLot rfl ⟨Nat.le_of_ble_eq_true rfl, rcv_v rfl (shS_3 hSe 0) (shS_k0 hSe)⟩ (sp_addLot (by omega) hSe q3 hw) (fun r F2 z => ?_)
  obtain ⟨hz, hR2, z3⟩ := z
  have hD2 := DX_e hX hD1 (by omega) (fun k k1 _ => z3 k k1)
  have hfr : ∀ k, (k < 3 ∨ 128 ≤ k) → F2 k = F k := fun k hk => by rw [z3 k (by omega)]; exact q4 k (by omega)
  refine R_callI fX7_lot_9 rfl rfl pX7_adopt rfl ⟨Nat.le_of_ble_eq_true rfl, rcv_v rfl (by omega) hX.1⟩ (sp_adopt (by omega) hX hD2 hm (fun _ => hR2)) (fun r F3 P3 y => ?_)
  obtain ⟨y1, y2, y3⟩ := y
  subst y1
  refine R_ireturn fX7_lot_12 rfl ?_
  exact ⟨_, _, _, rfl, hz, by rw [hz] at y2; exact tW (fun z => aLot_e hw z) y2, FR_tr (fun k hk => ⟨hfr k hk, rfl⟩) y3⟩
theorem sp_xbid {d : Nat} {kd : KL} {F : FM} {P : PM} {s : Int → Int} {m : Int} {σ : Int → Int → Int} {hs : Int} {sn : Int → Int} {n : Int} {c : Int → Int} {p v : Int} (hd : 6 ≤ d) (hW : CW kd F P s m σ hs sn n c) (hA : AW s m σ hs sn n)  : Sp d 63 [.inr (some 3), .inl p, .inl v] kd F P (QI kd (fun r F' P' => r = aBid s p v ∧ CW kd F' P' (tBid s p v) (tm (aBid s p v) m) (tσ (aBid s p v) m σ s) (hs) (sn) (n) (c) ∧ FR F F' P P')) := by
  obtain ⟨b, e, h, hX, hD⟩ := hW
  refine Sp_of (me := mX7_bid) (by omega) pX7_bid ⟨rfl, Nat.le_of_ble_eq_true rfl⟩ ?_
  have hSb := shX_b hX
  have hSe := shX_e hX
  have hSn := shX_n hX
  have hw := hA.1
  have hR := hD.1
  have hm := hA.2.1
  have hsh := hA.2.2.2.1
  have hnn := hA.2.2.2.2.2
  obtain ⟨w0, w1, w2, w3, w4, w5, w6, w7, w8, w9, w10, w11, w12, w13⟩ := id hw
  have be := isB_b hX.2.2.2.2.2.2.2.2.1.2.1
  have bb := isB_b hX.2.2.2.2.2.2.2.2.1.1
  refine R_aload_n fX7_bid_0 rfl ?_
  refine R_aload_n fX7_bid_1 rfl ?_
  refine R_callP fX7_bid_2 rfl rfl pX7_freshDraft rfl ⟨Nat.le_of_ble_eq_true rfl, rcv_v rfl (by omega) hX.1⟩ (sp_freshDraft (by omega) hX hR hw) (fun v_ F1 P1 q => ?_)
  obtain ⟨rfl, rfl, q3, q4⟩ := q
  have hD1 := DX_e hX hD (by omega) (fun k k1 _ => q4 k k1)
  refine R_iload_n fX7_bid_5 rfl ?_
  refine R_iload_n fX7_bid_6 rfl ?_
  refine R_callV fX7_bid_7 rfl rfl pX5_makeBid rfl ⟨Nat.le_of_ble_eq_true rfl, rcv_v rfl (shS_3 hSe 0) (shS_k0 hSe)⟩ (sp_makeBid (by omega) hSe q3 hw) (fun r F2 z => ?_)
  obtain ⟨hz, hR2, z3⟩ := z
  have hD2 := DX_e hX hD1 (by omega) (fun k k1 _ => z3 k k1)
  have hfr : ∀ k, (k < 3 ∨ 128 ≤ k) → F2 k = F k := fun k hk => by rw [z3 k (by omega)]; exact q4 k (by omega)
  refine R_callI fX7_bid_10 rfl rfl pX7_adopt rfl ⟨Nat.le_of_ble_eq_true rfl, rcv_v rfl (by omega) hX.1⟩ (sp_adopt (by omega) hX hD2 hm (fun _ => hR2)) (fun r F3 P3 y => ?_)
  obtain ⟨y1, y2, y3⟩ := y
  subst y1
  refine R_ireturn fX7_bid_13 rfl ?_
  exact ⟨_, _, _, rfl, hz, by rw [hz] at y2; exact tW (fun z => aBid_e z) y2, FR_tr (fun k hk => ⟨hfr k hk, rfl⟩) y3⟩
theorem sp_xset {d : Nat} {kd : KL} {F : FM} {P : PM} {s : Int → Int} {m : Int} {σ : Int → Int → Int} {hs : Int} {sn : Int → Int} {n : Int} {c : Int → Int} {p v : Int} (hd : 6 ≤ d) (hW : CW kd F P s m σ hs sn n c) (hA : AW s m σ hs sn n)  : Sp d 65 [.inr (some 3), .inl p, .inl v] kd F P (QI kd (fun r F' P' => r = aSet s p v ∧ CW kd F' P' (tSet s p v) (tm (aSet s p v) m) (tσ (aSet s p v) m σ s) (hs) (sn) (n) (c) ∧ FR F F' P P')) := by
  obtain ⟨b, e, h, hX, hD⟩ := hW
  refine Sp_of (me := mX7_set) (by omega) pX7_set ⟨rfl, Nat.le_of_ble_eq_true rfl⟩ ?_
  have hSb := shX_b hX
  have hSe := shX_e hX
  have hSn := shX_n hX
  have hw := hA.1
  have hR := hD.1
  have hm := hA.2.1
  have hsh := hA.2.2.2.1
  have hnn := hA.2.2.2.2.2
  obtain ⟨w0, w1, w2, w3, w4, w5, w6, w7, w8, w9, w10, w11, w12, w13⟩ := id hw
  have be := isB_b hX.2.2.2.2.2.2.2.2.1.2.1
  have bb := isB_b hX.2.2.2.2.2.2.2.2.1.1
  refine R_aload_n fX7_set_0 rfl ?_
  refine R_aload_n fX7_set_1 rfl ?_
  refine R_callP fX7_set_2 rfl rfl pX7_freshDraft rfl ⟨Nat.le_of_ble_eq_true rfl, rcv_v rfl (by omega) hX.1⟩ (sp_freshDraft (by omega) hX hR hw) (fun v_ F1 P1 q => ?_)
  obtain ⟨rfl, rfl, q3, q4⟩ := q
  have hD1 := DX_e hX hD (by omega) (fun k k1 _ => q4 k k1)
  refine R_iload_n fX7_set_5 rfl ?_
  refine R_iload_n fX7_set_6 rfl ?_
  refine R_callV fX7_set_7 rfl rfl pX5_changeSetting rfl ⟨Nat.le_of_ble_eq_true rfl, rcv_v rfl (shS_3 hSe 0) (shS_k0 hSe)⟩ (sp_changeSetting (by omega) hSe q3 hw ⟨hX.2.2.2.2.2.2.2.2.2.2.2, hD1.2.2.2.2.2.2.2⟩) (fun r F2 z => ?_)
  obtain ⟨hz, hR2, z3⟩ := z
  have hD2 := DX_e hX hD1 (by omega) (fun k k1 _ => z3 k k1)
  have hfr : ∀ k, (k < 3 ∨ 128 ≤ k) → F2 k = F k := fun k hk => by rw [z3 k (by omega)]; exact q4 k (by omega)
  refine R_callI fX7_set_10 rfl rfl pX7_adopt rfl ⟨Nat.le_of_ble_eq_true rfl, rcv_v rfl (by omega) hX.1⟩ (sp_adopt (by omega) hX hD2 hm (fun _ => hR2)) (fun r F3 P3 y => ?_)
  obtain ⟨y1, y2, y3⟩ := y
  subst y1
  refine R_ireturn fX7_set_13 rfl ?_
  exact ⟨_, _, _, rfl, hz, by rw [hz] at y2; exact tW (fun z => aSet_e hw z) y2, FR_tr (fun k hk => ⟨hfr k hk, rfl⟩) y3⟩
theorem sp_xbegin {d : Nat} {kd : KL} {F : FM} {P : PM} {s : Int → Int} {m : Int} {σ : Int → Int → Int} {hs : Int} {sn : Int → Int} {n : Int} {c : Int → Int} {p v : Int} (hd : 6 ≤ d) (hW : CW kd F P s m σ hs sn n c) (hA : AW s m σ hs sn n)  : Sp d 61 [.inr (some 3), .inl p, .inl v] kd F P (QI kd (fun r F' P' => r = aBeg s p v ∧ CW kd F' P' (tBeg s p v) (tm (aBeg s p v) m) (tσ (aBeg s p v) m σ s) (hs) (sn) (n) (c) ∧ FR F F' P P')) := by
  obtain ⟨b, e, h, hX, hD⟩ := hW
  refine Sp_of (me := mX7_begin) (by omega) pX7_begin ⟨rfl, Nat.le_of_ble_eq_true rfl⟩ ?_
  have hSb := shX_b hX
  have hSe := shX_e hX
  have hSn := shX_n hX
  have hw := hA.1
  have hR := hD.1
  have hm := hA.2.1
  have hsh := hA.2.2.2.1
  have hnn := hA.2.2.2.2.2
  obtain ⟨w0, w1, w2, w3, w4, w5, w6, w7, w8, w9, w10, w11, w12, w13⟩ := id hw
  have be := isB_b hX.2.2.2.2.2.2.2.2.1.2.1
  have bb := isB_b hX.2.2.2.2.2.2.2.2.1.1
  refine R_aload_n fX7_begin_0 rfl ?_
  refine R_aload_n fX7_begin_1 rfl ?_
  refine R_callP fX7_begin_2 rfl rfl pX7_freshDraft rfl ⟨Nat.le_of_ble_eq_true rfl, rcv_v rfl (by omega) hX.1⟩ (sp_freshDraft (by omega) hX hR hw) (fun v_ F1 P1 q => ?_)
  obtain ⟨rfl, rfl, q3, q4⟩ := q
  have hD1 := DX_e hX hD (by omega) (fun k k1 _ => q4 k k1)
  refine R_iload_n fX7_begin_5 rfl ?_
  refine R_iload_n fX7_begin_6 rfl ?_
  refine R_callV fX7_begin_7 rfl rfl pX5_startGame rfl ⟨Nat.le_of_ble_eq_true rfl, rcv_v rfl (shS_3 hSe 0) (shS_k0 hSe)⟩ (sp_startGame (by omega) hSe q3.2.2.2.2.2.2.2.2.1 w4 w13) (fun r F2 z => ?_)
  obtain ⟨hz, hR2x, z3⟩ := z
  have hR2 : Rel v_ F2 (tBeg s p v) := by
    unfold tBeg
    split at hR2x
    · next y => rw [if_pos y, hR2x]; exact q3
    · next y =>
      rw [if_neg y]
      split at hR2x
      · next x => rw [if_pos x, hR2x]; exact q3
      · next x => rw [if_neg x]; exact hR2x
  have hD2 := DX_e hX hD1 (by omega) (fun k k1 _ => z3 k k1)
  have hfr : ∀ k, (k < 3 ∨ 128 ≤ k) → F2 k = F k := fun k hk => by rw [z3 k (by omega)]; exact q4 k (by omega)
  refine R_callI fX7_begin_10 rfl rfl pX7_adopt rfl ⟨Nat.le_of_ble_eq_true rfl, rcv_v rfl (by omega) hX.1⟩ (sp_adopt (by omega) hX hD2 hm (fun _ => hR2)) (fun r F3 P3 y => ?_)
  obtain ⟨y1, y2, y3⟩ := y
  subst y1
  refine R_ireturn fX7_begin_13 rfl ?_
  exact ⟨_, _, _, rfl, hz, by rw [hz] at y2; exact tW (fun z => aBeg_e hw z) y2, FR_tr (fun k hk => ⟨hfr k hk, rfl⟩) y3⟩
theorem sp_xresolve {d : Nat} {kd : KL} {F : FM} {P : PM} {s : Int → Int} {m : Int} {σ : Int → Int → Int} {hs : Int} {sn : Int → Int} {n : Int} {c : Int → Int}  (hd : 6 ≤ d) (hW : CW kd F P s m σ hs sn n c) (hA : AW s m σ hs sn n) (h2 : s 2 < 20000) : Sp d 64 [.inr (some 3)] kd F P (QI kd (fun r F' P' => r = aRes s ∧ CW kd F' P' (tRes s) (tm (aRes s) m) (tσ (aRes s) m σ s) (hs) (sn) (n) (c) ∧ FR F F' P P')) := by
  obtain ⟨b, e, h, hX, hD⟩ := hW
  refine Sp_of (me := mX7_resolve) (by omega) pX7_resolve ⟨rfl, Nat.le_of_ble_eq_true rfl⟩ ?_
  have hSb := shX_b hX
  have hSe := shX_e hX
  have hSn := shX_n hX
  have hw := hA.1
  have hR := hD.1
  have hm := hA.2.1
  have hsh := hA.2.2.2.1
  have hnn := hA.2.2.2.2.2
  obtain ⟨w0, w1, w2, w3, w4, w5, w6, w7, w8, w9, w10, w11, w12, w13⟩ := id hw
  have be := isB_b hX.2.2.2.2.2.2.2.2.1.2.1
  have bb := isB_b hX.2.2.2.2.2.2.2.2.1.1
  refine R_aload_n fX7_resolve_0 rfl ?_
  refine R_aload_n fX7_resolve_1 rfl ?_
  refine R_callP fX7_resolve_2 rfl rfl pX7_freshDraft rfl ⟨Nat.le_of_ble_eq_true rfl, rcv_v rfl (by omega) hX.1⟩ (sp_freshDraft (by omega) hX hR hw) (fun v_ F1 P1 q => ?_)
  obtain ⟨rfl, rfl, q3, q4⟩ := q
  have hD1 := DX_e hX hD (by omega) (fun k k1 _ => q4 k k1)
  refine R_aload_n fX7_resolve_5 rfl ?_
  refine R_getP 3 fX7_resolve_6 hX.1 (by omega) rfl rfl rfl hX.2.1.2.2.2.1 ?_
  refine R_callV fX7_resolve_9 rfl rfl pX5_settle rfl ⟨Nat.le_of_ble_eq_true rfl, rcv_v rfl (shS_3 hSe 0) (shS_k0 hSe)⟩ (sp_settle (by omega) hSe q3 hw hX.2.2.2.2.2.2.1 (by omega) h2) (fun r F2 z => ?_)
  obtain ⟨hz, hR2, z3⟩ := z
  have hD2 := DX_e hX hD1 (by omega) (fun k k1 k2 => z3 k k1 k2)
  have hfr : ∀ k, (k < 3 ∨ 128 ≤ k) → F2 k = F k := fun k hk => by rw [z3 k (by omega) (by omega)]; exact q4 k (by omega)
  refine R_callI fX7_resolve_12 rfl rfl pX7_adopt rfl ⟨Nat.le_of_ble_eq_true rfl, rcv_v rfl (by omega) hX.1⟩ (sp_adopt (by omega) hX hD2 hm (fun _ => hR2)) (fun r F3 P3 y => ?_)
  obtain ⟨y1, y2, y3⟩ := y
  subst y1
  refine R_ireturn fX7_resolve_15 rfl ?_
  exact ⟨_, _, _, rfl, hz, by rw [hz] at y2; exact tW (fun z => aRes_e hw z) y2, FR_tr (fun k hk => ⟨hfr k hk, rfl⟩) y3⟩
