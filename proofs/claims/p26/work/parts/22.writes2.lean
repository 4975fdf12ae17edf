def aLot (s : Int → Int) (v : Int) : Int := if v < -9 ∨ 20 < v then -1000001 else if 20 ≤ s 25 + s 4 then -1000003 else s 4 + 1
def tLot (s : Int → Int) (v : Int) : Int → Int := if v < -9 ∨ 20 < v then s else if 20 ≤ s 25 + s 4 then s else lotS s v
def aBid (s : Int → Int) (p c : Int) : Int := if ¬ (0 ≤ p ∧ p < s 0) ∨ c < 0 then -1000001 else if s 4 = 0 ∨ s (126 + 6 * p) < c then -1000002 else bidsS (bidS s p c)
def tBid (s : Int → Int) (p c : Int) : Int → Int := if ¬ (0 ≤ p ∧ p < s 0) ∨ c < 0 then s else if s 4 = 0 ∨ s (126 + 6 * p) < c then s else bidS s p c
def aSet (s : Int → Int) (w v : Int) : Int := if w < 0 ∨ 2 < w then -1000001 else if v < 0 ∨ (if w = 2 then 1 else 5) < v then -1000001 else s (26 + w)
def tSet (s : Int → Int) (w v : Int) : Int → Int := if w < 0 ∨ 2 < w then s else if v < 0 ∨ (if w = 2 then 1 else 5) < v then s else setS s w v
def aBeg (s : Int → Int) (n c : Int) : Int := if n < 2 ∨ 4 < n then -1000001 else if c < 0 ∨ 30 < c then -1000001 else coinsS (beginS s n c)
def tBeg (s : Int → Int) (n c : Int) : Int → Int := if n < 2 ∨ 4 < n then s else if c < 0 ∨ 30 < c then s else beginS s n c
theorem WF_tLot {s : Int → Int} {v : Int} (hw : WF s) : WF (tLot s v) := by
  have := hw.2.1
  unfold tLot
  split
  · exact hw
  · split
    · exact hw
    · exact WF_lot hw (by omega) (by omega)
theorem WF_tBid {s : Int → Int} {p c : Int} (hw : WF s) : WF (tBid s p c) := by
  unfold tBid
  split
  · exact hw
  · split
    · exact hw
    · exact WF_bid hw (by omega) (by omega)
theorem WF_tSet {s : Int → Int} {w v : Int} (hw : WF s) : WF (tSet s w v) := by
  unfold tSet
  by_cases h1 : w < 0 ∨ 2 < w
  · rw [if_pos h1]; exact hw
  · rw [if_neg h1]
    by_cases h2 : v < 0 ∨ (if w = 2 then 1 else 5) < v
    · rw [if_pos h2]; exact hw
    · rw [if_neg h2]; exact WF_set hw (by omega) ⟨by omega, by omega⟩
theorem WF_tBeg {s : Int → Int} {n c : Int} (hw : WF s) : WF (tBeg s n c) := by
  unfold tBeg
  split
  · exact hw
  · split
    · exact hw
    · exact WF_begin hw.2.2.2.2.1 hw.2.2.2.2.2.2.2.2.2.2.2.2.2 (by omega) (by omega)
theorem lot_4 {s : Int → Int} {v : Int} : lotS s v 4 = s 4 + 1 := by unfold lotS; rw [up_eq]
theorem lot_v {s : Int → Int} {v : Int} (h : 0 ≤ s 4) : lotS s v (5 + s 4) = v := by unfold lotS; rw [up_ne _ _ (by omega), up_eq]
theorem lot_o {s : Int → Int} {v j : Int} (a : j ≠ 4) (b : j ≠ 5 + s 4) : lotS s v j = s j := by unfold lotS; rw [up_ne _ _ a, up_ne _ _ b]
theorem bid_v {s : Int → Int} {p c : Int} : bidS s p c (126 + 6 * p + 2) = c := by unfold bidS; rw [up_eq]
theorem bid_o {s : Int → Int} {p c j : Int} (a : j ≠ 126 + 6 * p + 2) : bidS s p c j = s j := by unfold bidS; rw [up_ne _ _ a]
theorem set_v {s : Int → Int} {w v : Int} : setS s w v (26 + w) = v := by unfold setS; rw [up_eq]
theorem set_o {s : Int → Int} {w v j : Int} (a : j ≠ 26 + w) : setS s w v j = s j := by unfold setS; rw [up_ne _ _ a]
theorem sp_addLot {d : Nat} {kd : KL} {F : FM} {P : PM} {B : Nat} {s : Int → Int} {v : Int} (hd : 1 ≤ d) (hS : shS kd P B) (hR : Rel B F s) (hw : WF s) : Sp d 31 [.inr (some B), .inl v] kd F P (QV kd P (fun r F' => r = aLot s v ∧ Rel B F' (tLot s v) ∧ ∀ k, (k < B ∨ B + 16 ≤ k) → F' k = F k)) := by
  refine Sp_of (me := mX5_addLot) (by omega) pX5_addLot ⟨rfl, Nat.le_of_ble_eq_true rfl⟩ ?_
  obtain ⟨r0, r1, r2, r3, r4, r5, r6, rp, rse, rt, rl, rg1, rg2, rg, rn, rr⟩ := id hR
  obtain ⟨w0, w1, w2, w3, w4, w5, w6, w7, w8, w9, w10, w11, w12, w13⟩ := id hw
  refine R_iload_n fX5_addLot_0 rfl ?_
  refine R_bipush fX5_addLot_1 ?_
  refine R_icmp_lt fX5_addLot_3 rfl (fun h3 => ?_) (fun h3 => ?_)
  · refine R_ldc fX5_addLot_12 ?_
    refine R_ireturn fX5_addLot_14 rfl ?_
    refine ⟨_, _, rfl, by unfold aLot; rw [if_pos (by omega)], ?_, fun _ _ => rfl⟩
    unfold tLot; rw [if_pos (by omega)]; exact hR
  · refine R_iload_n fX5_addLot_6 rfl ?_
    refine R_bipush fX5_addLot_7 ?_
    refine R_icmp_le fX5_addLot_9 rfl (fun h9 => ?_) (fun h9 => ?_)
    · refine R_aload_n fX5_addLot_15 rfl ?_
      refine R_getI 4 fX5_addLot_16 (shS_k0 hS) (shS_3 hS 0) rfl rfl rfl ?_
      refine R_aload_n fX5_addLot_19 rfl ?_
      refine R_getI 6 fX5_addLot_20 (shS_k0 hS) (shS_3 hS 0) rfl rfl rfl ?_
      refine R_iadd fX5_addLot_23 (by omega) ?_
      refine R_bipush fX5_addLot_24 ?_
      refine R_icmp_lt fX5_addLot_26 rfl (fun h26 => ?_) (fun h26 => ?_)
      · refine R_aload_n fX5_addLot_32 rfl ?_
        refine R_getP 14 fX5_addLot_33 (shS_k0 hS) (shS_3 hS 0) rfl rfl rfl (shS_p14 hS) ?_
        refine R_aload_n fX5_addLot_36 rfl ?_
        refine R_getI 4 fX5_addLot_37 (shS_k0 hS) (shS_3 hS 0) rfl rfl rfl ?_
        refine R_aload_n fX5_addLot_40 rfl ?_
        refine R_getI 6 fX5_addLot_41 (shS_k0 hS) (shS_3 hS 0) rfl rfl rfl ?_
        refine R_iadd fX5_addLot_44 (by omega) ?_
        refine R_iload_n fX5_addLot_45 rfl ?_
        refine R_iastore fX5_addLot_46 (shS_k8 hS) (shS_3 hS 8) (by omega) ?_
        refine R_aload_n fX5_addLot_47 rfl ?_
        refine R_dup fX5_addLot_48 ?_
        refine R_getI 6 fX5_addLot_49 (shS_k0 hS) (shS_3 hS 0) rfl rfl rfl ?_
        refine R_iconst fX5_addLot_52 ?_
        refine R_iadd fX5_addLot_53 (by simp (disch := omega) only [cpF_k, stt_k, stt_j, stt_eq]; omega) ?_
        refine R_putI 6 fX5_addLot_54 (shS_k0 hS) (shS_3 hS 0) rfl rfl rfl ?_
        refine R_aload_n fX5_addLot_57 rfl ?_
        refine R_getI 6 fX5_addLot_58 (shS_k0 hS) (shS_3 hS 0) rfl rfl rfl ?_
        refine R_ireturn fX5_addLot_61 rfl ?_
        have hq1 : ¬ (v < -9 ∨ 20 < v) := by omega
        have hq2 : ¬ (20 ≤ s 25 + s 4) := by omega
        have eo : ∀ j, j ≠ 4 → j ≠ 5 + s 4 → lotS s v j = s j := fun j a b => lot_o a b
        refine ⟨_, _, rfl, ?_, ?_, fun k hk => ?_⟩
        · unfold aLot
          rw [if_neg hq1, if_neg hq2]
          simp (disch := omega) only [cpF_k, stt_k, stt_j, stt_eq]
          omega
        · unfold tLot
          rw [if_neg hq1, if_neg hq2]
          refine ⟨?_, ?_, ?_, ?_, ?_, ?_, ?_, fun p p0 p1 => ?_, fun k k0 k1 => ?_, fun k k0 k1 => ?_, fun k k0 k1 => ?_, ?_, ?_, fun b j b0 b1 j0 j1 => ?_, ?_, fun i i0 i1 => ?_⟩
          · rw [eo 0 (by omega) (by omega)]; (try simp (disch := omega) only [cpF_k, stt_k, stt_j, stt_eq]); exact r0
          · rw [eo 1 (by omega) (by omega)]; (try simp (disch := omega) only [cpF_k, stt_k, stt_j, stt_eq]); exact r1
          · rw [eo 2 (by omega) (by omega)]; (try simp (disch := omega) only [cpF_k, stt_k, stt_j, stt_eq]); exact r2
          · rw [eo 3 (by omega) (by omega)]; (try simp (disch := omega) only [cpF_k, stt_k, stt_j, stt_eq]); exact r3
          · rw [eo 25 (by omega) (by omega)]; (try simp (disch := omega) only [cpF_k, stt_k, stt_j, stt_eq]); exact r4
          · rw [tabS_congr (eo 25 (by omega) (by omega)) (fun k k0 k1 => eo _ (by omega) (by omega))]; (try simp (disch := omega) only [cpF_k, stt_k, stt_j, stt_eq]); exact r5
          · rw [lot_4]; simp (disch := omega) only [cpF_k, stt_k, stt_j, stt_eq]; omega
          · rw [eo _ (by omega) (by omega), eo _ (by omega) (by omega), eo _ (by omega) (by omega), eo _ (by omega) (by omega), eo _ (by omega) (by omega), eo _ (by omega) (by omega)]; (try simp (disch := omega) only [cpF_k, stt_k, stt_j, stt_eq]); exact rp p p0 p1
          · rw [eo _ (by omega) (by omega)]; (try simp (disch := omega) only [cpF_k, stt_k, stt_j, stt_eq]); exact rse k k0 k1
          · rw [eo 25 (by omega) (by omega)] at k1
            rw [eo _ (by omega) (by omega), r4, r6]; simp (disch := omega) only [cpF_k, stt_k, stt_j, stt_eq]
            exact rt k k0 k1
          · rw [lot_4] at k1
            rw [eo 25 (by omega) (by omega)]
            by_cases hk : k = s 4
            · rw [hk, lot_v (by omega), r4, r6]; simp (disch := omega) only [cpF_k, stt_k, stt_j, stt_eq]
            · rw [eo _ (by omega) (by omega), r4, r6]; simp (disch := omega) only [cpF_k, stt_k, stt_j, stt_eq]
              exact rl k k0 (by omega)
          · rw [eo 29 (by omega) (by omega)]; (try simp (disch := omega) only [cpF_k, stt_k, stt_j, stt_eq]); exact rg1
          · (try simp (disch := omega) only [cpF_k, stt_k, stt_j, stt_eq]); exact rg2
          · rw [eo 29 (by omega) (by omega)] at b1
            rw [eo _ (by omega) (by omega)]; (try simp (disch := omega) only [cpF_k, stt_k, stt_j, stt_eq]); exact rg b j b0 b1 j0 j1
          · rw [eo 150 (by omega) (by omega)]; (try simp (disch := omega) only [cpF_k, stt_k, stt_j, stt_eq]); exact rn
          · rw [eo 150 (by omega) (by omega)] at i1
            rw [eo _ (by omega) (by omega), eo _ (by omega) (by omega), eo _ (by omega) (by omega), eo _ (by omega) (by omega)]; (try simp (disch := omega) only [cpF_k, stt_k, stt_j, stt_eq]); exact rr i i0 i1
        · simp (disch := omega) only [stt_kr]
      · refine R_ldc fX5_addLot_29 ?_
        refine R_ireturn fX5_addLot_31 rfl ?_
        refine ⟨_, _, rfl, by unfold aLot; rw [if_neg (by omega), if_pos (by omega)], ?_, fun _ _ => rfl⟩
        unfold tLot; rw [if_neg (by omega), if_pos (by omega)]; exact hR
    · refine R_ldc fX5_addLot_12 ?_
      refine R_ireturn fX5_addLot_14 rfl ?_
      refine ⟨_, _, rfl, by unfold aLot; rw [if_pos (by omega)], ?_, fun _ _ => rfl⟩
      unfold tLot; rw [if_pos (by omega)]; exact hR
theorem sp_makeBid {d : Nat} {kd : KL} {F : FM} {P : PM} {B : Nat} {s : Int → Int} {p c : Int} (hd : 2 ≤ d) (hS : shS kd P B) (hR : Rel B F s) (hw : WF s) : Sp d 32 [.inr (some B), .inl p, .inl c] kd F P (QV kd P (fun r F' => r = aBid s p c ∧ Rel B F' (tBid s p c) ∧ ∀ k, (k < B ∨ B + 16 ≤ k) → F' k = F k)) := by
  refine Sp_of (me := mX5_makeBid) (by omega) pX5_makeBid ⟨rfl, Nat.le_of_ble_eq_true rfl⟩ ?_
  obtain ⟨r0, r1, r2, r3, r4, r5, r6, rp, rse, rt, rl, rg1, rg2, rg, rn, rr⟩ := id hR
  obtain ⟨w0, w1, w2, w3, w4, w5, w6, w7, w8, w9, w10, w11, w12, w13⟩ := id hw
  refine R_aload_n fX5_makeBid_0 rfl ?_
  refine R_iload_n fX5_makeBid_1 rfl ?_
  refine R_callE fX5_makeBid_2 rfl rfl pX5_hasPlayer rfl ⟨Nat.le_of_ble_eq_true rfl, rcv_v rfl (shS_3 hS 0) (shS_k0 hS)⟩ (sp_hasPlayer (by omega) hS hR hw) ?_
  refine R_if_eq fX5_makeBid_5 rfl (fun h5 => ?_) (fun h5 => ?_)
  · refine R_ldc fX5_makeBid_12 ?_
    refine R_ireturn fX5_makeBid_14 rfl ?_
    refine ⟨_, _, rfl, by unfold aBid; rw [if_pos (by first | exact Or.inr (by omega) | exact Or.inl (cI_0 h5))], ?_, fun _ _ => rfl⟩
    unfold tBid; rw [if_pos (by first | exact Or.inr (by omega) | exact Or.inl (cI_0 h5))]; exact hR
  · have hp := cI_1 h5
    refine R_iload_n fX5_makeBid_8 rfl ?_
    refine R_if_ge fX5_makeBid_9 rfl (fun h9 => ?_) (fun h9 => ?_)
    · refine R_aload_n fX5_makeBid_15 rfl ?_
      refine R_callE fX5_makeBid_16 rfl rfl pX5_isOver rfl ⟨Nat.le_of_ble_eq_true rfl, rcv_v rfl (shS_3 hS 0) (shS_k0 hS)⟩ (sp_isOver (by omega) hS hR hw) ?_
      refine R_if_ne fX5_makeBid_19 rfl (fun h19 => ?_) (fun h19 => ?_)
      · refine R_ldc fX5_makeBid_32 ?_
        refine R_ireturn fX5_makeBid_34 rfl ?_
        refine ⟨_, _, rfl, by unfold aBid; rw [if_neg (by omega), if_pos (by first | exact Or.inl (cI_1 h19) | exact Or.inr (by omega))], ?_, fun _ _ => rfl⟩
        unfold tBid; rw [if_neg (by omega), if_pos (by first | exact Or.inl (cI_1 h19) | exact Or.inr (by omega))]; exact hR
      · have h4 := cI_0 h19
        have hcp := (rp p hp.1 (by omega)).1
        refine R_iload_n fX5_makeBid_22 rfl ?_
        refine R_aload_n fX5_makeBid_23 rfl ?_
        refine R_getP 7 fX5_makeBid_24 (shS_k0 hS) (shS_3 hS 0) rfl rfl rfl (shS_p7 hS) ?_
        refine R_iload_n fX5_makeBid_27 rfl ?_
        refine R_iaload fX5_makeBid_28 (shS_k1 hS) (by omega) ?_
        refine R_icmp_le fX5_makeBid_29 rfl (fun h29 => ?_) (fun h29 => ?_)
        · refine R_aload_n fX5_makeBid_35 rfl ?_
          refine R_getP 9 fX5_makeBid_36 (shS_k0 hS) (shS_3 hS 0) rfl rfl rfl (shS_p9 hS) ?_
          refine R_iload_n fX5_makeBid_39 rfl ?_
          refine R_iload_n fX5_makeBid_40 rfl ?_
          refine R_iastore fX5_makeBid_41 (shS_k3 hS) (shS_3 hS 3) (by omega) ?_
          have hq1 : ¬ (¬ (0 ≤ p ∧ p < s 0) ∨ c < 0) := by omega
          have hq2 : ¬ (s 4 = 0 ∨ s (126 + 6 * p) < c) := by omega
          have eo : ∀ j, j ≠ 126 + 6 * p + 2 → bidS s p c j = s j := fun j a => bid_o a
          have hw2 := WF_bid hw (p := p) (c := c) (by omega) (by omega)
          have hR2 : Rel B (stt F (B + 3) p c) (bidS s p c) := by
            refine ⟨?_, ?_, ?_, ?_, ?_, ?_, ?_, fun q p0 p1 => ?_, fun k k0 k1 => ?_, fun k k0 k1 => ?_, fun k k0 k1 => ?_, ?_, ?_, fun b j b0 b1 j0 j1 => ?_, ?_, fun i i0 i1 => ?_⟩
            · rw [eo 0 (by omega)]; (try simp (disch := omega) only [cpF_k, stt_k, stt_j, stt_eq]); exact r0
            · rw [eo 1 (by omega)]; (try simp (disch := omega) only [cpF_k, stt_k, stt_j, stt_eq]); exact r1
            · rw [eo 2 (by omega)]; (try simp (disch := omega) only [cpF_k, stt_k, stt_j, stt_eq]); exact r2
            · rw [eo 3 (by omega)]; (try simp (disch := omega) only [cpF_k, stt_k, stt_j, stt_eq]); exact r3
            · rw [eo 25 (by omega)]; (try simp (disch := omega) only [cpF_k, stt_k, stt_j, stt_eq]); exact r4
            · rw [tabS_congr (eo 25 (by omega)) (fun k k0 k1 => eo _ (by omega))]; (try simp (disch := omega) only [cpF_k, stt_k, stt_j, stt_eq]); exact r5
            · rw [eo 4 (by omega)]; (try simp (disch := omega) only [cpF_k, stt_k, stt_j, stt_eq]); exact r6
            · rw [eo (126 + 6 * q) (by omega), eo (126 + 6 * q + 1) (by omega), eo (126 + 6 * q + 3) (by omega), eo (126 + 6 * q + 4) (by omega), eo (126 + 6 * q + 5) (by omega)]
              by_cases hk : q = p
              · rw [hk, bid_v]; simp (disch := omega) only [cpF_k, stt_k, stt_j, stt_eq]
                have h := rp p hp.1 (by omega)
                exact ⟨h.1, h.2.1, trivial, h.2.2.2⟩
              · rw [eo _ (by omega)]; simp (disch := omega) only [cpF_k, stt_k, stt_j, stt_eq]
                exact rp q p0 p1
            · rw [eo _ (by omega)]; (try simp (disch := omega) only [cpF_k, stt_k, stt_j, stt_eq]); exact rse k k0 k1
            · rw [eo 25 (by omega)] at k1
              rw [eo _ (by omega)]; (try simp (disch := omega) only [cpF_k, stt_k, stt_j, stt_eq]); exact rt k k0 k1
            · rw [eo 4 (by omega)] at k1
              rw [eo 25 (by omega), eo _ (by omega)]; (try simp (disch := omega) only [cpF_k, stt_k, stt_j, stt_eq]); exact rl k k0 k1
            · rw [eo 29 (by omega)]; (try simp (disch := omega) only [cpF_k, stt_k, stt_j, stt_eq]); exact rg1
            · (try simp (disch := omega) only [cpF_k, stt_k, stt_j, stt_eq]); exact rg2
            · rw [eo 29 (by omega)] at b1
              rw [eo _ (by omega)]; (try simp (disch := omega) only [cpF_k, stt_k, stt_j, stt_eq]); exact rg b j b0 b1 j0 j1
            · rw [eo 150 (by omega)]; (try simp (disch := omega) only [cpF_k, stt_k, stt_j, stt_eq]); exact rn
            · rw [eo 150 (by omega)] at i1
              rw [eo _ (by omega), eo _ (by omega), eo _ (by omega), eo _ (by omega)]; (try simp (disch := omega) only [cpF_k, stt_k, stt_j, stt_eq]); exact rr i i0 i1
          refine R_aload_n fX5_makeBid_42 rfl ?_
          refine R_callE fX5_makeBid_43 rfl rfl pX5_bidCount rfl ⟨Nat.le_of_ble_eq_true rfl, rcv_v rfl (shS_3 hS 0) (shS_k0 hS)⟩ (sp_bidCount (by omega) hS hR2 hw2) ?_
          refine R_ireturn fX5_makeBid_46 rfl ?_
          refine ⟨_, _, rfl, ?_, ?_, fun k hk => ?_⟩
          · unfold aBid
            rw [if_neg hq1, if_neg hq2]
            rfl
          · unfold tBid
            rw [if_neg hq1, if_neg hq2]
            exact hR2
          · simp (disch := omega) only [stt_kr]
        · refine R_ldc fX5_makeBid_32 ?_
          refine R_ireturn fX5_makeBid_34 rfl ?_
          refine ⟨_, _, rfl, by unfold aBid; rw [if_neg (by omega), if_pos (by first | exact Or.inl (cI_1 h19) | exact Or.inr (by omega))], ?_, fun _ _ => rfl⟩
          unfold tBid; rw [if_neg (by omega), if_pos (by first | exact Or.inl (cI_1 h19) | exact Or.inr (by omega))]; exact hR
    · refine R_ldc fX5_makeBid_12 ?_
      refine R_ireturn fX5_makeBid_14 rfl ?_
      refine ⟨_, _, rfl, by unfold aBid; rw [if_pos (by first | exact Or.inr (by omega) | exact Or.inl (cI_0 h5))], ?_, fun _ _ => rfl⟩
      unfold tBid; rw [if_pos (by first | exact Or.inr (by omega) | exact Or.inl (cI_0 h5))]; exact hR
theorem sp_changeSetting {d : Nat} {kd : KL} {F : FM} {P : PM} {B : Nat} {s : Int → Int} {w v : Int} (hd : 1 ≤ d) (hS : shS kd P B) (hR : Rel B F s) (hw : WF s) (hG : kd[2]? = some (0, 3) ∧ F 2 0 = 5 ∧ F 2 1 = 5 ∧ F 2 2 = 1) : Sp d 33 [.inr (some B), .inl w, .inl v] kd F P (QV kd P (fun r F' => r = aSet s w v ∧ Rel B F' (tSet s w v) ∧ ∀ k, (k < B ∨ B + 16 ≤ k) → F' k = F k)) := by
  refine Sp_of (me := mX5_changeSetting) (by omega) pX5_changeSetting ⟨rfl, Nat.le_of_ble_eq_true rfl⟩ ?_
  obtain ⟨r0, r1, r2, r3, r4, r5, r6, rp, rse, rt, rl, rg1, rg2, rg, rn, rr⟩ := id hR
  obtain ⟨w0, w1, w2, w3, w4, w5, w6, w7, w8, w9, w10, w11, w12, w13⟩ := id hw
  have hg : 0 ≤ w → w < 3 → F 2 w = if w = 2 then 1 else 5 := fun a b => by
    rcases (by omega : w = 0 ∨ w = 1 ∨ w = 2) with rfl | rfl | rfl
    · rw [hG.2.1, if_neg (by omega)]
    · rw [hG.2.2.1, if_neg (by omega)]
    · rw [hG.2.2.2, if_pos rfl]
  refine R_iload_n fX5_changeSetting_0 rfl ?_
  refine R_if_lt fX5_changeSetting_1 rfl (fun h1 => ?_) (fun h1 => ?_)
  · refine R_ldc fX5_changeSetting_9 ?_
    refine R_ireturn fX5_changeSetting_11 rfl ?_
    refine ⟨_, _, rfl, by unfold aSet; rw [if_pos (by omega)], ?_, fun _ _ => rfl⟩
    unfold tSet; rw [if_pos (by omega)]; exact hR
  · refine R_iload_n fX5_changeSetting_4 rfl ?_
    refine R_iconst fX5_changeSetting_5 ?_
    refine R_icmp_lt fX5_changeSetting_6 rfl (fun h6 => ?_) (fun h6 => ?_)
    · refine R_iload_n fX5_changeSetting_12 rfl ?_
      refine R_if_lt fX5_changeSetting_13 rfl (fun h13 => ?_) (fun h13 => ?_)
      · refine R_ldc fX5_changeSetting_25 ?_
        refine R_ireturn fX5_changeSetting_27 rfl ?_
        have hg1 := hg (by omega) (by omega)
        refine ⟨_, _, rfl, by unfold aSet; rw [if_neg (by omega), if_pos (by omega)], ?_, fun _ _ => rfl⟩
        unfold tSet; rw [if_neg (by omega), if_pos (by omega)]; exact hR
      · refine R_iload_n fX5_changeSetting_16 rfl ?_
        refine R_getstatic fX5_changeSetting_17 ?_
        refine R_iload_n fX5_changeSetting_20 rfl ?_
        refine R_iaload fX5_changeSetting_21 hG.1 (by omega) ?_
        refine R_icmp_le fX5_changeSetting_22 rfl (fun h22 => ?_) (fun h22 => ?_)
        · refine R_aload_n fX5_changeSetting_28 rfl ?_
          refine R_getP 13 fX5_changeSetting_29 (shS_k0 hS) (shS_3 hS 0) rfl rfl rfl (shS_p13 hS) ?_
          refine R_iload_n fX5_changeSetting_32 rfl ?_
          refine R_iaload fX5_changeSetting_33 (shS_k7 hS) (by omega) ?_
          refine R_istore_n fX5_changeSetting_34 rfl ?_
          refine R_aload_n fX5_changeSetting_35 rfl ?_
          refine R_getP 13 fX5_changeSetting_36 (shS_k0 hS) (shS_3 hS 0) rfl rfl rfl (shS_p13 hS) ?_
          refine R_iload_n fX5_changeSetting_39 rfl ?_
          refine R_iload_n fX5_changeSetting_40 rfl ?_
          refine R_iastore fX5_changeSetting_41 (shS_k7 hS) (shS_3 hS 7) (by omega) ?_
          refine R_iload_n fX5_changeSetting_42 rfl ?_
          refine R_ireturn fX5_changeSetting_43 rfl ?_
          have hq1 : ¬ (w < 0 ∨ 2 < w) := by omega
          have hg1 := hg (by omega) (by omega)
          have hq2 : ¬ (v < 0 ∨ (if w = 2 then 1 else 5) < v) := by omega
          have eo : ∀ j, j ≠ 26 + w → setS s w v j = s j := fun j a => set_o a
          refine ⟨_, _, rfl, ?_, ?_, fun k hk => ?_⟩
          · unfold aSet
            rw [if_neg hq1, if_neg hq2]
            exact rse w (by omega) (by omega)
          · unfold tSet
            rw [if_neg hq1, if_neg hq2]
            refine ⟨?_, ?_, ?_, ?_, ?_, ?_, ?_, fun p p0 p1 => ?_, fun k k0 k1 => ?_, fun k k0 k1 => ?_, fun k k0 k1 => ?_, ?_, ?_, fun b j b0 b1 j0 j1 => ?_, ?_, fun i i0 i1 => ?_⟩
            · rw [eo 0 (by omega)]; (try simp (disch := omega) only [cpF_k, stt_k, stt_j, stt_eq]); exact r0
            · rw [eo 1 (by omega)]; (try simp (disch := omega) only [cpF_k, stt_k, stt_j, stt_eq]); exact r1
            · rw [eo 2 (by omega)]; (try simp (disch := omega) only [cpF_k, stt_k, stt_j, stt_eq]); exact r2
            · rw [eo 3 (by omega)]; (try simp (disch := omega) only [cpF_k, stt_k, stt_j, stt_eq]); exact r3
            · rw [eo 25 (by omega)]; (try simp (disch := omega) only [cpF_k, stt_k, stt_j, stt_eq]); exact r4
            · rw [tabS_congr (eo 25 (by omega)) (fun k k0 k1 => eo _ (by omega))]; (try simp (disch := omega) only [cpF_k, stt_k, stt_j, stt_eq]); exact r5
            · rw [eo 4 (by omega)]; (try simp (disch := omega) only [cpF_k, stt_k, stt_j, stt_eq]); exact r6
            · rw [eo _ (by omega), eo _ (by omega), eo _ (by omega), eo _ (by omega), eo _ (by omega), eo _ (by omega)]; (try simp (disch := omega) only [cpF_k, stt_k, stt_j, stt_eq]); exact rp p p0 p1
            · by_cases hk : k = w
              · rw [hk, set_v, stt_eq]
              · rw [eo _ (by omega)]; simp (disch := omega) only [cpF_k, stt_k, stt_j, stt_eq]
                exact rse k k0 k1
            · rw [eo 25 (by omega)] at k1
              rw [eo _ (by omega)]; (try simp (disch := omega) only [cpF_k, stt_k, stt_j, stt_eq]); exact rt k k0 k1
            · rw [eo 4 (by omega)] at k1
              rw [eo 25 (by omega), eo _ (by omega)]; (try simp (disch := omega) only [cpF_k, stt_k, stt_j, stt_eq]); exact rl k k0 k1
            · rw [eo 29 (by omega)]; (try simp (disch := omega) only [cpF_k, stt_k, stt_j, stt_eq]); exact rg1
            · (try simp (disch := omega) only [cpF_k, stt_k, stt_j, stt_eq]); exact rg2
            · rw [eo 29 (by omega)] at b1
              rw [eo _ (by omega)]; (try simp (disch := omega) only [cpF_k, stt_k, stt_j, stt_eq]); exact rg b j b0 b1 j0 j1
            · rw [eo 150 (by omega)]; (try simp (disch := omega) only [cpF_k, stt_k, stt_j, stt_eq]); exact rn
            · rw [eo 150 (by omega)] at i1
              rw [eo _ (by omega), eo _ (by omega), eo _ (by omega), eo _ (by omega)]; (try simp (disch := omega) only [cpF_k, stt_k, stt_j, stt_eq]); exact rr i i0 i1
          · simp (disch := omega) only [stt_kr]
        · refine R_ldc fX5_changeSetting_25 ?_
          refine R_ireturn fX5_changeSetting_27 rfl ?_
          have hg1 := hg (by omega) (by omega)
          refine ⟨_, _, rfl, by unfold aSet; rw [if_neg (by omega), if_pos (by omega)], ?_, fun _ _ => rfl⟩
          unfold tSet; rw [if_neg (by omega), if_pos (by omega)]; exact hR
    · refine R_ldc fX5_changeSetting_9 ?_
      refine R_ireturn fX5_changeSetting_11 rfl ?_
      refine ⟨_, _, rfl, by unfold aSet; rw [if_pos (by omega)], ?_, fun _ _ => rfl⟩
      unfold tSet; rw [if_pos (by omega)]; exact hR
theorem sp_copyFrom {d : Nat} {kd : KL} {F : FM} {P : PM} {A B : Nat} {s : Int → Int} (hd : 4 ≤ d) (hS : shS kd P B) (hA : shS kd P A) (hAB : A + 16 ≤ B ∨ B + 16 ≤ A) (hR : Rel A F s) (hw : WF s) : Sp d 29 [.inr (some B), .inr (some A)] kd F P (QN kd P (fun F' => Rel B F' s ∧ ∀ k, (k < B ∨ B + 16 ≤ k) → F' k = F k)) := by
  refine Sp_of (me := mX5_copyFrom) (by omega) pX5_copyFrom ⟨rfl, Nat.le_of_ble_eq_true rfl⟩ ?_
  obtain ⟨r0, r1, r2, r3, r4, r5, r6, rp, rse, rt, rl, rg1, rg2, rg, rn, rr⟩ := id hR
  obtain ⟨w0, w1, w2, w3, w4, w5, w6, w7, w8, w9, w10, w11, w12, w13⟩ := id hw
  refine R_aload_n fX5_copyFrom_0 rfl ?_
  refine R_aload_n fX5_copyFrom_1 rfl ?_
  refine R_getI 0 fX5_copyFrom_2 (shS_k0 hA) (shS_3 hA 0) rfl rfl rfl ?_
  refine R_putI 0 fX5_copyFrom_5 (shS_k0 hS) (shS_3 hS 0) rfl rfl rfl ?_
  refine R_aload_n fX5_copyFrom_8 rfl ?_
  refine R_aload_n fX5_copyFrom_9 rfl ?_
  refine R_getI 1 fX5_copyFrom_10 (shS_k0 hA) (shS_3 hA 0) rfl rfl rfl ?_
  refine R_putI 1 fX5_copyFrom_13 (shS_k0 hS) (shS_3 hS 0) rfl rfl rfl ?_
  refine R_aload_n fX5_copyFrom_16 rfl ?_
  refine R_aload_n fX5_copyFrom_17 rfl ?_
  refine R_getI 2 fX5_copyFrom_18 (shS_k0 hA) (shS_3 hA 0) rfl rfl rfl ?_
  refine R_putI 2 fX5_copyFrom_21 (shS_k0 hS) (shS_3 hS 0) rfl rfl rfl ?_
  refine R_aload_n fX5_copyFrom_24 rfl ?_
  refine R_aload_n fX5_copyFrom_25 rfl ?_
  refine R_getI 3 fX5_copyFrom_26 (shS_k0 hA) (shS_3 hA 0) rfl rfl rfl ?_
  refine R_putI 3 fX5_copyFrom_29 (shS_k0 hS) (shS_3 hS 0) rfl rfl rfl ?_
  refine R_aload_n fX5_copyFrom_32 rfl ?_
  refine R_aload_n fX5_copyFrom_33 rfl ?_
  refine R_getI 4 fX5_copyFrom_34 (shS_k0 hA) (shS_3 hA 0) rfl rfl rfl ?_
  refine R_putI 4 fX5_copyFrom_37 (shS_k0 hS) (shS_3 hS 0) rfl rfl rfl ?_
  refine R_aload_n fX5_copyFrom_40 rfl ?_
  refine R_aload_n fX5_copyFrom_41 rfl ?_
  refine R_getI 5 fX5_copyFrom_42 (shS_k0 hA) (shS_3 hA 0) rfl rfl rfl ?_
  refine R_putI 5 fX5_copyFrom_45 (shS_k0 hS) (shS_3 hS 0) rfl rfl rfl ?_
  refine R_aload_n fX5_copyFrom_48 rfl ?_
  refine R_aload_n fX5_copyFrom_49 rfl ?_
  refine R_getI 6 fX5_copyFrom_50 (shS_k0 hA) (shS_3 hA 0) rfl rfl rfl ?_
  refine R_putI 6 fX5_copyFrom_53 (shS_k0 hS) (shS_3 hS 0) rfl rfl rfl ?_
  refine R_aload_n fX5_copyFrom_56 rfl ?_
  refine R_getP 7 fX5_copyFrom_57 (shS_k0 hA) (shS_3 hA 0) rfl rfl rfl (shS_p7 hA) ?_
  refine R_iconst fX5_copyFrom_60 ?_
  refine R_aload_n fX5_copyFrom_61 rfl ?_
  refine R_getP 7 fX5_copyFrom_62 (shS_k0 hS) (shS_3 hS 0) rfl rfl rfl (shS_p7 hS) ?_
  refine R_iconst fX5_copyFrom_65 ?_
  refine R_iconst fX5_copyFrom_66 ?_
  refine R_copy fX5_copyFrom_67 (by omega) (shS_k1 hA) (shS_k1 hS) (shS_3 hS 1) (by decide) ?_
  refine R_aload_n fX5_copyFrom_70 rfl ?_
  refine R_getP 8 fX5_copyFrom_71 (shS_k0 hA) (shS_3 hA 0) rfl rfl rfl (shS_p8 hA) ?_
  refine R_iconst fX5_copyFrom_74 ?_
  refine R_aload_n fX5_copyFrom_75 rfl ?_
  refine R_getP 8 fX5_copyFrom_76 (shS_k0 hS) (shS_3 hS 0) rfl rfl rfl (shS_p8 hS) ?_
  refine R_iconst fX5_copyFrom_79 ?_
  refine R_iconst fX5_copyFrom_80 ?_
  refine R_copy fX5_copyFrom_81 (by omega) (shS_k2 hA) (shS_k2 hS) (shS_3 hS 2) (by decide) ?_
  refine R_aload_n fX5_copyFrom_84 rfl ?_
  refine R_getP 9 fX5_copyFrom_85 (shS_k0 hA) (shS_3 hA 0) rfl rfl rfl (shS_p9 hA) ?_
  refine R_iconst fX5_copyFrom_88 ?_
  refine R_aload_n fX5_copyFrom_89 rfl ?_
  refine R_getP 9 fX5_copyFrom_90 (shS_k0 hS) (shS_3 hS 0) rfl rfl rfl (shS_p9 hS) ?_
  refine R_iconst fX5_copyFrom_93 ?_
  refine R_iconst fX5_copyFrom_94 ?_
  refine R_copy fX5_copyFrom_95 (by omega) (shS_k3 hA) (shS_k3 hS) (shS_3 hS 3) (by decide) ?_
  refine R_aload_n fX5_copyFrom_98 rfl ?_
  refine R_getP 10 fX5_copyFrom_99 (shS_k0 hA) (shS_3 hA 0) rfl rfl rfl (shS_p10 hA) ?_
  refine R_iconst fX5_copyFrom_102 ?_
  refine R_aload_n fX5_copyFrom_103 rfl ?_
  refine R_getP 10 fX5_copyFrom_104 (shS_k0 hS) (shS_3 hS 0) rfl rfl rfl (shS_p10 hS) ?_
  refine R_iconst fX5_copyFrom_107 ?_
  refine R_iconst fX5_copyFrom_108 ?_
  refine R_copy fX5_copyFrom_109 (by omega) (shS_k4 hA) (shS_k4 hS) (shS_3 hS 4) (by decide) ?_
  refine R_aload_n fX5_copyFrom_112 rfl ?_
  refine R_getP 11 fX5_copyFrom_113 (shS_k0 hA) (shS_3 hA 0) rfl rfl rfl (shS_p11 hA) ?_
  refine R_iconst fX5_copyFrom_116 ?_
  refine R_aload_n fX5_copyFrom_117 rfl ?_
  refine R_getP 11 fX5_copyFrom_118 (shS_k0 hS) (shS_3 hS 0) rfl rfl rfl (shS_p11 hS) ?_
  refine R_iconst fX5_copyFrom_121 ?_
  refine R_iconst fX5_copyFrom_122 ?_
  refine R_copy fX5_copyFrom_123 (by omega) (shS_k5 hA) (shS_k5 hS) (shS_3 hS 5) (by decide) ?_
  refine R_aload_n fX5_copyFrom_126 rfl ?_
  refine R_getP 12 fX5_copyFrom_127 (shS_k0 hA) (shS_3 hA 0) rfl rfl rfl (shS_p12 hA) ?_
  refine R_iconst fX5_copyFrom_130 ?_
  refine R_aload_n fX5_copyFrom_131 rfl ?_
  refine R_getP 12 fX5_copyFrom_132 (shS_k0 hS) (shS_3 hS 0) rfl rfl rfl (shS_p12 hS) ?_
  refine R_iconst fX5_copyFrom_135 ?_
  refine R_iconst fX5_copyFrom_136 ?_
  refine R_copy fX5_copyFrom_137 (by omega) (shS_k6 hA) (shS_k6 hS) (shS_3 hS 6) (by decide) ?_
  refine R_aload_n fX5_copyFrom_140 rfl ?_
  refine R_getP 13 fX5_copyFrom_141 (shS_k0 hA) (shS_3 hA 0) rfl rfl rfl (shS_p13 hA) ?_
  refine R_iconst fX5_copyFrom_144 ?_
  refine R_aload_n fX5_copyFrom_145 rfl ?_
  refine R_getP 13 fX5_copyFrom_146 (shS_k0 hS) (shS_3 hS 0) rfl rfl rfl (shS_p13 hS) ?_
  refine R_iconst fX5_copyFrom_149 ?_
  refine R_iconst fX5_copyFrom_150 ?_
  refine R_copy fX5_copyFrom_151 (by omega) (shS_k7 hA) (shS_k7 hS) (shS_3 hS 7) (by decide) ?_
  refine R_aload_n fX5_copyFrom_154 rfl ?_
  refine R_getP 14 fX5_copyFrom_155 (shS_k0 hA) (shS_3 hA 0) rfl rfl rfl (shS_p14 hA) ?_
  refine R_iconst fX5_copyFrom_158 ?_
  refine R_aload_n fX5_copyFrom_159 rfl ?_
  refine R_getP 14 fX5_copyFrom_160 (shS_k0 hS) (shS_3 hS 0) rfl rfl rfl (shS_p14 hS) ?_
  refine R_iconst fX5_copyFrom_163 ?_
  refine R_bipush fX5_copyFrom_164 ?_
  refine R_copy fX5_copyFrom_166 (by omega) (shS_k8 hA) (shS_k8 hS) (shS_3 hS 8) (by decide) ?_
  refine R_aload_n fX5_copyFrom_169 rfl ?_
  refine R_getP 15 fX5_copyFrom_170 (shS_k0 hS) (shS_3 hS 0) rfl rfl rfl (shS_p15 hS) ?_
  refine R_aload_n fX5_copyFrom_173 rfl ?_
  refine R_getP 15 fX5_copyFrom_174 (shS_k0 hA) (shS_3 hA 0) rfl rfl rfl (shS_p15 hA) ?_
  refine R_callN fX5_copyFrom_177 rfl rfl pX4_copyFrom rfl ⟨Nat.le_of_ble_eq_true rfl, rcv_v rfl (shS_3 hS 9) (shS_k9 hS)⟩ (sp_logCopy (by omega) hS hA hAB) (fun G1 y => ?_)
  obtain ⟨y1, y2, y3, y4x⟩ := y
  have y4 : ∀ k, k ≠ B + 9 ∧ k ≠ B + 10 → G1 k = _ := fun k hk => y4x k hk.1 hk.2
  have ya : G1 (A + 11) = F (A + 11) := by rw [y4 _ (by omega)]; simp (disch := omega) only [cpF_kr, stt_kr]
  have yb : ∀ j, 12 ≤ j → j < 16 → G1 (A + j) = F (A + j) := fun j j0 j1 => by rw [y4 _ (by omega)]; simp (disch := omega) only [cpF_kr, stt_kr]
  refine R_aload_n fX5_copyFrom_180 rfl ?_
  refine R_getP 16 fX5_copyFrom_181 (shS_k0 hS) (shS_3 hS 0) rfl rfl rfl (shS_p16 hS) ?_
  refine R_aload_n fX5_copyFrom_184 rfl ?_
  refine R_getP 16 fX5_copyFrom_185 (shS_k0 hA) (shS_3 hA 0) rfl rfl rfl (shS_p16 hA) ?_
  refine R_callN fX5_copyFrom_188 rfl rfl pX3_copyFrom rfl ⟨Nat.le_of_ble_eq_true rfl, rcv_v rfl (shS_3 hS 11) (shS_k11 hS)⟩ (sp_prCopy (by omega) hS hA hAB (by rw [ya, rn]; exact w8)) (fun G2 x => ?_)
  obtain ⟨x1, x2, x4x⟩ := x
  rw [ya, rn] at x1 x2
  rw [yb 12 (by omega) (by omega), yb 13 (by omega) (by omega), yb 14 (by omega) (by omega), yb 15 (by omega) (by omega)] at x2
  have x4 : ∀ k, (k < B + 11 ∨ B + 16 ≤ k) → True → G2 k = G1 k := fun k hk _ => x4x k hk
  refine R_return fX5_copyFrom_191 rfl ?_
  refine ⟨_, rfl, ?_, fun k hk => ?_⟩
  · refine ⟨?_, ?_, ?_, ?_, ?_, ?_, ?_, fun p p0 p1 => ?_, fun k k0 k1 => ?_, fun k k0 k1 => ?_, fun k k0 k1 => ?_, ?_, ?_, fun b j b0 b1 j0 j1 => ?_, ?_, fun i i0 i1 => ?_⟩
    · rw [x4 B (by omega) trivial, y4 B (by omega)]
      simp (disch := omega) only [cpF_k, stt_k, stt_j, stt_eq]
      exact r0
    · rw [x4 B (by omega) trivial, y4 B (by omega)]
      simp (disch := omega) only [cpF_k, stt_k, stt_j, stt_eq]
      exact r1
    · rw [x4 B (by omega) trivial, y4 B (by omega)]
      simp (disch := omega) only [cpF_k, stt_k, stt_j, stt_eq]
      exact r2
    · rw [x4 B (by omega) trivial, y4 B (by omega)]
      simp (disch := omega) only [cpF_k, stt_k, stt_j, stt_eq]
      exact r3
    · rw [x4 B (by omega) trivial, y4 B (by omega)]
      simp (disch := omega) only [cpF_k, stt_k, stt_j, stt_eq]
      exact r4
    · rw [x4 B (by omega) trivial, y4 B (by omega)]
      simp (disch := omega) only [cpF_k, stt_k, stt_j, stt_eq]
      exact r5
    · rw [x4 B (by omega) trivial, y4 B (by omega)]
      simp (disch := omega) only [cpF_k, stt_k, stt_j, stt_eq]
      exact r6
    · refine ⟨?_, ?_, ?_, ?_, ?_, ?_⟩
      · rw [x4 _ (by omega) trivial, y4 _ (by omega)]
        simp (disch := omega) only [cpF_k, stt_k, stt_j, stt_eq]
        rw [cpF_in _ (by omega), show 0 + (p - 0) = p by omega]
        try simp (disch := omega) only [cpF_k, stt_k, stt_j, stt_eq]
        exact (rp p p0 p1).1
      · rw [x4 _ (by omega) trivial, y4 _ (by omega)]
        simp (disch := omega) only [cpF_k, stt_k, stt_j, stt_eq]
        rw [cpF_in _ (by omega), show 0 + (p - 0) = p by omega]
        try simp (disch := omega) only [cpF_k, stt_k, stt_j, stt_eq]
        exact (rp p p0 p1).2.1
      · rw [x4 _ (by omega) trivial, y4 _ (by omega)]
        simp (disch := omega) only [cpF_k, stt_k, stt_j, stt_eq]
        rw [cpF_in _ (by omega), show 0 + (p - 0) = p by omega]
        try simp (disch := omega) only [cpF_k, stt_k, stt_j, stt_eq]
        exact (rp p p0 p1).2.2.1
      · rw [x4 _ (by omega) trivial, y4 _ (by omega)]
        simp (disch := omega) only [cpF_k, stt_k, stt_j, stt_eq]
        rw [cpF_in _ (by omega), show 0 + (p - 0) = p by omega]
        try simp (disch := omega) only [cpF_k, stt_k, stt_j, stt_eq]
        exact (rp p p0 p1).2.2.2.1
      · rw [x4 _ (by omega) trivial, y4 _ (by omega)]
        simp (disch := omega) only [cpF_k, stt_k, stt_j, stt_eq]
        rw [cpF_in _ (by omega), show 0 + (p - 0) = p by omega]
        try simp (disch := omega) only [cpF_k, stt_k, stt_j, stt_eq]
        exact (rp p p0 p1).2.2.2.2.1
      · rw [x4 _ (by omega) trivial, y4 _ (by omega)]
        simp (disch := omega) only [cpF_k, stt_k, stt_j, stt_eq]
        rw [cpF_in _ (by omega), show 0 + (p - 0) = p by omega]
        try simp (disch := omega) only [cpF_k, stt_k, stt_j, stt_eq]
        exact (rp p p0 p1).2.2.2.2.2
    · rw [x4 _ (by omega) trivial, y4 _ (by omega)]
      simp (disch := omega) only [cpF_k, stt_k, stt_j, stt_eq]
      rw [cpF_in _ (by omega), show 0 + (k - 0) = k by omega]
      try simp (disch := omega) only [cpF_k, stt_k, stt_j, stt_eq]
      exact rse k k0 k1
    · rw [x4 _ (by omega) trivial, y4 _ (by omega)]
      simp (disch := omega) only [cpF_k, stt_k, stt_j, stt_eq]
      rw [cpF_in _ (by omega), show 0 + (k - 0) = k by omega]
      try simp (disch := omega) only [cpF_k, stt_k, stt_j, stt_eq]
      exact rt k k0 k1
    · rw [x4 _ (by omega) trivial, y4 _ (by omega)]
      simp (disch := omega) only [cpF_k, stt_k, stt_j, stt_eq]
      rw [cpF_in _ (by omega), show 0 + ((s 25 + k) - 0) = (s 25 + k) by omega]
      try simp (disch := omega) only [cpF_k, stt_k, stt_j, stt_eq]
      exact rl k k0 k1
    · rw [x4 _ (by omega) trivial, y1]
      simp (disch := omega) only [cpF_k, stt_k, stt_j, stt_eq]
      exact rg1
    · rw [x4 _ (by omega) trivial, y2]
      simp (disch := omega) only [cpF_k, stt_k, stt_j, stt_eq]
      exact rg2
    · rw [x4 (B + 9) (by omega) trivial, x4 (B + 10) (by omega) trivial, y2, y3 _ (by omega) (by omega)]
      simp (disch := omega) only [cpF_k, stt_k, stt_j, stt_eq]
      exact rg b j b0 b1 j0 j1
    · exact x1
    · have h := x2 i i0 (by omega)
      rw [h.1, h.2.1, h.2.2.1, h.2.2.2]
      exact rr i i0 i1
  · rw [x4 k (by omega) trivial, y4 k (by omega)]
    simp (disch := omega) only [cpF_kr, stt_kr]
