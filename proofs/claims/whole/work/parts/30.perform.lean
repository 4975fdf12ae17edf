def aCall (s : Int → Int) (k a b : Int) : Int := if k = 108 then aLot s a else if k = 98 then aBid s a b else aRes s
def tCall (s : Int → Int) (k a b : Int) : Int → Int := if k = 108 then tLot s a else if k = 98 then tBid s a b else tRes s
theorem WF_tCall {s : Int → Int} {k a b : Int} (hw : WF s) (h2 : s 2 < 20000) : WF (tCall s k a b) := by
  unfold tCall
  split
  · exact WF_tLot hw
  · split
    · exact WF_tBid hw
    · exact WF_tRes hw h2
theorem tLot_2 {s : Int → Int} {v : Int} (hw : WF s) : tLot s v 2 = s 2 := by
  have := hw.2.1
  unfold tLot
  split
  · rfl
  · split
    · rfl
    · exact lot_o (by omega) (by omega)
theorem tBid_2 {s : Int → Int} {p c : Int} : tBid s p c 2 = s 2 := by
  unfold tBid
  split
  · rfl
  · split
    · rfl
    · next h _ => exact bid_o (by omega)
theorem tRes_2 {s : Int → Int} (hw : WF s) (h2 : s 2 < 20000) : tRes s 2 ≤ s 2 + 1 := by
  have h11 := hw.2.2.2.2.2.2.2.2.2.2.2.1
  have := hw.2.1
  unfold tRes
  by_cases h : s 4 = 0 ∨ bidsS s < s 0
  · rw [if_pos h]; omega
  · rw [if_neg h, res_lo hw (BD_of hw (by omega)) (by omega) (by omega) (by omega), r1_2 hw, wr_id (by unfold inb; omega)]
    omega
theorem tCall_2 {s : Int → Int} {k a b : Int} (hw : WF s) (h2 : s 2 < 20000) : tCall s k a b 2 ≤ s 2 + 1 := by
  unfold tCall
  split
  · rw [tLot_2 hw]; omega
  · split
    · rw [tBid_2]; omega
    · exact tRes_2 hw h2
/-- what comes of doing the text's commands -/
noncomputable def pfm (c : Int → Int) (n : Int) : Nat → (Int → Int) → Int → Int → Int × Int × Int × Int × (Int → Int)
  | 0, s, pos, cm => (pos, 0, 0, cm, s)
  | N + 1, s, pos, cm => if pos < n then (if cI (okP c n pos) = 1 then (if aCall s (chP c n pos) (faP c n pos) (fbP c n pos) ≤ -1000001 then (pos, 2, aCall s (chP c n pos) (faP c n pos) (fbP c n pos), cm, tCall s (chP c n pos) (faP c n pos) (fbP c n pos)) else pfm c n N (tCall s (chP c n pos) (faP c n pos) (fbP c n pos)) (enP c n pos) (cm + 1)) else (pos, 1, 0, cm, s)) else (pos, 0, 0, cm, s)
theorem pfm_wf {c : Int → Int} {n : Int} : ∀ (N : Nat) {s : Int → Int} {pos cm : Int}, WF s → s 2 + N ≤ 20000 → WF (pfm c n N s pos cm).2.2.2.2 ∧ (pfm c n N s pos cm).2.2.2.2 2 ≤ s 2 + N
  | 0, s, pos, cm, hw, h2 => ⟨hw, by show s 2 ≤ s 2 + ((0 : Nat) : Int); omega⟩
  | N + 1, s, pos, cm, hw, h2 => by
    unfold pfm
    split
    · split
      · split
        · have := tCall_2 (k := chP c n pos) (a := faP c n pos) (b := fbP c n pos) hw (by omega)
          exact ⟨WF_tCall hw (by omega), by show tCall s (chP c n pos) (faP c n pos) (fbP c n pos) 2 ≤ _; omega⟩
        · have h3 := tCall_2 (k := chP c n pos) (a := faP c n pos) (b := fbP c n pos) hw (by omega)
          have h4 := pfm_wf (c := c) (n := n) N (pos := enP c n pos) (cm := cm + 1) (WF_tCall (k := chP c n pos) (a := faP c n pos) (b := fbP c n pos) hw (by omega)) (by omega)
          exact ⟨h4.1, by omega⟩
      · exact ⟨hw, by show s 2 ≤ _; omega⟩
    · exact ⟨hw, by show s 2 ≤ _; omega⟩
theorem okP_ch {c : Int → Int} {n i : Int} (h : okP c n i) : enP c n i ≤ i + 8 ∧ i + 2 ≤ enP c n i := by
  have hne := neP_b (c := c) (n := n) (i := i + 1)
  have hne2 := neP_b (c := c) (n := n) (i := neP c n (i + 1) + 1)
  have hne3 := neP_b (c := c) (n := n) (i := vjP c n i)
  have hvj : i + 1 ≤ vjP c n i ∧ vjP c n i ≤ i + 2 := by
    have := psP_b (c := c) (n := n) (ch := 45) (i := i + 1)
    unfold vjP; omega
  unfold enP
  split
  · omega
  · split <;> omega
theorem sp_isError {d : Nat} {kd : KL} {F : FM} {P : PM} {v : Int} (hd : 1 ≤ d) : Sp d 86 [.inl v] kd F P (QE kd F P (if v ≤ -1000001 then 1 else 0)) := by
  refine Sp_of (me := mX7_isError) (by omega) pX7_isError ⟨rfl, Nat.le_of_ble_eq_true rfl⟩ ?_
  refine R_iload_n fX7_isError_0 rfl ?_
  refine R_ldc fX7_isError_1 ?_
  refine R_icmp_gt fX7_isError_3 rfl (fun h3 => ?_) (fun h3 => ?_)
  · refine R_iconst fX7_isError_10 ?_
    refine R_zreturn fX7_isError_11 rfl (by simp) ?_
    simp only [QE]; first | rw [if_pos (by omega)] | rw [if_neg (by omega)]
  · refine R_iconst fX7_isError_6 ?_
    refine R_goto fX7_isError_7 rfl ?_
    refine R_zreturn fX7_isError_11 rfl (by simp) ?_
    simp only [QE]; first | rw [if_pos (by omega)] | rw [if_neg (by omega)]
theorem sp_call {d : Nat} {kd : KL} {F : FM} {P : PM} {X B O : Nat} {s : Int → Int} (hd : 7 ≤ d) (hX : shT kd P X) (hS : shS kd P B) (hR : Rel B F s) (hw : WF s) (hO : shO kd P O) (hBO : B + 16 ≤ O ∨ O + 3 ≤ B) (h2 : s 2 < 20000) : Sp d 52 [.inr (some X), .inr (some B), .inr (some O)] kd F P (QV kd P (fun r F' => r = aCall s (F X 7) (F X 8) (F X 9) ∧ Rel B F' (tCall s (F X 7) (F X 8) (F X 9)) ∧ ∀ k, (k < B ∨ B + 16 ≤ k) → (k < O ∨ O + 3 ≤ k) → F' k = F k)) := by
  refine Sp_of (me := mX6_call) (by omega) pX6_call ⟨rfl, Nat.le_of_ble_eq_true rfl⟩ ?_
  refine R_aload_n fX6_call_0 rfl ?_
  refine R_getI 7 fX6_call_1 hX.2.1 hX.1 rfl rfl rfl ?_
  refine R_bipush fX6_call_4 ?_
  refine R_icmp_ne fX6_call_6 rfl (fun h6 => ?_) (fun h6 => ?_)
  · refine R_aload_n fX6_call_18 rfl ?_
    refine R_getI 7 fX6_call_19 hX.2.1 hX.1 rfl rfl rfl ?_
    refine R_bipush fX6_call_22 ?_
    refine R_icmp_ne fX6_call_24 rfl (fun h24 => ?_) (fun h24 => ?_)
    · refine R_aload_n fX6_call_40 rfl ?_
      refine R_aload_n fX6_call_41 rfl ?_
      refine R_callV fX6_call_42 rfl rfl pX5_settle rfl ⟨Nat.le_of_ble_eq_true rfl, rcv_v rfl (shS_3 hS 0) (shS_k0 hS)⟩ (sp_settle (by omega) hS hR hw hO hBO h2) (fun r F1 q => ?_)
      refine R_ireturn fX6_call_45 rfl ?_
      refine ⟨_, _, rfl, ?_, ?_, q.2.2⟩
      · unfold aCall; rw [if_neg h6, if_neg h24]; exact q.1
      · unfold tCall; rw [if_neg h6, if_neg h24]; exact q.2.1
    · refine R_aload_n fX6_call_27 rfl ?_
      refine R_aload_n fX6_call_28 rfl ?_
      refine R_getI 8 fX6_call_29 hX.2.1 hX.1 rfl rfl rfl ?_
      refine R_aload_n fX6_call_32 rfl ?_
      refine R_getI 9 fX6_call_33 hX.2.1 hX.1 rfl rfl rfl ?_
      refine R_callV fX6_call_36 rfl rfl pX5_makeBid rfl ⟨Nat.le_of_ble_eq_true rfl, rcv_v rfl (shS_3 hS 0) (shS_k0 hS)⟩ (sp_makeBid (by omega) hS hR hw) (fun r F1 q => ?_)
      refine R_ireturn fX6_call_39 rfl ?_
      refine ⟨_, _, rfl, ?_, ?_, fun k ka _ => q.2.2 k ka⟩
      · unfold aCall; rw [if_neg h6, if_pos h24]; exact q.1
      · unfold tCall; rw [if_neg h6, if_pos h24]; exact q.2.1
  · refine R_aload_n fX6_call_9 rfl ?_
    refine R_aload_n fX6_call_10 rfl ?_
    refine R_getI 8 fX6_call_11 hX.2.1 hX.1 rfl rfl rfl ?_
    refine R_callV fX6_call_14 rfl rfl pX5_addLot rfl ⟨Nat.le_of_ble_eq_true rfl, rcv_v rfl (shS_3 hS 0) (shS_k0 hS)⟩ (sp_addLot (by omega) hS hR hw) (fun r F1 q => ?_)
    refine R_ireturn fX6_call_17 rfl ?_
    refine ⟨_, _, rfl, ?_, ?_, fun k ka _ => q.2.2 k ka⟩
    · unfold aCall; rw [if_pos h6]; exact q.1
    · unfold tCall; rw [if_pos h6]; exact q.2.1
theorem sp_perform {d : Nat} {kd : KL} {F : FM} {P : PM} {X B O : Nat} {s c : Int → Int} {n : Int} (hd : 8 ≤ d) (hX : shT kd P X) (hS : shS kd P B) (hO : shO kd P O) (hBO : B + 16 ≤ O ∨ O + 3 ≤ B) (hXB : X + 2 ≤ B ∨ B + 16 ≤ X) (hXO : X + 2 ≤ O ∨ O + 3 ≤ X) (hn : F X 1 = n ∧ 0 ≤ n ∧ n ≤ 60) (hc : F (X + 1) = c) (hR : Rel B F s) (hw : WF s) (h2 : s 2 + 60 ≤ 20000) : Sp d 51 [.inr (some X), .inr (some B), .inr (some O)] kd F P (QN kd P (fun F' => F' X 2 = (pfm c n n.toNat s 0 0).1 ∧ F' X 3 = (pfm c n n.toNat s 0 0).2.1 ∧ F' X 4 = (pfm c n n.toNat s 0 0).2.2.1 ∧ F' X 5 = (pfm c n n.toNat s 0 0).2.2.2.1 ∧ Rel B F' (pfm c n n.toNat s 0 0).2.2.2.2 ∧ F' X 1 = n ∧ ∀ k, k ≠ X → (k < B ∨ B + 16 ≤ k) → (k < O ∨ O + 3 ≤ k) → F' k = F k)) := by
  refine Sp_of (me := mX6_perform) (by omega) pX6_perform ⟨rfl, Nat.le_of_ble_eq_true rfl⟩ ?_
  have lp : ∀ (N : Nat) (i pos cm : Int) (t : Int → Int) (G : FM) (j4 : Option AV), 0 ≤ i → n - i = N → 0 ≤ pos → pos ≤ 80 → 0 ≤ cm → cm ≤ i → G X 1 = n → G X 2 = pos → G X 3 = 0 → G X 4 = 0 → G X 5 = cm → G (X + 1) = c → Rel B G t → WF t → t 2 + N ≤ 20000 → (∀ k, k ≠ X → (k < B ∨ B + 16 ≤ k) → (k < O ∨ O + 3 ≤ k) → G k = F k) → Rn (d - 1) mX6_perform 22 [some (.inr (some X)), some (.inr (some B)), some (.inr (some O)), some (.inl i), j4] [] kd G P (QN kd P (fun F' => F' X 2 = (pfm c n N t pos cm).1 ∧ F' X 3 = (pfm c n N t pos cm).2.1 ∧ F' X 4 = (pfm c n N t pos cm).2.2.1 ∧ F' X 5 = (pfm c n N t pos cm).2.2.2.1 ∧ Rel B F' (pfm c n N t pos cm).2.2.2.2 ∧ F' X 1 = n ∧ ∀ k, k ≠ X → (k < B ∨ B + 16 ≤ k) → (k < O ∨ O + 3 ≤ k) → F' k = F k)) := by
    intro N
    induction N with
    | zero =>
      intro i pos cm t G j4 h0 h1 hp0 hp1 hm0 hm1 g1 g2 g3 g4 g5 gc hRG hwt ht2 hG
      refine R_iload_n fX6_perform_22 rfl ?_
      refine R_aload_n fX6_perform_23 rfl ?_
      refine R_getI 1 fX6_perform_24 hX.2.1 hX.1 rfl rfl rfl ?_
      refine R_icmp_ge fX6_perform_27 rfl (fun h27 => ?_) (fun h27 => absurd h27 (by omega))
      refine R_return fX6_perform_113 rfl ?_
      exact ⟨_, rfl, g2, g3, g4, g5, hRG, g1, hG⟩
    | succ N ih =>
      intro i pos cm t G j4 h0 h1 hp0 hp1 hm0 hm1 g1 g2 g3 g4 g5 gc hRG hwt ht2 hG
      refine R_iload_n fX6_perform_22 rfl ?_
      refine R_aload_n fX6_perform_23 rfl ?_
      refine R_getI 1 fX6_perform_24 hX.2.1 hX.1 rfl rfl rfl ?_
      refine R_icmp_ge fX6_perform_27 rfl (fun h27 => absurd h27 (by omega)) (fun h27 => ?_)
      refine R_aload_n fX6_perform_30 rfl ?_
      refine R_getI 2 fX6_perform_31 hX.2.1 hX.1 rfl rfl rfl ?_
      refine R_aload_n fX6_perform_34 rfl ?_
      refine R_getI 1 fX6_perform_35 hX.2.1 hX.1 rfl rfl rfl ?_
      refine R_icmp_ge fX6_perform_38 rfl (fun h38 => ?_) (fun h38 => ?_)
      · refine R_return fX6_perform_113 rfl ?_
        have hp : pfm c n (N + 1) t pos cm = (pos, 0, 0, cm, t) := by
          rw [pfm, if_neg (by omega)]
        rw [hp]
        exact ⟨_, rfl, g2, g3, g4, g5, hRG, g1, hG⟩
      · refine R_aload_n fX6_perform_41 rfl ?_
        refine R_getI 3 fX6_perform_42 hX.2.1 hX.1 rfl rfl rfl ?_
        refine R_if_ne fX6_perform_45 rfl (fun h45 => absurd h45 (by omega)) (fun h45 => ?_)
        refine R_aload_n fX6_perform_48 rfl ?_
        refine R_callV fX6_perform_49 rfl rfl pX6_readCommand rfl ⟨Nat.le_of_ble_eq_true rfl, rcv_v rfl hX.1 hX.2.1⟩ (sp_readCommand (by omega) hX (by omega) gc g1 ⟨g2, by omega, by omega⟩) (fun r F1 q => ?_)
        obtain ⟨q0, q1, q2, q3⟩ := q
        have e1 : F1 X 1 = n := by rw [q3.1 1 (by omega)]; exact g1
        have e2 : F1 X 2 = pos := by rw [q3.1 2 (by omega)]; exact g2
        have e3 : F1 X 3 = 0 := by rw [q3.1 3 (by omega)]; exact g3
        have e4 : F1 X 4 = 0 := by rw [q3.1 4 (by omega)]; exact g4
        have e5 : F1 X 5 = cm := by rw [q3.1 5 (by omega)]; exact g5
        have ec : F1 (X + 1) = c := by rw [q3.2 _ (by omega)]; exact gc
        have hR1 : Rel B F1 t := Rel_frame hRG (fun k a b => q3.2 k (by omega))
        refine R_if_ne fX6_perform_52 rfl (fun h52 => ?_) (fun h52 => ?_)
        · have hr1 : r = 1 := by omega
          have hok : okP c n pos := q1.mp hr1
          obtain ⟨q6, q7, q8, q9⟩ := q2 hr1
          have hcall : ∀ (s' : Int → Int), aCall s' (F1 X 7) (F1 X 8) (F1 X 9) = aCall s' (chP c n pos) (faP c n pos) (fbP c n pos) ∧ tCall s' (F1 X 7) (F1 X 8) (F1 X 9) = tCall s' (chP c n pos) (faP c n pos) (fbP c n pos) := fun s' => by
            unfold aCall tCall
            rw [q7]
            by_cases z1 : chP c n pos = 108
            · rw [if_pos z1, if_pos z1, if_pos z1, if_pos z1, q8 (Or.inl z1)]; exact ⟨rfl, rfl⟩
            · rw [if_neg z1, if_neg z1, if_neg z1, if_neg z1]
              by_cases z2 : chP c n pos = 98
              · rw [if_pos z2, if_pos z2, if_pos z2, if_pos z2, q8 (Or.inr z2), q9 z2]; exact ⟨rfl, rfl⟩
              · rw [if_neg z2, if_neg z2, if_neg z2, if_neg z2]; exact ⟨rfl, rfl⟩
          refine R_aload_n fX6_perform_61 rfl ?_
          refine R_aload_n fX6_perform_62 rfl ?_
          refine R_aload_n fX6_perform_63 rfl ?_
          refine R_callV fX6_perform_64 rfl rfl pX6_call rfl ⟨Nat.le_of_ble_eq_true rfl, rcv_v rfl hX.1 hX.2.1⟩ (sp_call (by omega) hX hS hR1 hwt hO hBO (by omega)) (fun a F2 z => ?_)
          obtain ⟨z0, z1, z2⟩ := z
          rw [(hcall t).1] at z0
          rw [(hcall t).2] at z1
          have y1 : F2 X = F1 X := z2 X (by omega) (by omega)
          have yc : F2 (X + 1) = c := by rw [z2 (X + 1) (by omega) (by omega)]; exact ec
          have hfr : ∀ k, k ≠ X → (k < B ∨ B + 16 ≤ k) → (k < O ∨ O + 3 ≤ k) → F2 k = F k := fun k k0 k1 k2 => by rw [z2 k k1 k2, q3.2 k k0]; exact hG k k0 k1 k2
          refine R_istore fX6_perform_67 rfl ?_
          refine R_iload fX6_perform_69 rfl ?_
          refine R_callE fX6_perform_71 rfl rfl pX7_isError rfl ⟨Nat.le_of_ble_eq_true rfl, rfl⟩ (sp_isError (by omega)) ?_
          refine R_if_eq fX6_perform_74 rfl (fun h74 => ?_) (fun h74 => ?_)
          · refine R_aload_n fX6_perform_89 rfl ?_
            refine R_dup fX6_perform_90 ?_
            refine R_getI 5 fX6_perform_91 hX.2.1 hX.1 rfl rfl rfl ?_
            refine R_iconst fX6_perform_94 ?_
            refine R_iadd fX6_perform_95 (by rw [y1, e5]; omega) ?_
            refine R_putI 5 fX6_perform_96 hX.2.1 hX.1 rfl rfl rfl ?_
            refine R_aload_n fX6_perform_99 rfl ?_
            refine R_aload_n fX6_perform_100 rfl ?_
            refine R_getI 6 fX6_perform_101 hX.2.1 hX.1 rfl rfl rfl ?_
            refine R_putI 2 fX6_perform_104 hX.2.1 hX.1 rfl rfl rfl ?_
            refine R_iinc fX6_perform_107 rfl (by omega) ?_
            refine R_goto fX6_perform_110 rfl ?_
            have hgt : ¬ a ≤ -1000001 := fun z => by rw [if_pos z] at h74; omega
            have hp : pfm c n (N + 1) t pos cm = pfm c n N (tCall t (chP c n pos) (faP c n pos) (fbP c n pos)) (enP c n pos) (cm + 1) := by
              rw [pfm, if_pos (by omega), if_pos (cI_t hok), if_neg (by omega)]
            have hen := okP_ch hok
            rw [hp]
            have ht3 := tCall_2 (k := chP c n pos) (a := faP c n pos) (b := fbP c n pos) hwt (by omega)
            refine ih (i + 1) (enP c n pos) (cm + 1) _ _ _ (by omega) (by omega) (by omega) (by omega) (by omega) (by omega) ?_ ?_ ?_ ?_ ?_ ?_ (Rel_frame z1 (fun k a b => by simp (disch := omega) only [stt_kr])) (WF_tCall hwt (by omega)) (by omega) (fun k k0 k1 k2 => ?_)
            · simp (disch := omega) only [stt_j]; rw [y1]; exact e1
            · simp (disch := omega) only [stt_eq, stt_j]; rw [y1]; exact q6
            · simp (disch := omega) only [stt_j]; rw [y1]; exact e3
            · simp (disch := omega) only [stt_j]; rw [y1]; exact e4
            · simp (disch := omega) only [stt_j, stt_eq]; rw [y1, e5]
            · simp (disch := omega) only [stt_kr]; exact yc
            · simp (disch := omega) only [stt_kr]; exact hfr k k0 k1 k2
          · refine R_aload_n fX6_perform_77 rfl ?_
            refine R_iconst fX6_perform_78 ?_
            refine R_putI 3 fX6_perform_79 hX.2.1 hX.1 rfl rfl rfl ?_
            refine R_aload_n fX6_perform_82 rfl ?_
            refine R_iload fX6_perform_83 rfl ?_
            refine R_putI 4 fX6_perform_85 hX.2.1 hX.1 rfl rfl rfl ?_
            refine R_return fX6_perform_88 rfl ?_
            have hle : a ≤ -1000001 := by
              by_cases z : a ≤ -1000001
              · exact z
              · rw [if_neg z] at h74; omega
            have hp : pfm c n (N + 1) t pos cm = (pos, 2, a, cm, tCall t (chP c n pos) (faP c n pos) (fbP c n pos)) := by
              rw [pfm, if_pos (by omega), if_pos (cI_t hok), if_pos (by omega), z0]
            rw [hp]
            refine ⟨_, rfl, ?_, ?_, ?_, ?_, ?_, ?_, fun k k0 k1 k2 => ?_⟩
            · simp (disch := omega) only [stt_j]; rw [y1]; exact e2
            · simp (disch := omega) only [stt_j, stt_eq]
            · rw [stt_eq]
            · simp (disch := omega) only [stt_j]; rw [y1]; exact e5
            · exact Rel_frame z1 (fun k a b => by simp (disch := omega) only [stt_kr])
            · simp (disch := omega) only [stt_j]; rw [y1]; exact e1
            · simp (disch := omega) only [stt_kr]; exact hfr k k0 k1 k2
        · refine R_aload_n fX6_perform_55 rfl ?_
          refine R_iconst fX6_perform_56 ?_
          refine R_putI 3 fX6_perform_57 hX.2.1 hX.1 rfl rfl rfl ?_
          refine R_return fX6_perform_60 rfl ?_
          have hno : ¬ okP c n pos := fun z => by have := q1.mpr z; omega
          have hp : pfm c n (N + 1) t pos cm = (pos, 1, 0, cm, t) := by
            rw [pfm, if_pos (by omega), if_neg (fun z => by rw [cI_f hno] at z; omega)]
          rw [hp]
          refine ⟨_, rfl, ?_, ?_, ?_, ?_, ?_, ?_, fun k k0 k1 k2 => ?_⟩
          · rw [stt_j _ _ (by omega)]; exact e2
          · rw [stt_eq]
          · rw [stt_j _ _ (by omega)]; exact e4
          · rw [stt_j _ _ (by omega)]; exact e5
          · exact Rel_frame hR1 (fun k a b => stt_kr _ _ _ (by omega))
          · rw [stt_j _ _ (by omega)]; exact e1
          · rw [stt_kr _ _ _ k0, q3.2 k k0]; exact hG k k0 k1 k2
  refine R_aload_n fX6_perform_0 rfl ?_
  refine R_iconst fX6_perform_1 ?_
  refine R_putI 2 fX6_perform_2 hX.2.1 hX.1 rfl rfl rfl ?_
  refine R_aload_n fX6_perform_5 rfl ?_
  refine R_iconst fX6_perform_6 ?_
  refine R_putI 3 fX6_perform_7 hX.2.1 hX.1 rfl rfl rfl ?_
  refine R_aload_n fX6_perform_10 rfl ?_
  refine R_iconst fX6_perform_11 ?_
  refine R_putI 4 fX6_perform_12 hX.2.1 hX.1 rfl rfl rfl ?_
  refine R_aload_n fX6_perform_15 rfl ?_
  refine R_iconst fX6_perform_16 ?_
  refine R_putI 5 fX6_perform_17 hX.2.1 hX.1 rfl rfl rfl ?_
  refine R_iconst fX6_perform_20 ?_
  refine R_istore_n fX6_perform_21 rfl ?_
  refine lp n.toNat 0 0 0 s _ _ (by omega) (by omega) (by omega) (by omega) (by omega) (by omega) ?_ ?_ ?_ ?_ ?_ ?_ (Rel_frame hR (fun k a b => by simp (disch := omega) only [stt_kr])) hw (by omega) (fun k k0 k1 k2 => ?_)
  · simp (disch := omega) only [stt_j]; exact hn.1
  · simp (disch := omega) only [stt_j, stt_eq]
  · simp (disch := omega) only [stt_j, stt_eq]
  · simp (disch := omega) only [stt_j, stt_eq]
  · simp (disch := omega) only [stt_j, stt_eq]
  · simp (disch := omega) only [stt_kr]; exact hc
  · simp (disch := omega) only [stt_kr]
theorem sp_append {d : Nat} {kd : KL} {F : FM} {P : PM} {X : Nat} {n v : Int} (hd : 1 ≤ d) (hX : shT kd P X) (hn : F X 1 = n ∧ 0 ≤ n ∧ n ≤ 60) : Sp d 49 [.inr (some X), .inl v] kd F P (QV kd P (fun r F' => if n < 60 then r = n + 1 ∧ F' = stt (stt F (X + 1) n v) X 1 (n + 1) else r = -1000003 ∧ F' = F)) := by
  refine Sp_of (me := mX6_append) (by omega) pX6_append ⟨rfl, Nat.le_of_ble_eq_true rfl⟩ ?_
  have hn1 := hn.1
  refine R_aload_n fX6_append_0 rfl ?_
  refine R_getI 1 fX6_append_1 hX.2.1 hX.1 rfl rfl rfl ?_
  refine R_bipush fX6_append_4 ?_
  refine R_icmp_lt fX6_append_6 rfl (fun h6 => ?_) (fun h6 => ?_)
  · refine R_aload_n fX6_append_12 rfl ?_
    refine R_getP 0 fX6_append_13 hX.2.1 hX.1 rfl rfl rfl hX.2.2.2 ?_
    refine R_aload_n fX6_append_16 rfl ?_
    refine R_getI 1 fX6_append_17 hX.2.1 hX.1 rfl rfl rfl ?_
    refine R_iload_n fX6_append_20 rfl ?_
    refine R_iastore fX6_append_21 hX.2.2.1 (Nat.le_add_right_of_le hX.1) (by omega) ?_
    refine R_aload_n fX6_append_22 rfl ?_
    refine R_dup fX6_append_23 ?_
    refine R_getI 1 fX6_append_24 hX.2.1 hX.1 rfl rfl rfl ?_
    refine R_iconst fX6_append_27 ?_
    refine R_iadd fX6_append_28 (by simp (disch := omega) only [stt_k]; omega) ?_
    refine R_putI 1 fX6_append_29 hX.2.1 hX.1 rfl rfl rfl ?_
    refine R_aload_n fX6_append_32 rfl ?_
    refine R_getI 1 fX6_append_33 hX.2.1 hX.1 rfl rfl rfl ?_
    refine R_ireturn fX6_append_36 rfl ?_
    refine ⟨_, _, rfl, ?_⟩
    dsimp only
    rw [if_pos (by omega)]
    refine ⟨?_, ?_⟩
    · rw [stt_eq, stt_k _ _ _ _ (by omega), hn1]
    · rw [stt_k _ _ _ _ (by omega), hn1]
  · refine R_ldc fX6_append_9 ?_
    refine R_ireturn fX6_append_11 rfl ?_
    exact ⟨_, _, rfl, by dsimp only; rw [if_neg (by omega)]; exact ⟨rfl, rfl⟩⟩
theorem sp_numberOfFault {d : Nat} {kd : KL} {F : FM} {P : PM} {X : Nat} {w : Int} (hd : 1 ≤ d) (hX : shT kd P X) : Sp d 50 [.inr (some X), .inl w] kd F P (QE kd F P (if F X 3 = 0 then -1000004 else if w = 0 then F X 2 else if w = 1 then F X 3 else if F X 3 = 2 then F X 4 else -1000004)) := by
  refine Sp_of (me := mX6_numberOfFault) (by omega) pX6_numberOfFault ⟨rfl, Nat.le_of_ble_eq_true rfl⟩ ?_
  refine R_aload_n fX6_numberOfFault_0 rfl ?_
  refine R_getI 3 fX6_numberOfFault_1 hX.2.1 hX.1 rfl rfl rfl ?_
  refine R_if_ne fX6_numberOfFault_4 rfl (fun h4 => ?_) (fun h4 => ?_)
  · refine R_iload_n fX6_numberOfFault_10 rfl ?_
    refine R_if_ne fX6_numberOfFault_11 rfl (fun h11 => ?_) (fun h11 => ?_)
    · refine R_iload_n fX6_numberOfFault_19 rfl ?_
      refine R_iconst fX6_numberOfFault_20 ?_
      refine R_icmp_ne fX6_numberOfFault_21 rfl (fun h21 => ?_) (fun h21 => ?_)
      · refine R_aload_n fX6_numberOfFault_29 rfl ?_
        refine R_getI 3 fX6_numberOfFault_30 hX.2.1 hX.1 rfl rfl rfl ?_
        refine R_iconst fX6_numberOfFault_33 ?_
        refine R_icmp_ne fX6_numberOfFault_34 rfl (fun h34 => ?_) (fun h34 => ?_)
        · refine R_ldc fX6_numberOfFault_44 ?_
          refine R_ireturn fX6_numberOfFault_46 rfl ?_
          simp only [QE]; rw [if_neg h4, if_neg h11, if_neg h21]; first | rw [if_pos h34] | rw [if_neg h34]
        · refine R_aload_n fX6_numberOfFault_37 rfl ?_
          refine R_getI 4 fX6_numberOfFault_38 hX.2.1 hX.1 rfl rfl rfl ?_
          refine R_goto fX6_numberOfFault_41 rfl ?_
          refine R_ireturn fX6_numberOfFault_46 rfl ?_
          simp only [QE]; rw [if_neg h4, if_neg h11, if_neg h21]; first | rw [if_pos h34] | rw [if_neg h34]
      · refine R_aload_n fX6_numberOfFault_24 rfl ?_
        refine R_getI 3 fX6_numberOfFault_25 hX.2.1 hX.1 rfl rfl rfl ?_
        refine R_ireturn fX6_numberOfFault_28 rfl ?_
        simp only [QE]; rw [if_neg h4, if_neg h11, if_pos h21]
    · refine R_aload_n fX6_numberOfFault_14 rfl ?_
      refine R_getI 2 fX6_numberOfFault_15 hX.2.1 hX.1 rfl rfl rfl ?_
      refine R_ireturn fX6_numberOfFault_18 rfl ?_
      simp only [QE]; rw [if_neg h4, if_pos h11]
  · refine R_ldc fX6_numberOfFault_7 ?_
    refine R_ireturn fX6_numberOfFault_9 rfl ?_
    simp only [QE]; rw [if_pos h4]
