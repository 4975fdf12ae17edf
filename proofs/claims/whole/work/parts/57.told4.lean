/-- within a text's run nothing is kept -/
theorem sp_mchanges1 {d : Nat} {kd : KL} {F : FM} {P : PM} (hd : 1 ≤ d) (hM : shM kd P) (h7 : F 128 7 = 1) : Sp d 90 [.inr (some 128)] kd F P (QN kd P (fun F' => F' = F)) := by
  refine Sp_of (me := mX8_changes) (by omega) pX8_changes ⟨rfl, Nat.le_of_ble_eq_true rfl⟩ ?_
  refine R_aload_n fX8_changes_0 rfl ?_
  refine R_getI 7 fX8_changes_1 hM.1 (by omega) rfl rfl rfl ?_
  refine R_if_eq fX8_changes_4 rfl (fun h4 => absurd h4 (by omega)) (fun h4 => ?_)
  refine R_return fX8_changes_7 rfl ?_
  exact ⟨_, rfl, rfl⟩
theorem sp_mlot1 {d : Nat} {kd : KL} {F : FM} {P : PM} {s : Int → Int} {v : Int} (hd : 3 ≤ d) (hM : shM kd P) (hw : WF s) (h126 : F 129 = s) (h7 : F 128 7 = 1) : Sp d 95 [.inr (some 128), .inl v] kd F P (QV kd P (fun r F' => r = aLot s v ∧ F' = setr F 129 (tLot s v))) := by
  have hF := setr_me h126
  have h := sp_mlot (d := d) (kd := kd) (F := F) (P := P) (s := s) (Pc := fun F1 => F1 = F) (v := v) (by omega) hM hw (by rw [← hF]; exact sp_mchanges1 (by omega) hM h7) (fun F1 q => by rw [q]; exact h126)
  rw [← hF] at h
  refine h.mono (fun rs q => ?_)
  obtain ⟨r, F', e, q1, q2⟩ := q
  refine ⟨r, F', e, q1, ?_⟩
  by_cases z : aLot s v ≤ -1000001
  · rw [if_pos z] at q2
    rw [q2, aLot_e hw z]
    exact hF
  · rw [if_neg z] at q2
    obtain ⟨F1, y1, y2⟩ := q2
    rw [y2, y1]
theorem sp_mbid1 {d : Nat} {kd : KL} {F : FM} {P : PM} {s : Int → Int} {p v : Int} (hd : 3 ≤ d) (hM : shM kd P) (hw : WF s) (h126 : F 129 = s) (h7 : F 128 7 = 1) : Sp d 97 [.inr (some 128), .inl p, .inl v] kd F P (QV kd P (fun r F' => r = aBid s p v ∧ F' = setr F 129 (tBid s p v))) := by
  have hF := setr_me h126
  have h := sp_mbid (d := d) (kd := kd) (F := F) (P := P) (s := s) (Pc := fun F1 => F1 = F) (p := p) (c := v) (by omega) hM hw (by rw [← hF]; exact sp_mchanges1 (by omega) hM h7) (fun F1 q => by rw [q]; exact h126)
  rw [← hF] at h
  refine h.mono (fun rs q => ?_)
  obtain ⟨r, F', e, q1, q2⟩ := q
  refine ⟨r, F', e, q1, ?_⟩
  by_cases z : aBid s p v ≤ -1000001
  · rw [if_pos z] at q2
    rw [q2, aBid_e z]
    exact hF
  · rw [if_neg z] at q2
    obtain ⟨F1, y1, y2⟩ := q2
    rw [y2, y1]
theorem sp_mresolve1 {d : Nat} {kd : KL} {F : FM} {P : PM} {s : Int → Int}  (hd : 4 ≤ d) (hM : shM kd P) (hw : WF s) (h126 : F 129 = s) (h7 : F 128 7 = 1) : Sp d 107 [.inr (some 128)] kd F P (QV kd P (fun r F' => r = aRes s ∧ F' = setr F 129 (tRes s))) := by
  have hF := setr_me h126
  have h := sp_mresolve (d := d) (kd := kd) (F := F) (P := P) (s := s) (Pc := fun F1 => F1 = F)  (by omega) hM hw (by rw [← hF]; exact sp_mchanges1 (by omega) hM h7) (fun F1 q => by rw [q]; exact h126)
  rw [← hF] at h
  refine h.mono (fun rs q => ?_)
  obtain ⟨r, F', e, q1, q2⟩ := q
  refine ⟨r, F', e, q1, ?_⟩
  by_cases z : aRes s ≤ -1000001
  · rw [if_pos z] at q2
    rw [q2, aRes_e hw z]
    exact hF
  · rw [if_neg z] at q2
    obtain ⟨F1, y1, y2⟩ := q2
    rw [y2, y1]
theorem sp_mcalls {d : Nat} {kd : KL} {F : FM} {P : PM} {s : Int → Int} {ch a b : Int} (hd : 5 ≤ d) (hM : shM kd P) (hw : WF s) (h126 : F 129 = s) (h7 : F 128 7 = 1) (h20 : F 128 20 = ch) (ha : ch = 108 ∨ ch = 98 → F 135 0 = a) (hb : ch = 98 → F 135 1 = b) : Sp d 134 [.inr (some 128)] kd F P (QV kd P (fun r F' => r = aCall s ch a b ∧ F' = setr F 129 (tCall s ch a b))) := by
  refine Sp_of (me := mX8_calls) (by omega) pX8_calls ⟨rfl, Nat.le_of_ble_eq_true rfl⟩ ?_
  refine R_aload_n fX8_calls_0 rfl ?_
  refine R_getI 20 fX8_calls_1 hM.1 (by omega) rfl rfl rfl ?_
  rw [h20]
  refine R_bipush fX8_calls_4 ?_
  refine R_icmp_ne fX8_calls_6 rfl (fun h6 => ?_) (fun h6 => ?_)
  · refine R_aload_n fX8_calls_22 rfl ?_
    refine R_getI 20 fX8_calls_23 hM.1 (by omega) rfl rfl rfl ?_
    rw [h20]
    refine R_bipush fX8_calls_26 ?_
    refine R_icmp_ne fX8_calls_28 rfl (fun h28 => ?_) (fun h28 => ?_)
    · refine R_aload_n fX8_calls_50 rfl ?_
      refine R_callV fX8_calls_51 rfl rfl pX8_resolve rfl ⟨Nat.le_of_ble_eq_true rfl, rcv_v rfl (by omega) hM.1⟩ (sp_mresolve1 (by omega) hM hw h126 h7) (fun r F1 q => ?_)
      refine R_ireturn fX8_calls_54 rfl ?_
      obtain ⟨q1, q2⟩ := q
      refine ⟨_, _, rfl, ?_, ?_⟩
      · unfold aCall
        first
        | (rw [if_pos h6]; exact q1)
        | (rw [if_neg h6, if_pos h28]; exact q1)
        | (rw [if_neg h6, if_neg h28]; exact q1)
      · unfold tCall
        first
        | (rw [if_pos h6]; exact q2)
        | (rw [if_neg h6, if_pos h28]; exact q2)
        | (rw [if_neg h6, if_neg h28]; exact q2)
    · refine R_aload_n fX8_calls_31 rfl ?_
      refine R_aload_n fX8_calls_32 rfl ?_
      refine R_getP 21 fX8_calls_33 hM.1 (by omega) rfl rfl rfl hM.2.2.2.2.2.2.2.2.2.2.2.2.2.2 ?_
      refine R_iconst fX8_calls_36 ?_
      refine R_iaload fX8_calls_37 hM.2.2.2.2.2.2.2.1 (by omega) ?_
      rw [ha (by omega)]
      refine R_aload_n fX8_calls_38 rfl ?_
      refine R_getP 21 fX8_calls_39 hM.1 (by omega) rfl rfl rfl hM.2.2.2.2.2.2.2.2.2.2.2.2.2.2 ?_
      refine R_iconst fX8_calls_42 ?_
      refine R_iaload fX8_calls_43 hM.2.2.2.2.2.2.2.1 (by omega) ?_
      rw [hb (by omega)]
      refine R_callV fX8_calls_44 rfl rfl pX8_bid rfl ⟨Nat.le_of_ble_eq_true rfl, rcv_v rfl (by omega) hM.1⟩ (sp_mbid1 (by omega) hM hw h126 h7) (fun r F1 q => ?_)
      refine R_goto fX8_calls_47 rfl ?_
      refine R_ireturn fX8_calls_54 rfl ?_
      obtain ⟨q1, q2⟩ := q
      refine ⟨_, _, rfl, ?_, ?_⟩
      · unfold aCall
        first
        | (rw [if_pos h6]; exact q1)
        | (rw [if_neg h6, if_pos h28]; exact q1)
        | (rw [if_neg h6, if_neg h28]; exact q1)
      · unfold tCall
        first
        | (rw [if_pos h6]; exact q2)
        | (rw [if_neg h6, if_pos h28]; exact q2)
        | (rw [if_neg h6, if_neg h28]; exact q2)
  · refine R_aload_n fX8_calls_9 rfl ?_
    refine R_aload_n fX8_calls_10 rfl ?_
    refine R_getP 21 fX8_calls_11 hM.1 (by omega) rfl rfl rfl hM.2.2.2.2.2.2.2.2.2.2.2.2.2.2 ?_
    refine R_iconst fX8_calls_14 ?_
    refine R_iaload fX8_calls_15 hM.2.2.2.2.2.2.2.1 (by omega) ?_
    rw [ha (by omega)]
    refine R_callV fX8_calls_16 rfl rfl pX8_lot rfl ⟨Nat.le_of_ble_eq_true rfl, rcv_v rfl (by omega) hM.1⟩ (sp_mlot1 (by omega) hM hw h126 h7) (fun r F1 q => ?_)
    refine R_goto fX8_calls_19 rfl ?_
    refine R_ireturn fX8_calls_54 rfl ?_
    obtain ⟨q1, q2⟩ := q
    refine ⟨_, _, rfl, ?_, ?_⟩
    · unfold aCall
      first
      | (rw [if_pos h6]; exact q1)
      | (rw [if_neg h6, if_pos h28]; exact q1)
      | (rw [if_neg h6, if_neg h28]; exact q1)
    · unfold tCall
      first
      | (rw [if_pos h6]; exact q2)
      | (rw [if_neg h6, if_pos h28]; exact q2)
      | (rw [if_neg h6, if_neg h28]; exact q2)
theorem aCall_ge {s : Int → Int} {ch a b : Int} (hw : WF s) : aCall s ch a b ≤ -1000001 ∨ -1 ≤ aCall s ch a b := by
  have h1 := hw.2.1
  have h2 := wnS_in hw
  unfold aCall
  split
  · unfold aLot; split
    · omega
    · split <;> omega
  · split
    · have h3 := bids_nn (s := bidS s a b)
      unfold aBid; split
      · omega
      · split <;> omega
    · unfold aRes; split <;> omega
theorem aCall_e {s : Int → Int} {ch a b : Int} (hw : WF s) (h : aCall s ch a b ≤ -1000001) : tCall s ch a b = s := by
  unfold aCall at h
  unfold tCall
  split at h
  · next z => rw [if_pos z]; exact aLot_e hw h
  · next z =>
    rw [if_neg z]
    split at h
    · next y => rw [if_pos y]; exact aBid_e h
    · next y => rw [if_neg y]; exact aRes_e hw h
theorem Zr_tCall {s : Int → Int} {ch a b : Int} (hw : WF s) (h : Zr s) : Zr (tCall s ch a b) := by
  unfold tCall
  split
  · exact Zr_lot hw h
  · split
    · exact Zr_bid hw h
    · exact Zr_res hw h
theorem chP_n {c : Int → Int} {n i : Int} (h : chP c n i = 59) : i < n := by
  unfold chP at h
  split at h
  · next z => exact z.2
  · omega
theorem okP_n {c : Int → Int} {n i : Int} (h : okP c n i) : enP c n i ≤ n := by
  unfold enP
  rcases h with ⟨h1, _, h3⟩ | ⟨h1, _, h3⟩ | ⟨h1, h3⟩
  · rw [if_pos h1]; have := chP_n h3; omega
  · rw [if_neg (by omega), if_pos h1]; have := chP_n h3; omega
  · rw [if_neg (by omega), if_neg (by omega)]; have := chP_n h3; omega
theorem pfm_zr {c : Int → Int} {n : Int} : ∀ (N : Nat) {s : Int → Int} {pos cm : Int}, WF s → s 2 + N ≤ 20000 → Zr s → Zr (pfm c n N s pos cm).2.2.2.2
  | 0, s, pos, cm, hw, h2, hz => hz
  | N + 1, s, pos, cm, hw, h2, hz => by
    unfold pfm
    split
    · split
      · split
        · exact Zr_tCall hw hz
        · have h3 := tCall_2 (k := chP c n pos) (a := faP c n pos) (b := fbP c n pos) hw (by omega)
          exact pfm_zr N (WF_tCall hw (by omega)) (by omega) (Zr_tCall hw hz)
      · exact hz
    · exact hz
theorem pfm_30 {c : Int → Int} {n : Int} : ∀ (N : Nat) {s : Int → Int} {pos cm : Int}, WF s → s 2 + N ≤ 20000 → pos ≤ n + 1 → 2 * (pfm c n N s pos cm).2.2.2.2 2 ≤ 2 * s 2 + (n + 1 - pos)
  | 0, s, pos, cm, hw, h2, hp => by show 2 * s 2 ≤ _; omega
  | N + 1, s, pos, cm, hw, h2, hp => by
    have h3 := tCall_2 (k := chP c n pos) (a := faP c n pos) (b := fbP c n pos) hw (by omega)
    unfold pfm
    split
    · split
      · next z =>
        have hok : okP c n pos := cI_1 (by omega)
        have h4 := okP_ch hok
        have h5 := okP_n hok
        split
        · show 2 * tCall s (chP c n pos) (faP c n pos) (fbP c n pos) 2 ≤ _; omega
        · have h6 := pfm_30 (c := c) (n := n) N (pos := enP c n pos) (cm := cm + 1) (WF_tCall (k := chP c n pos) (a := faP c n pos) (b := fbP c n pos) hw (by omega)) (by omega) (by omega)
          omega
      · show 2 * s 2 ≤ _; omega
    · show 2 * s 2 ≤ _; omega
theorem pfm_re {c : Int → Int} {n : Int} : ∀ (N : Nat) {s : Int → Int} {pos cm : Int}, 0 ≤ pos → ((pfm c n N s pos cm).2.1 = 0 ∨ (pfm c n N s pos cm).2.1 = 1 ∧ (pfm c n N s pos cm).2.2.1 = 0 ∨ (pfm c n N s pos cm).2.1 = 2 ∧ (pfm c n N s pos cm).2.2.1 ≤ -1000001) ∧ 0 ≤ (pfm c n N s pos cm).1
  | 0, s, pos, cm, hp => ⟨Or.inl rfl, hp⟩
  | N + 1, s, pos, cm, hp => by
    unfold pfm
    split
    · split
      · next z =>
        have h4 := okP_ch (cI_1 (c := okP c n pos) (by omega))
        split
        · next y => exact ⟨Or.inr (Or.inr ⟨rfl, y⟩), hp⟩
        · exact pfm_re N (by omega)
      · exact ⟨Or.inr (Or.inl ⟨rfl, rfl⟩), hp⟩
    · exact ⟨Or.inl rfl, hp⟩
