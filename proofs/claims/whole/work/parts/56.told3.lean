theorem sp_mnumU {d : Nat} {kd : KL} {F : FM} {P : PM} {c : Int → Int} {n i wh : Int} (hd : 4 ≤ d) (hM : shM kd P) (hc : F 134 = c) (hn : F 128 9 = n ∧ 0 ≤ n ∧ n ≤ 60) (hi : F 128 17 = i ∧ 0 ≤ i ∧ i ≤ 1000) (hwh : 0 ≤ wh ∧ wh < 2) (hi9 : i ≤ 900) : Sp d 132 [.inr (some 128), .inl wh, .inl 0] kd F P (QV kd P (fun r F' => r = (if 0 ≤ nvP c n i then 1 else 0) ∧ F' 128 17 = neP c n i ∧ (0 ≤ nvP c n i → F' 135 wh = nvP c n i) ∧ (∀ j, j ≠ wh → F' 135 j = F 135 j) ∧ OT F F')) := by
  refine (sp_mnumber (sg_ := 0) hd hM hc hn hi hwh (Or.inl rfl) hi9).mono (fun rs q => ?_)
  obtain ⟨r, F', e, q0, q1, q2, q3, q4⟩ := q
  rw [if_neg (show ¬ ((0 : Int) = 1) by omega), Int.add_zero] at q0 q1 q2
  refine ⟨r, F', e, q0, q1, fun z => ?_, q3, q4⟩
  have h := q2 z
  rw [if_neg (fun y => absurd y.1 (by omega))] at h
  exact h
theorem sp_mnumS {d : Nat} {kd : KL} {F : FM} {P : PM} {c : Int → Int} {n i wh : Int} (hd : 4 ≤ d) (hM : shM kd P) (hc : F 134 = c) (hn : F 128 9 = n ∧ 0 ≤ n ∧ n ≤ 60) (hi : F 128 17 = i ∧ 0 ≤ i ∧ i ≤ 1000) (hwh : 0 ≤ wh ∧ wh < 2) (hi9 : i ≤ 900) : Sp d 132 [.inr (some 128), .inl wh, .inl 1] kd F P (QV kd P (fun r F' => r = (if 0 ≤ nvP c n (i + psP c n 45 i) then 1 else 0) ∧ F' 128 17 = neP c n (i + psP c n 45 i) ∧ (0 ≤ nvP c n (i + psP c n 45 i) → F' 135 wh = if chP c n i = 45 then -nvP c n (i + psP c n 45 i) else nvP c n (i + psP c n 45 i)) ∧ (∀ j, j ≠ wh → F' 135 j = F 135 j) ∧ OT F F')) := by
  refine (sp_mnumber (sg_ := 1) hd hM hc hn hi hwh (Or.inr rfl) hi9).mono (fun rs q => ?_)
  obtain ⟨r, F', e, q0, q1, q2, q3, q4⟩ := q
  rw [if_pos (show (1 : Int) = 1 from rfl)] at q0 q1 q2
  refine ⟨r, F', e, q0, q1, fun z => ?_, q3, q4⟩
  have h := q2 z
  by_cases y : chP c n i = 45
  · rw [if_pos ⟨rfl, y⟩] at h; rw [if_pos y]; exact h
  · rw [if_neg (fun x => y x.2)] at h; rw [if_neg y]; exact h
theorem look3 {x : Int} {pc t : Nat} {L : LV} {S : List AV} {kd : KL} {F : FM} {P : PM} (h1 : (98 : Int) ≠ x) (h2 : (108 : Int) ≠ x) (h3 : (114 : Int) ≠ x) (hb : brn pc 106 = some t) : s_look pc 106 #[(98, 57), (108, 33), (114, 99)] L (.inl x :: S) kd F P = some (t, L, S, kd, F, P) := by
  have e : Op.lookupswitch.offset [(98, 57), (108, 33), (114, 99)] 106 x = 106 := by
    rw [Op.lookupswitch.offset_cons, if_neg h1, Op.lookupswitch.offset_cons, if_neg h2, Op.lookupswitch.offset_cons, if_neg h3, Op.lookupswitch.offset_nil]
  unfold s_look
  dsimp only
  rw [if_pos (by decide)]
  show s_goto (brn pc (Op.lookupswitch.offset [(98, 57), (108, 33), (114, 99)] 106 x)) L S kd F P = _
  rw [e, hb]
  rfl
/-- what reading changes -/
def OR (F F' : FM) : Prop := (∀ j, j ≠ 17 → j ≠ 20 → F' 128 j = F 128 j) ∧ ∀ k, k ≠ 128 → k ≠ 135 → F' k = F k
theorem OR_st {F G : FM} {v : Int} (h : OR F G) : OR F (stt G 128 17 v) := ⟨fun j a b => by rw [stt_j _ _ a]; exact h.1 j a b, fun k a b => by rw [stt_kr _ _ _ a]; exact h.2 k a b⟩
theorem OR_OT {F G H : FM} (h : OR F G) (h2 : OT G H) : OR F H := ⟨fun j a b => by rw [h2.1 j a]; exact h.1 j a b, fun k a b => by rw [h2.2 k a b]; exact h.2 k a b⟩
theorem sp_mreads {d : Nat} {kd : KL} {F : FM} {P : PM} {c : Int → Int} {n i : Int}  (hd : 5 ≤ d) (hM : shM kd P) (hc : F 134 = c) (hn : F 128 9 = n ∧ 0 ≤ n ∧ n ≤ 60) (hi : F 128 17 = i ∧ 0 ≤ i ∧ i ≤ 1000) (hin : i < n) : Sp d 133 [.inr (some 128)] kd F P (QV kd P (fun r F' => (r = 0 ∨ r = 1) ∧ (r = 1 ↔ okP c n i) ∧ (r = 1 → F' 128 17 = enP c n i ∧ F' 128 20 = chP c n i ∧ (chP c n i = 108 ∨ chP c n i = 98 → F' 135 0 = faP c n i) ∧ (chP c n i = 98 → F' 135 1 = fbP c n i)) ∧ OR F F')) := by
  refine Sp_of (me := mX8_reads) (by omega) pX8_reads ⟨rfl, Nat.le_of_ble_eq_true rfl⟩ ?_
  have hch : ∀ j, psP c n 59 j = if chP c n j = 59 then 1 else 0 := fun _ => rfl
  have hch4 : ∀ j, psP c n 44 j = if chP c n j = 44 then 1 else 0 := fun _ => rfl
  have hci : c i = chP c n i := by unfold chP; rw [if_pos ⟨hi.2.1, hin⟩]
  have hne := neP_b (c := c) (n := n) (i := i + 1)
  have hne2 := neP_b (c := c) (n := n) (i := neP c n (i + 1) + 1)
  have hne3 := neP_b (c := c) (n := n) (i := vjP c n i)
  have hvj : i + 1 ≤ vjP c n i ∧ vjP c n i ≤ i + 2 := by
    have := psP_b (c := c) (n := n) (ch := 45) (i := i + 1)
    unfold vjP; omega
  have bl : ∀ G : FM, chP c n i = 108 → G 128 17 = i + 1 → G 128 20 = chP c n i → G 128 9 = n → G 134 = c → OR F G → Rn (d - 1) mX8_reads 60 [some (.inr (some 128))] [] kd G P (QV kd P (fun r F' => (r = 0 ∨ r = 1) ∧ (r = 1 ↔ okP c n i) ∧ (r = 1 → F' 128 17 = enP c n i ∧ F' 128 20 = chP c n i ∧ (chP c n i = 108 ∨ chP c n i = 98 → F' 135 0 = faP c n i) ∧ (chP c n i = 98 → F' 135 1 = fbP c n i)) ∧ OR F F')) := by
    intro G hl g17 g20 g9 gc go
    refine R_aload_n fX8_reads_60 rfl ?_
    refine R_iconst fX8_reads_61 ?_
    refine R_iconst fX8_reads_62 ?_
    refine R_callV fX8_reads_63 rfl rfl pX8_number rfl ⟨Nat.le_of_ble_eq_true rfl, rcv_v rfl (by omega) hM.1⟩ (sp_mnumS (by omega) hM gc ⟨g9, hn.2⟩ ⟨g17, by omega, by omega⟩ (by omega) (by omega)) (fun r F1 q => ?_)
    obtain ⟨q0, q1, q2, q3, q4⟩ := q
    rw [show i + 1 + psP c n 45 (i + 1) = vjP c n i from rfl] at q0 q1 q2
    have a9 : F1 128 9 = n := by rw [q4.1 9 (by omega)]; exact g9
    have ac : F1 134 = c := by rw [q4.2 134 (by omega) (by omega)]; exact gc
    have a20 : F1 128 20 = chP c n i := by rw [q4.1 20 (by omega)]; exact g20
    have o1 : OR F F1 := OR_OT go q4
    refine R_if_eq fX8_reads_66 rfl (fun h66 => ?_) (fun h66 => ?_)
    · refine R_iconst fX8_reads_82 ?_
      refine R_zreturn fX8_reads_83 rfl (by simp) ?_
      first
      | (have hnv : 0 ≤ nvP c n (vjP c n i) := by
           by_cases z : 0 ≤ nvP c n (vjP c n i)
           · exact z
           · rw [if_neg z] at q0; omega
         by_cases hz : chP c n (neP c n (vjP c n i)) = 59
         · rw [hch, if_pos hz] at z0
           first
           | (exfalso; omega)
           | (refine ⟨_, _, rfl, Or.inr rfl, ⟨fun _ => Or.inl ⟨hl, hnv, hz⟩, fun _ => rfl⟩, fun _ => ⟨?_, ?_, fun _ => ?_, fun y => by omega⟩, OR_st o1⟩
              · rw [stt_eq, hch, if_pos hz]; unfold enP; rw [if_pos hl]
              · rw [stt_j _ _ (by omega)]; exact a20
              · rw [stt_kr _ _ _ (by omega), q2 hnv]; unfold faP; rw [if_pos hl])
         · rw [hch, if_neg hz] at z0
           first
           | (exfalso; omega)
           | exact ⟨_, _, rfl, Or.inl rfl, ⟨fun y => by omega, fun y => by unfold okP at y; omega⟩, fun y => by omega, OR_st o1⟩)
      | (have hnv : ¬ 0 ≤ nvP c n (vjP c n i) := fun z => by rw [if_pos z] at q0; omega
         exact ⟨_, _, rfl, Or.inl rfl, ⟨fun y => by omega, fun y => by unfold okP at y; omega⟩, fun y => by omega, o1⟩)
    · refine R_aload_n fX8_reads_69 rfl ?_
      refine R_bipush fX8_reads_70 ?_
      refine R_callV fX8_reads_72 rfl rfl pX8_sign rfl ⟨Nat.le_of_ble_eq_true rfl, rcv_v rfl (by omega) hM.1⟩ (sp_msign (by omega) hM ac ⟨a9, hn.2⟩ ⟨q1, by omega, by omega⟩ (by omega)) (fun r2 F2 z => ?_)
      obtain ⟨z0, z1⟩ := z
      subst z1
      refine R_if_eq fX8_reads_75 rfl (fun h75 => ?_) (fun h75 => ?_)
      · refine R_iconst fX8_reads_82 ?_
        refine R_zreturn fX8_reads_83 rfl (by simp) ?_
        first
        | (have hnv : 0 ≤ nvP c n (vjP c n i) := by
             by_cases z : 0 ≤ nvP c n (vjP c n i)
             · exact z
             · rw [if_neg z] at q0; omega
           by_cases hz : chP c n (neP c n (vjP c n i)) = 59
           · rw [hch, if_pos hz] at z0
             first
             | (exfalso; omega)
             | (refine ⟨_, _, rfl, Or.inr rfl, ⟨fun _ => Or.inl ⟨hl, hnv, hz⟩, fun _ => rfl⟩, fun _ => ⟨?_, ?_, fun _ => ?_, fun y => by omega⟩, OR_st o1⟩
                · rw [stt_eq, hch, if_pos hz]; unfold enP; rw [if_pos hl]
                · rw [stt_j _ _ (by omega)]; exact a20
                · rw [stt_kr _ _ _ (by omega), q2 hnv]; unfold faP; rw [if_pos hl])
           · rw [hch, if_neg hz] at z0
             first
             | (exfalso; omega)
             | exact ⟨_, _, rfl, Or.inl rfl, ⟨fun y => by omega, fun y => by unfold okP at y; omega⟩, fun y => by omega, OR_st o1⟩)
        | (have hnv : ¬ 0 ≤ nvP c n (vjP c n i) := fun z => by rw [if_pos z] at q0; omega
           exact ⟨_, _, rfl, Or.inl rfl, ⟨fun y => by omega, fun y => by unfold okP at y; omega⟩, fun y => by omega, o1⟩)
      · refine R_iconst fX8_reads_78 ?_
        refine R_goto fX8_reads_79 rfl ?_
        refine R_zreturn fX8_reads_83 rfl (by simp) ?_
        first
        | (have hnv : 0 ≤ nvP c n (vjP c n i) := by
             by_cases z : 0 ≤ nvP c n (vjP c n i)
             · exact z
             · rw [if_neg z] at q0; omega
           by_cases hz : chP c n (neP c n (vjP c n i)) = 59
           · rw [hch, if_pos hz] at z0
             first
             | (exfalso; omega)
             | (refine ⟨_, _, rfl, Or.inr rfl, ⟨fun _ => Or.inl ⟨hl, hnv, hz⟩, fun _ => rfl⟩, fun _ => ⟨?_, ?_, fun _ => ?_, fun y => by omega⟩, OR_st o1⟩
                · rw [stt_eq, hch, if_pos hz]; unfold enP; rw [if_pos hl]
                · rw [stt_j _ _ (by omega)]; exact a20
                · rw [stt_kr _ _ _ (by omega), q2 hnv]; unfold faP; rw [if_pos hl])
           · rw [hch, if_neg hz] at z0
             first
             | (exfalso; omega)
             | exact ⟨_, _, rfl, Or.inl rfl, ⟨fun y => by omega, fun y => by unfold okP at y; omega⟩, fun y => by omega, OR_st o1⟩)
        | (have hnv : ¬ 0 ≤ nvP c n (vjP c n i) := fun z => by rw [if_pos z] at q0; omega
           exact ⟨_, _, rfl, Or.inl rfl, ⟨fun y => by omega, fun y => by unfold okP at y; omega⟩, fun y => by omega, o1⟩)
  have bb : ∀ G : FM, chP c n i = 98 → G 128 17 = i + 1 → G 128 20 = chP c n i → G 128 9 = n → G 134 = c → OR F G → Rn (d - 1) mX8_reads 84 [some (.inr (some 128))] [] kd G P (QV kd P (fun r F' => (r = 0 ∨ r = 1) ∧ (r = 1 ↔ okP c n i) ∧ (r = 1 → F' 128 17 = enP c n i ∧ F' 128 20 = chP c n i ∧ (chP c n i = 108 ∨ chP c n i = 98 → F' 135 0 = faP c n i) ∧ (chP c n i = 98 → F' 135 1 = fbP c n i)) ∧ OR F F')) := by
    intro G hl g17 g20 g9 gc go
    refine R_aload_n fX8_reads_84 rfl ?_
    refine R_iconst fX8_reads_85 ?_
    refine R_iconst fX8_reads_86 ?_
    refine R_callV fX8_reads_87 rfl rfl pX8_number rfl ⟨Nat.le_of_ble_eq_true rfl, rcv_v rfl (by omega) hM.1⟩ (sp_mnumU (by omega) hM gc ⟨g9, hn.2⟩ ⟨g17, by omega, by omega⟩ (by omega) (by omega)) (fun r F1 q => ?_)
    obtain ⟨q0, q1, q2, q3, q4⟩ := q
    have a9 : F1 128 9 = n := by rw [q4.1 9 (by omega)]; exact g9
    have ac : F1 134 = c := by rw [q4.2 134 (by omega) (by omega)]; exact gc
    have a20 : F1 128 20 = chP c n i := by rw [q4.1 20 (by omega)]; exact g20
    have o1 : OR F F1 := OR_OT go q4
    refine R_if_eq fX8_reads_90 rfl (fun h90 => ?_) (fun h90 => ?_)
    · refine R_iconst fX8_reads_124 ?_
      refine R_zreturn fX8_reads_125 rfl (by simp) ?_
      first
      | (refine ⟨_, _, rfl, Or.inr rfl, ⟨fun _ => Or.inr (Or.inl ⟨hl, ⟨hnv, hcm, hnv2⟩, hsc⟩), fun _ => rfl⟩, fun _ => ⟨?_, ?_, fun _ => ?_, fun _ => ?_⟩, OR_st o3⟩
         · rw [stt_eq]; unfold enP; rw [if_neg (by omega), if_pos hl]
         · rw [stt_j _ _ (by omega)]; exact b20
         · rw [stt_kr _ _ _ (by omega), u3 0 (by omega), stt_kr _ _ _ (by omega), q2 hnv]; unfold faP; rw [if_neg (by omega)]
         · rw [stt_kr _ _ _ (by omega), u2 hnv2]; rfl)
      | (have hno : ¬ chP c n (neP c n (neP c n (i + 1) + 1)) = 59 := fun z => by rw [if_pos z] at v0; omega
         exact ⟨_, _, rfl, Or.inl rfl, ⟨fun y => by omega, fun y => by unfold okP at y; omega⟩, fun y => by omega, OR_st o3⟩)
      | (have hno : ¬ 0 ≤ nvP c n (neP c n (i + 1) + 1) := fun z => by rw [if_pos z] at u0; omega
         exact ⟨_, _, rfl, Or.inl rfl, ⟨fun y => by omega, fun y => by unfold okP at y; omega⟩, fun y => by omega, o3⟩)
      | (have hno : ¬ chP c n (neP c n (i + 1)) = 44 := fun z => by rw [if_pos z] at z0; omega
         exact ⟨_, _, rfl, Or.inl rfl, ⟨fun y => by omega, fun y => by unfold okP at y; omega⟩, fun y => by omega, OR_st o1⟩)
      | (have hno : ¬ 0 ≤ nvP c n (i + 1) := fun z => by rw [if_pos z] at q0; omega
         exact ⟨_, _, rfl, Or.inl rfl, ⟨fun y => by omega, fun y => by unfold okP at y; omega⟩, fun y => by omega, o1⟩)
    · have hnv : 0 ≤ nvP c n (i + 1) := by
        by_cases z : 0 ≤ nvP c n (i + 1)
        · exact z
        · rw [if_neg z] at q0; omega
      refine R_aload_n fX8_reads_93 rfl ?_
      refine R_bipush fX8_reads_94 ?_
      refine R_callV fX8_reads_96 rfl rfl pX8_sign rfl ⟨Nat.le_of_ble_eq_true rfl, rcv_v rfl (by omega) hM.1⟩ (sp_msign (by omega) hM ac ⟨a9, hn.2⟩ ⟨q1, by omega, by omega⟩ (by omega)) (fun r2 F2 z => ?_)
      obtain ⟨z0, z1⟩ := z
      rw [hch4] at z0 z1
      subst z1
      refine R_if_eq fX8_reads_99 rfl (fun h99 => ?_) (fun h99 => ?_)
      · refine R_iconst fX8_reads_124 ?_
        refine R_zreturn fX8_reads_125 rfl (by simp) ?_
        first
        | (refine ⟨_, _, rfl, Or.inr rfl, ⟨fun _ => Or.inr (Or.inl ⟨hl, ⟨hnv, hcm, hnv2⟩, hsc⟩), fun _ => rfl⟩, fun _ => ⟨?_, ?_, fun _ => ?_, fun _ => ?_⟩, OR_st o3⟩
           · rw [stt_eq]; unfold enP; rw [if_neg (by omega), if_pos hl]
           · rw [stt_j _ _ (by omega)]; exact b20
           · rw [stt_kr _ _ _ (by omega), u3 0 (by omega), stt_kr _ _ _ (by omega), q2 hnv]; unfold faP; rw [if_neg (by omega)]
           · rw [stt_kr _ _ _ (by omega), u2 hnv2]; rfl)
        | (have hno : ¬ chP c n (neP c n (neP c n (i + 1) + 1)) = 59 := fun z => by rw [if_pos z] at v0; omega
           exact ⟨_, _, rfl, Or.inl rfl, ⟨fun y => by omega, fun y => by unfold okP at y; omega⟩, fun y => by omega, OR_st o3⟩)
        | (have hno : ¬ 0 ≤ nvP c n (neP c n (i + 1) + 1) := fun z => by rw [if_pos z] at u0; omega
           exact ⟨_, _, rfl, Or.inl rfl, ⟨fun y => by omega, fun y => by unfold okP at y; omega⟩, fun y => by omega, o3⟩)
        | (have hno : ¬ chP c n (neP c n (i + 1)) = 44 := fun z => by rw [if_pos z] at z0; omega
           exact ⟨_, _, rfl, Or.inl rfl, ⟨fun y => by omega, fun y => by unfold okP at y; omega⟩, fun y => by omega, OR_st o1⟩)
        | (have hno : ¬ 0 ≤ nvP c n (i + 1) := fun z => by rw [if_pos z] at q0; omega
           exact ⟨_, _, rfl, Or.inl rfl, ⟨fun y => by omega, fun y => by unfold okP at y; omega⟩, fun y => by omega, o1⟩)
      · have hcm : chP c n (neP c n (i + 1)) = 44 := by
          by_cases z : chP c n (neP c n (i + 1)) = 44
          · exact z
          · rw [if_neg z] at z0; omega
        rw [if_pos hcm]
        refine R_aload_n fX8_reads_102 rfl ?_
        refine R_iconst fX8_reads_103 ?_
        refine R_iconst fX8_reads_104 ?_
        refine R_callV fX8_reads_105 rfl rfl pX8_number rfl ⟨Nat.le_of_ble_eq_true rfl, rcv_v rfl (by omega) hM.1⟩ (sp_mnumU (c := c) (n := n) (i := neP c n (i + 1) + 1) (by omega) hM (by rw [stt_kr _ _ _ (by omega)]; exact ac) ⟨by rw [stt_j _ _ (by omega)]; exact a9, hn.2⟩ ⟨stt_eq _ _ _ _, by omega, by omega⟩ (by omega) (by omega)) (fun r3 F3 u => ?_)
        obtain ⟨u0, u1, u2, u3, u4⟩ := u
        have b9 : F3 128 9 = n := by rw [u4.1 9 (by omega), stt_j _ _ (by omega)]; exact a9
        have bc : F3 134 = c := by rw [u4.2 134 (by omega) (by omega), stt_kr _ _ _ (by omega)]; exact ac
        have b20 : F3 128 20 = chP c n i := by rw [u4.1 20 (by omega), stt_j _ _ (by omega)]; exact a20
        have o3 : OR F F3 := OR_OT (OR_st o1) u4
        refine R_if_eq fX8_reads_108 rfl (fun h108 => ?_) (fun h108 => ?_)
        · refine R_iconst fX8_reads_124 ?_
          refine R_zreturn fX8_reads_125 rfl (by simp) ?_
          first
          | (refine ⟨_, _, rfl, Or.inr rfl, ⟨fun _ => Or.inr (Or.inl ⟨hl, ⟨hnv, hcm, hnv2⟩, hsc⟩), fun _ => rfl⟩, fun _ => ⟨?_, ?_, fun _ => ?_, fun _ => ?_⟩, OR_st o3⟩
             · rw [stt_eq]; unfold enP; rw [if_neg (by omega), if_pos hl]
             · rw [stt_j _ _ (by omega)]; exact b20
             · rw [stt_kr _ _ _ (by omega), u3 0 (by omega), stt_kr _ _ _ (by omega), q2 hnv]; unfold faP; rw [if_neg (by omega)]
             · rw [stt_kr _ _ _ (by omega), u2 hnv2]; rfl)
          | (have hno : ¬ chP c n (neP c n (neP c n (i + 1) + 1)) = 59 := fun z => by rw [if_pos z] at v0; omega
             exact ⟨_, _, rfl, Or.inl rfl, ⟨fun y => by omega, fun y => by unfold okP at y; omega⟩, fun y => by omega, OR_st o3⟩)
          | (have hno : ¬ 0 ≤ nvP c n (neP c n (i + 1) + 1) := fun z => by rw [if_pos z] at u0; omega
             exact ⟨_, _, rfl, Or.inl rfl, ⟨fun y => by omega, fun y => by unfold okP at y; omega⟩, fun y => by omega, o3⟩)
          | (have hno : ¬ chP c n (neP c n (i + 1)) = 44 := fun z => by rw [if_pos z] at z0; omega
             exact ⟨_, _, rfl, Or.inl rfl, ⟨fun y => by omega, fun y => by unfold okP at y; omega⟩, fun y => by omega, OR_st o1⟩)
          | (have hno : ¬ 0 ≤ nvP c n (i + 1) := fun z => by rw [if_pos z] at q0; omega
             exact ⟨_, _, rfl, Or.inl rfl, ⟨fun y => by omega, fun y => by unfold okP at y; omega⟩, fun y => by omega, o1⟩)
        · have hnv2 : 0 ≤ nvP c n (neP c n (i + 1) + 1) := by
            by_cases z : 0 ≤ nvP c n (neP c n (i + 1) + 1)
            · exact z
            · rw [if_neg z] at u0; omega
          refine R_aload_n fX8_reads_111 rfl ?_
          refine R_bipush fX8_reads_112 ?_
          refine R_callV fX8_reads_114 rfl rfl pX8_sign rfl ⟨Nat.le_of_ble_eq_true rfl, rcv_v rfl (by omega) hM.1⟩ (sp_msign (by omega) hM bc ⟨b9, hn.2⟩ ⟨u1, by omega, by omega⟩ (by omega)) (fun r4 F4 v => ?_)
          obtain ⟨v0, v1⟩ := v
          rw [hch] at v0 v1
          subst v1
          refine R_if_eq fX8_reads_117 rfl (fun h117 => ?_) (fun h117 => ?_)
          · refine R_iconst fX8_reads_124 ?_
            refine R_zreturn fX8_reads_125 rfl (by simp) ?_
            first
            | (refine ⟨_, _, rfl, Or.inr rfl, ⟨fun _ => Or.inr (Or.inl ⟨hl, ⟨hnv, hcm, hnv2⟩, hsc⟩), fun _ => rfl⟩, fun _ => ⟨?_, ?_, fun _ => ?_, fun _ => ?_⟩, OR_st o3⟩
               · rw [stt_eq]; unfold enP; rw [if_neg (by omega), if_pos hl]
               · rw [stt_j _ _ (by omega)]; exact b20
               · rw [stt_kr _ _ _ (by omega), u3 0 (by omega), stt_kr _ _ _ (by omega), q2 hnv]; unfold faP; rw [if_neg (by omega)]
               · rw [stt_kr _ _ _ (by omega), u2 hnv2]; rfl)
            | (have hno : ¬ chP c n (neP c n (neP c n (i + 1) + 1)) = 59 := fun z => by rw [if_pos z] at v0; omega
               exact ⟨_, _, rfl, Or.inl rfl, ⟨fun y => by omega, fun y => by unfold okP at y; omega⟩, fun y => by omega, OR_st o3⟩)
            | (have hno : ¬ 0 ≤ nvP c n (neP c n (i + 1) + 1) := fun z => by rw [if_pos z] at u0; omega
               exact ⟨_, _, rfl, Or.inl rfl, ⟨fun y => by omega, fun y => by unfold okP at y; omega⟩, fun y => by omega, o3⟩)
            | (have hno : ¬ chP c n (neP c n (i + 1)) = 44 := fun z => by rw [if_pos z] at z0; omega
               exact ⟨_, _, rfl, Or.inl rfl, ⟨fun y => by omega, fun y => by unfold okP at y; omega⟩, fun y => by omega, OR_st o1⟩)
            | (have hno : ¬ 0 ≤ nvP c n (i + 1) := fun z => by rw [if_pos z] at q0; omega
               exact ⟨_, _, rfl, Or.inl rfl, ⟨fun y => by omega, fun y => by unfold okP at y; omega⟩, fun y => by omega, o1⟩)
          · have hsc : chP c n (neP c n (neP c n (i + 1) + 1)) = 59 := by
              by_cases z : chP c n (neP c n (neP c n (i + 1) + 1)) = 59
              · exact z
              · rw [if_neg z] at v0; omega
            rw [if_pos hsc]
            refine R_iconst fX8_reads_120 ?_
            refine R_goto fX8_reads_121 rfl ?_
            refine R_zreturn fX8_reads_125 rfl (by simp) ?_
            first
            | (refine ⟨_, _, rfl, Or.inr rfl, ⟨fun _ => Or.inr (Or.inl ⟨hl, ⟨hnv, hcm, hnv2⟩, hsc⟩), fun _ => rfl⟩, fun _ => ⟨?_, ?_, fun _ => ?_, fun _ => ?_⟩, OR_st o3⟩
               · rw [stt_eq]; unfold enP; rw [if_neg (by omega), if_pos hl]
               · rw [stt_j _ _ (by omega)]; exact b20
               · rw [stt_kr _ _ _ (by omega), u3 0 (by omega), stt_kr _ _ _ (by omega), q2 hnv]; unfold faP; rw [if_neg (by omega)]
               · rw [stt_kr _ _ _ (by omega), u2 hnv2]; rfl)
            | (have hno : ¬ chP c n (neP c n (neP c n (i + 1) + 1)) = 59 := fun z => by rw [if_pos z] at v0; omega
               exact ⟨_, _, rfl, Or.inl rfl, ⟨fun y => by omega, fun y => by unfold okP at y; omega⟩, fun y => by omega, OR_st o3⟩)
            | (have hno : ¬ 0 ≤ nvP c n (neP c n (i + 1) + 1) := fun z => by rw [if_pos z] at u0; omega
               exact ⟨_, _, rfl, Or.inl rfl, ⟨fun y => by omega, fun y => by unfold okP at y; omega⟩, fun y => by omega, o3⟩)
            | (have hno : ¬ chP c n (neP c n (i + 1)) = 44 := fun z => by rw [if_pos z] at z0; omega
               exact ⟨_, _, rfl, Or.inl rfl, ⟨fun y => by omega, fun y => by unfold okP at y; omega⟩, fun y => by omega, OR_st o1⟩)
            | (have hno : ¬ 0 ≤ nvP c n (i + 1) := fun z => by rw [if_pos z] at q0; omega
               exact ⟨_, _, rfl, Or.inl rfl, ⟨fun y => by omega, fun y => by unfold okP at y; omega⟩, fun y => by omega, o1⟩)
  have br : ∀ G : FM, chP c n i = 114 → G 128 17 = i + 1 → G 128 20 = chP c n i → G 128 9 = n → G 134 = c → OR F G → Rn (d - 1) mX8_reads 126 [some (.inr (some 128))] [] kd G P (QV kd P (fun r F' => (r = 0 ∨ r = 1) ∧ (r = 1 ↔ okP c n i) ∧ (r = 1 → F' 128 17 = enP c n i ∧ F' 128 20 = chP c n i ∧ (chP c n i = 108 ∨ chP c n i = 98 → F' 135 0 = faP c n i) ∧ (chP c n i = 98 → F' 135 1 = fbP c n i)) ∧ OR F F')) := by
    intro G hl g17 g20 g9 gc go
    refine R_aload_n fX8_reads_126 rfl ?_
    refine R_bipush fX8_reads_127 ?_
    refine R_callV fX8_reads_129 rfl rfl pX8_sign rfl ⟨Nat.le_of_ble_eq_true rfl, rcv_v rfl (by omega) hM.1⟩ (sp_msign (by omega) hM gc ⟨g9, hn.2⟩ ⟨g17, by omega, by omega⟩ (by omega)) (fun r F1 z => ?_)
    obtain ⟨z0, z1⟩ := z
    rw [hch] at z0 z1
    subst z1
    refine R_zreturn fX8_reads_132 rfl (by rw [z0]; split <;> simp) ?_
    by_cases hz : chP c n (i + 1) = 59
    · rw [if_pos hz] at z0
      rw [if_pos hz]
      refine ⟨_, _, rfl, Or.inr z0, ⟨fun _ => Or.inr (Or.inr ⟨hl, hz⟩), fun _ => z0⟩, fun _ => ⟨?_, ?_, fun y => by omega, fun y => by omega⟩, OR_st go⟩
      · rw [stt_eq]; unfold enP; rw [if_neg (by omega), if_neg (by omega)]; omega
      · rw [stt_j _ _ (by omega)]; exact g20
    · rw [if_neg hz] at z0
      rw [if_neg hz]
      exact ⟨_, _, rfl, Or.inl z0, ⟨fun y => by omega, fun y => by unfold okP at y; omega⟩, fun y => by omega, OR_st go⟩
  refine R_aload_n fX8_reads_0 rfl ?_
  refine R_aload_n fX8_reads_1 rfl ?_
  refine R_getP 8 fX8_reads_2 hM.1 (by omega) rfl rfl rfl hM.2.2.2.2.2.2.2.2.2.2.2.2.2.1 ?_
  refine R_aload_n fX8_reads_5 rfl ?_
  refine R_getI 17 fX8_reads_6 hM.1 (by omega) rfl rfl rfl ?_
  refine R_iaload fX8_reads_9 hM.2.2.2.2.2.2.1 (by omega) ?_
  rw [hc, hi.1]
  refine R_putI 20 fX8_reads_10 hM.1 (by omega) rfl rfl rfl ?_
  refine R_aload_n fX8_reads_13 rfl ?_
  refine R_dup fX8_reads_14 ?_
  refine R_getI 17 fX8_reads_15 hM.1 (by omega) rfl rfl rfl ?_
  rw [stt_j _ _ (by omega), hi.1]
  refine R_iconst fX8_reads_18 ?_
  refine R_iadd fX8_reads_19 (by omega) ?_
  refine R_putI 17 fX8_reads_20 hM.1 (by omega) rfl rfl rfl ?_
  refine R_aload_n fX8_reads_23 rfl ?_
  refine R_getI 20 fX8_reads_24 hM.1 (by omega) rfl rfl rfl ?_
  rw [stt_j _ _ (by omega), stt_eq, hci]
  have f17 : stt (stt F 128 20 (chP c n i)) 128 17 (i + 1) 128 17 = i + 1 := stt_eq _ _ _ _
  have f20 : stt (stt F 128 20 (chP c n i)) 128 17 (i + 1) 128 20 = chP c n i := by rw [stt_j _ _ (by omega), stt_eq]
  have f9 : stt (stt F 128 20 (chP c n i)) 128 17 (i + 1) 128 9 = n := by rw [stt_j _ _ (by omega), stt_j _ _ (by omega)]; exact hn.1
  have fc : stt (stt F 128 20 (chP c n i)) 128 17 (i + 1) 134 = c := by rw [stt_kr _ _ _ (by omega), stt_kr _ _ _ (by omega)]; exact hc
  have fo : OR F (stt (stt F 128 20 (chP c n i)) 128 17 (i + 1)) := ⟨fun j a b => by rw [stt_j _ _ a, stt_j _ _ b], fun k a b => by rw [stt_kr _ _ _ a, stt_kr _ _ _ a]⟩
  revert f17 f20 f9 fc fo
  generalize stt (stt F 128 20 (chP c n i)) 128 17 (i + 1) = G
  intro f17 f20 f9 fc fo
  by_cases y1 : chP c n i = 108
  · have h := bl G y1 f17 f20 f9 fc fo
    exact R_look (t := 60) fX8_reads_27 (by rw [y1]; rfl) h
  · by_cases y2 : chP c n i = 98
    · have h := bb G y2 f17 f20 f9 fc fo
      exact R_look (t := 84) fX8_reads_27 (by rw [y2]; rfl) h
    · by_cases y3 : chP c n i = 114
      · have h := br G y3 f17 f20 f9 fc fo
        exact R_look (t := 126) fX8_reads_27 (by rw [y3]; rfl) h
      · refine R_look (t := 133) fX8_reads_27 (look3 (by omega) (by omega) (by omega) rfl) ?_
        refine R_iconst fX8_reads_133 ?_
        refine R_zreturn fX8_reads_134 rfl (by simp) ?_
        exact ⟨_, _, rfl, Or.inl rfl, ⟨fun y => by omega, fun y => by unfold okP at y; omega⟩, fun y => by omega, fo⟩
