/-- a command of the text, read from i on -/
def vjP (c : Int → Int) (n i : Int) : Int := i + 1 + psP c n 45 (i + 1)
def okP (c : Int → Int) (n i : Int) : Prop := (chP c n i = 108 ∧ 0 ≤ nvP c n (vjP c n i) ∧ chP c n (neP c n (vjP c n i)) = 59) ∨ (chP c n i = 98 ∧ (0 ≤ nvP c n (i + 1) ∧ chP c n (neP c n (i + 1)) = 44 ∧ 0 ≤ nvP c n (neP c n (i + 1) + 1)) ∧ chP c n (neP c n (neP c n (i + 1) + 1)) = 59) ∨ (chP c n i = 114 ∧ chP c n (i + 1) = 59)
def enP (c : Int → Int) (n i : Int) : Int := if chP c n i = 108 then neP c n (vjP c n i) + 1 else if chP c n i = 98 then neP c n (neP c n (i + 1) + 1) + 1 else i + 2
def faP (c : Int → Int) (n i : Int) : Int := if chP c n i = 108 then (if chP c n (i + 1) = 45 then -nvP c n (vjP c n i) else nvP c n (vjP c n i)) else nvP c n (i + 1)
def fbP (c : Int → Int) (n i : Int) : Int := nvP c n (neP c n (i + 1) + 1)
theorem OX_of {X : Nat} {F F' : FM} (h : OY X F F') : OX X 6 9 F F' := ⟨fun j hj => h.1 j (by omega) (by omega) (by omega), h.2⟩
theorem sp_readCommand {d : Nat} {kd : KL} {F : FM} {P : PM} {X : Nat} {c : Int → Int} {n i : Int} (hd : 5 ≤ d) (hX : shT kd P X) (hn : 0 ≤ F X 1 ∧ F X 1 ≤ 60) (hcc : F (X + 1) = c) (hnn : F X 1 = n) (h2 : F X 2 = i ∧ 0 ≤ i ∧ i ≤ 100) : Sp d 53 [.inr (some X)] kd F P (QV kd P (fun r F' => (r = 0 ∨ r = 1) ∧ (r = 1 ↔ okP c n i) ∧ (r = 1 → F' X 6 = enP c n i ∧ F' X 7 = chP c n i ∧ (chP c n i = 108 ∨ chP c n i = 98 → F' X 8 = faP c n i) ∧ (chP c n i = 98 → F' X 9 = fbP c n i)) ∧ OX X 6 9 F F')) := by
  refine Sp_of (me := mX6_readCommand) (by omega) pX6_readCommand ⟨rfl, Nat.le_of_ble_eq_true rfl⟩ ?_
  have hch : ∀ j, psP c n 59 j = if chP c n j = 59 then 1 else 0 := fun _ => rfl
  have hne := neP_b (c := c) (n := n) (i := i + 1)
  have hne2 := neP_b (c := c) (n := n) (i := neP c n (i + 1) + 1)
  have hne3 := neP_b (c := c) (n := n) (i := vjP c n i)
  have hvj : i + 1 ≤ vjP c n i ∧ vjP c n i ≤ i + 2 := by
    have := psP_b (c := c) (n := n) (ch := 45) (i := i + 1)
    unfold vjP; omega
  have main : ∀ G : FM, G X 1 = n → G (X + 1) = c → G X 6 = i + 1 → G X 7 = chP c n i → OX X 6 9 F G → Rn (d - 1) mX6_readCommand 30 [some (.inr (some X))] [] kd G P (QV kd P (fun r F' => (r = 0 ∨ r = 1) ∧ (r = 1 ↔ okP c n i) ∧ (r = 1 → F' X 6 = enP c n i ∧ F' X 7 = chP c n i ∧ (chP c n i = 108 ∨ chP c n i = 98 → F' X 8 = faP c n i) ∧ (chP c n i = 98 → F' X 9 = fbP c n i)) ∧ OX X 6 9 F F')) := by
    intro G g1 gc g6 g7 go
    refine R_aload_n fX6_readCommand_30 rfl ?_
    refine R_getI 7 fX6_readCommand_31 hX.2.1 hX.1 rfl rfl rfl ?_
    rw [g7]
    refine R_bipush fX6_readCommand_34 ?_
    refine R_icmp_ne fX6_readCommand_36 rfl (fun h36 => ?_) (fun h36 => ?_)
    · refine R_aload_n fX6_readCommand_61 rfl ?_
      refine R_getI 7 fX6_readCommand_62 hX.2.1 hX.1 rfl rfl rfl ?_
      rw [g7]
      refine R_bipush fX6_readCommand_65 ?_
      refine R_icmp_ne fX6_readCommand_67 rfl (fun h67 => ?_) (fun h67 => ?_)
      · refine R_aload_n fX6_readCommand_92 rfl ?_
        refine R_getI 7 fX6_readCommand_93 hX.2.1 hX.1 rfl rfl rfl ?_
        rw [g7]
        refine R_bipush fX6_readCommand_96 ?_
        refine R_icmp_ne fX6_readCommand_98 rfl (fun h98 => ?_) (fun h98 => ?_)
        · refine R_iconst fX6_readCommand_114 ?_
          refine R_zreturn fX6_readCommand_115 rfl (by simp) ?_
          first
          | (have z3 := z2
             by_cases hz : chP c n (i + 1) = 59
             · rw [if_pos hz] at z0 z1
               first
               | (exfalso; omega)
               | (refine ⟨_, _, rfl, Or.inr rfl, ⟨fun _ => Or.inr (Or.inr ⟨h98, hz⟩), fun _ => rfl⟩, fun _ => ⟨?_, b7, fun y => by omega, fun y => by omega⟩, o2⟩
                  unfold enP; rw [if_neg h36, if_neg h67]; omega)
             · rw [if_neg hz] at z0 z1
               first
               | (exfalso; omega)
               | exact ⟨_, _, rfl, Or.inl rfl, ⟨fun y => by omega, fun y => by unfold okP at y; omega⟩, fun y => by omega, o2⟩)
          | exact ⟨_, _, rfl, Or.inl rfl, ⟨fun y => by omega, fun y => by unfold okP at y; omega⟩, fun y => by omega, go⟩
        · refine R_aload_n fX6_readCommand_101 rfl ?_
          refine R_bipush fX6_readCommand_102 ?_
          refine R_callV fX6_readCommand_104 rfl rfl pX6_passes rfl ⟨Nat.le_of_ble_eq_true rfl, rcv_v rfl hX.1 hX.2.1⟩ (sp_passes (by omega) hX (by rw [g1]; omega) (by omega)) (fun r F2 z => ?_)
          obtain ⟨z0, z1, z2⟩ := z
          rw [g1, gc, g6, hch] at z0 z1
          have b7 : F2 X 7 = chP c n i := by rw [z2.1 7 (by omega)]; exact g7
          have o2 : OX X 6 9 F F2 := OX_tr go z2 (by omega)
          refine R_if_eq fX6_readCommand_107 rfl (fun h107 => ?_) (fun h107 => ?_)
          · refine R_iconst fX6_readCommand_114 ?_
            refine R_zreturn fX6_readCommand_115 rfl (by simp) ?_
            first
            | (have z3 := z2
               by_cases hz : chP c n (i + 1) = 59
               · rw [if_pos hz] at z0 z1
                 first
                 | (exfalso; omega)
                 | (refine ⟨_, _, rfl, Or.inr rfl, ⟨fun _ => Or.inr (Or.inr ⟨h98, hz⟩), fun _ => rfl⟩, fun _ => ⟨?_, b7, fun y => by omega, fun y => by omega⟩, o2⟩
                    unfold enP; rw [if_neg h36, if_neg h67]; omega)
               · rw [if_neg hz] at z0 z1
                 first
                 | (exfalso; omega)
                 | exact ⟨_, _, rfl, Or.inl rfl, ⟨fun y => by omega, fun y => by unfold okP at y; omega⟩, fun y => by omega, o2⟩)
            | exact ⟨_, _, rfl, Or.inl rfl, ⟨fun y => by omega, fun y => by unfold okP at y; omega⟩, fun y => by omega, go⟩
          · refine R_iconst fX6_readCommand_110 ?_
            refine R_goto fX6_readCommand_111 rfl ?_
            refine R_zreturn fX6_readCommand_115 rfl (by simp) ?_
            first
            | (have z3 := z2
               by_cases hz : chP c n (i + 1) = 59
               · rw [if_pos hz] at z0 z1
                 first
                 | (exfalso; omega)
                 | (refine ⟨_, _, rfl, Or.inr rfl, ⟨fun _ => Or.inr (Or.inr ⟨h98, hz⟩), fun _ => rfl⟩, fun _ => ⟨?_, b7, fun y => by omega, fun y => by omega⟩, o2⟩
                    unfold enP; rw [if_neg h36, if_neg h67]; omega)
               · rw [if_neg hz] at z0 z1
                 first
                 | (exfalso; omega)
                 | exact ⟨_, _, rfl, Or.inl rfl, ⟨fun y => by omega, fun y => by unfold okP at y; omega⟩, fun y => by omega, o2⟩)
            | exact ⟨_, _, rfl, Or.inl rfl, ⟨fun y => by omega, fun y => by unfold okP at y; omega⟩, fun y => by omega, go⟩
      · refine R_aload_n fX6_readCommand_70 rfl ?_
        refine R_callV fX6_readCommand_71 rfl rfl pX6_readBid rfl ⟨Nat.le_of_ble_eq_true rfl, rcv_v rfl hX.1 hX.2.1⟩ (sp_readBid (by omega) hX (by rw [g1]; omega) (by omega)) (fun r F1 q => ?_)
        obtain ⟨q0, q1, q2, q4, q3⟩ := q
        rw [g1, gc, g6] at q1 q2
        have a1 : F1 X 1 = n := by rw [q3.1 1 (by omega) (by omega) (by omega)]; exact g1
        have ac : F1 (X + 1) = c := by rw [q3.2 _ (by omega)]; exact gc
        have a7 : F1 X 7 = chP c n i := by rw [q3.1 7 (by omega) (by omega) (by omega)]; exact g7
        have o1 : OX X 6 9 F F1 := OX_tr go (OX_of q3) (by omega)
        refine R_if_eq fX6_readCommand_74 rfl (fun h74 => ?_) (fun h74 => ?_)
        · refine R_iconst fX6_readCommand_90 ?_
          refine R_zreturn fX6_readCommand_91 rfl (by simp) ?_
          first
          | (have q7 := q6
             by_cases hz : chP c n (neP c n (neP c n (i + 1) + 1)) = 59
             · rw [if_pos hz] at z0 z1
               first
               | (exfalso; omega)
               | (refine ⟨_, _, rfl, Or.inr rfl, ⟨fun _ => Or.inr (Or.inl ⟨h67, q6, hz⟩), fun _ => rfl⟩, fun _ => ⟨?_, b7, fun _ => ?_, fun _ => ?_⟩, o2⟩
                  · unfold enP; rw [if_neg h36, if_pos h67]; exact z1
                  · unfold faP; rw [if_neg h36, b8]; exact q5.2.1
                  · rw [b9]; exact q5.2.2)
             · rw [if_neg hz] at z0 z1
               first
               | (exfalso; omega)
               | exact ⟨_, _, rfl, Or.inl rfl, ⟨fun y => by omega, fun y => by unfold okP at y; omega⟩, fun y => by omega, o2⟩)
          | exact ⟨_, _, rfl, Or.inl rfl, ⟨fun y => by omega, fun y => by
               have hnr : ¬ (0 ≤ nvP c n (i + 1) ∧ chP c n (neP c n (i + 1)) = 44 ∧ 0 ≤ nvP c n (neP c n (i + 1) + 1)) := fun z => by have := q1.mpr z; omega
               unfold okP at y; omega⟩, fun y => by omega, o1⟩
        · refine R_aload_n fX6_readCommand_77 rfl ?_
          refine R_bipush fX6_readCommand_78 ?_
          have hr1 : r = 1 := by omega
          have q5 := q2 hr1
          have q6 := q1.mp hr1
          refine R_callV fX6_readCommand_80 rfl rfl pX6_passes rfl ⟨Nat.le_of_ble_eq_true rfl, rcv_v rfl hX.1 hX.2.1⟩ (sp_passes (by omega) hX (by rw [a1]; omega) (by omega)) (fun r F2 z => ?_)
          obtain ⟨z0, z1, z2⟩ := z
          rw [a1, ac, q5.1, hch] at z0 z1
          have b7 : F2 X 7 = chP c n i := by rw [z2.1 7 (by omega)]; exact a7
          have b8 : F2 X 8 = F1 X 8 := z2.1 8 (by omega)
          have b9 : F2 X 9 = F1 X 9 := z2.1 9 (by omega)
          have o2 : OX X 6 9 F F2 := OX_tr o1 z2 (by omega)
          refine R_if_eq fX6_readCommand_83 rfl (fun h83 => ?_) (fun h83 => ?_)
          · refine R_iconst fX6_readCommand_90 ?_
            refine R_zreturn fX6_readCommand_91 rfl (by simp) ?_
            first
            | (have q7 := q6
               by_cases hz : chP c n (neP c n (neP c n (i + 1) + 1)) = 59
               · rw [if_pos hz] at z0 z1
                 first
                 | (exfalso; omega)
                 | (refine ⟨_, _, rfl, Or.inr rfl, ⟨fun _ => Or.inr (Or.inl ⟨h67, q6, hz⟩), fun _ => rfl⟩, fun _ => ⟨?_, b7, fun _ => ?_, fun _ => ?_⟩, o2⟩
                    · unfold enP; rw [if_neg h36, if_pos h67]; exact z1
                    · unfold faP; rw [if_neg h36, b8]; exact q5.2.1
                    · rw [b9]; exact q5.2.2)
               · rw [if_neg hz] at z0 z1
                 first
                 | (exfalso; omega)
                 | exact ⟨_, _, rfl, Or.inl rfl, ⟨fun y => by omega, fun y => by unfold okP at y; omega⟩, fun y => by omega, o2⟩)
            | exact ⟨_, _, rfl, Or.inl rfl, ⟨fun y => by omega, fun y => by
                 have hnr : ¬ (0 ≤ nvP c n (i + 1) ∧ chP c n (neP c n (i + 1)) = 44 ∧ 0 ≤ nvP c n (neP c n (i + 1) + 1)) := fun z => by have := q1.mpr z; omega
                 unfold okP at y; omega⟩, fun y => by omega, o1⟩
          · refine R_iconst fX6_readCommand_86 ?_
            refine R_goto fX6_readCommand_87 rfl ?_
            refine R_zreturn fX6_readCommand_91 rfl (by simp) ?_
            first
            | (have q7 := q6
               by_cases hz : chP c n (neP c n (neP c n (i + 1) + 1)) = 59
               · rw [if_pos hz] at z0 z1
                 first
                 | (exfalso; omega)
                 | (refine ⟨_, _, rfl, Or.inr rfl, ⟨fun _ => Or.inr (Or.inl ⟨h67, q6, hz⟩), fun _ => rfl⟩, fun _ => ⟨?_, b7, fun _ => ?_, fun _ => ?_⟩, o2⟩
                    · unfold enP; rw [if_neg h36, if_pos h67]; exact z1
                    · unfold faP; rw [if_neg h36, b8]; exact q5.2.1
                    · rw [b9]; exact q5.2.2)
               · rw [if_neg hz] at z0 z1
                 first
                 | (exfalso; omega)
                 | exact ⟨_, _, rfl, Or.inl rfl, ⟨fun y => by omega, fun y => by unfold okP at y; omega⟩, fun y => by omega, o2⟩)
            | exact ⟨_, _, rfl, Or.inl rfl, ⟨fun y => by omega, fun y => by
                 have hnr : ¬ (0 ≤ nvP c n (i + 1) ∧ chP c n (neP c n (i + 1)) = 44 ∧ 0 ≤ nvP c n (neP c n (i + 1) + 1)) := fun z => by have := q1.mpr z; omega
                 unfold okP at y; omega⟩, fun y => by omega, o1⟩
    · refine R_aload_n fX6_readCommand_39 rfl ?_
      refine R_callV fX6_readCommand_40 rfl rfl pX6_readValue rfl ⟨Nat.le_of_ble_eq_true rfl, rcv_v rfl hX.1 hX.2.1⟩ (sp_readValue (by omega) hX (by rw [g1]; omega) (by omega)) (fun r F1 q => ?_)
      obtain ⟨q0, q1, q2, q3⟩ := q
      rw [g1, gc, g6] at q0 q1 q2
      rw [show i + 1 + psP c n 45 (i + 1) = vjP c n i from rfl] at q0 q1 q2
      have a1 : F1 X 1 = n := by rw [q3.1 1 (by omega) (by omega) (by omega)]; exact g1
      have ac : F1 (X + 1) = c := by rw [q3.2 _ (by omega)]; exact gc
      have a7 : F1 X 7 = chP c n i := by rw [q3.1 7 (by omega) (by omega) (by omega)]; exact g7
      have o1 : OX X 6 9 F F1 := OX_tr go (OX_of q3) (by omega)
      refine R_if_eq fX6_readCommand_43 rfl (fun h43 => ?_) (fun h43 => ?_)
      · refine R_iconst fX6_readCommand_59 ?_
        refine R_zreturn fX6_readCommand_60 rfl (by simp) ?_
        first
        | (have hnv : 0 ≤ nvP c n (vjP c n i) := by
             by_cases z : 0 ≤ nvP c n (vjP c n i)
             · exact z
             · rw [if_neg z] at q0; omega
           by_cases hz : chP c n (neP c n (vjP c n i)) = 59
           · rw [if_pos hz] at z0 z1
             first
             | (exfalso; omega)
             | (refine ⟨_, _, rfl, Or.inr rfl, ⟨fun _ => Or.inl ⟨h36, hnv, hz⟩, fun _ => rfl⟩, fun _ => ⟨?_, b7, fun _ => ?_, fun y => by omega⟩, o2⟩
                · unfold enP; rw [if_pos h36]; exact z1
                · unfold faP; rw [if_pos h36, b8]; exact q2)
           · rw [if_neg hz] at z0 z1
             first
             | (exfalso; omega)
             | exact ⟨_, _, rfl, Or.inl rfl, ⟨fun y => by omega, fun y => by unfold okP at y; omega⟩, fun y => by omega, o2⟩)
        | (have hnv : ¬ 0 ≤ nvP c n (vjP c n i) := fun z => by rw [if_pos z] at q0; omega
           exact ⟨_, _, rfl, Or.inl rfl, ⟨fun y => by omega, fun y => by unfold okP at y; omega⟩, fun y => by omega, o1⟩)
      · refine R_aload_n fX6_readCommand_46 rfl ?_
        refine R_bipush fX6_readCommand_47 ?_
        refine R_callV fX6_readCommand_49 rfl rfl pX6_passes rfl ⟨Nat.le_of_ble_eq_true rfl, rcv_v rfl hX.1 hX.2.1⟩ (sp_passes (by omega) hX (by rw [a1]; omega) (by omega)) (fun r F2 z => ?_)
        obtain ⟨z0, z1, z2⟩ := z
        rw [a1, ac, q1, hch] at z0 z1
        have b7 : F2 X 7 = chP c n i := by rw [z2.1 7 (by omega)]; exact a7
        have b8 : F2 X 8 = F1 X 8 := z2.1 8 (by omega)
        have b9 : F2 X 9 = F1 X 9 := z2.1 9 (by omega)
        have o2 : OX X 6 9 F F2 := OX_tr o1 z2 (by omega)
        refine R_if_eq fX6_readCommand_52 rfl (fun h52 => ?_) (fun h52 => ?_)
        · refine R_iconst fX6_readCommand_59 ?_
          refine R_zreturn fX6_readCommand_60 rfl (by simp) ?_
          first
          | (have hnv : 0 ≤ nvP c n (vjP c n i) := by
               by_cases z : 0 ≤ nvP c n (vjP c n i)
               · exact z
               · rw [if_neg z] at q0; omega
             by_cases hz : chP c n (neP c n (vjP c n i)) = 59
             · rw [if_pos hz] at z0 z1
               first
               | (exfalso; omega)
               | (refine ⟨_, _, rfl, Or.inr rfl, ⟨fun _ => Or.inl ⟨h36, hnv, hz⟩, fun _ => rfl⟩, fun _ => ⟨?_, b7, fun _ => ?_, fun y => by omega⟩, o2⟩
                  · unfold enP; rw [if_pos h36]; exact z1
                  · unfold faP; rw [if_pos h36, b8]; exact q2)
             · rw [if_neg hz] at z0 z1
               first
               | (exfalso; omega)
               | exact ⟨_, _, rfl, Or.inl rfl, ⟨fun y => by omega, fun y => by unfold okP at y; omega⟩, fun y => by omega, o2⟩)
          | (have hnv : ¬ 0 ≤ nvP c n (vjP c n i) := fun z => by rw [if_pos z] at q0; omega
             exact ⟨_, _, rfl, Or.inl rfl, ⟨fun y => by omega, fun y => by unfold okP at y; omega⟩, fun y => by omega, o1⟩)
        · refine R_iconst fX6_readCommand_55 ?_
          refine R_goto fX6_readCommand_56 rfl ?_
          refine R_zreturn fX6_readCommand_60 rfl (by simp) ?_
          first
          | (have hnv : 0 ≤ nvP c n (vjP c n i) := by
               by_cases z : 0 ≤ nvP c n (vjP c n i)
               · exact z
               · rw [if_neg z] at q0; omega
             by_cases hz : chP c n (neP c n (vjP c n i)) = 59
             · rw [if_pos hz] at z0 z1
               first
               | (exfalso; omega)
               | (refine ⟨_, _, rfl, Or.inr rfl, ⟨fun _ => Or.inl ⟨h36, hnv, hz⟩, fun _ => rfl⟩, fun _ => ⟨?_, b7, fun _ => ?_, fun y => by omega⟩, o2⟩
                  · unfold enP; rw [if_pos h36]; exact z1
                  · unfold faP; rw [if_pos h36, b8]; exact q2)
             · rw [if_neg hz] at z0 z1
               first
               | (exfalso; omega)
               | exact ⟨_, _, rfl, Or.inl rfl, ⟨fun y => by omega, fun y => by unfold okP at y; omega⟩, fun y => by omega, o2⟩)
          | (have hnv : ¬ 0 ≤ nvP c n (vjP c n i) := fun z => by rw [if_pos z] at q0; omega
             exact ⟨_, _, rfl, Or.inl rfl, ⟨fun y => by omega, fun y => by unfold okP at y; omega⟩, fun y => by omega, o1⟩)
  refine R_aload_n fX6_readCommand_0 rfl ?_
  refine R_aload_n fX6_readCommand_1 rfl ?_
  refine R_getI 2 fX6_readCommand_2 hX.2.1 hX.1 rfl rfl rfl ?_
  refine R_putI 6 fX6_readCommand_5 hX.2.1 hX.1 rfl rfl rfl ?_
  refine R_aload_n fX6_readCommand_8 rfl ?_
  refine R_aload_n fX6_readCommand_9 rfl ?_
  refine R_aload_n fX6_readCommand_10 rfl ?_
  refine R_getI 6 fX6_readCommand_11 hX.2.1 hX.1 rfl rfl rfl ?_
  refine R_callE fX6_readCommand_14 rfl rfl pX6_characterAt rfl ⟨Nat.le_of_ble_eq_true rfl, rcv_v rfl hX.1 hX.2.1⟩ (sp_characterAt (by omega) hX (by rw [stt_j _ _ (by omega)]; exact hn)) ?_
  rw [stt_eq, stt_j _ _ (by omega), stt_kr _ _ _ (by omega), hcc, hnn, h2.1]
  refine R_putI 7 fX6_readCommand_17 hX.2.1 hX.1 rfl rfl rfl ?_
  refine R_aload_n fX6_readCommand_20 rfl ?_
  refine R_dup fX6_readCommand_21 ?_
  refine R_getI 6 fX6_readCommand_22 hX.2.1 hX.1 rfl rfl rfl ?_
  refine R_iconst fX6_readCommand_25 ?_
  refine R_iadd fX6_readCommand_26 (by rw [stt_j _ _ (by omega), stt_eq]; omega) ?_
  refine R_putI 6 fX6_readCommand_27 hX.2.1 hX.1 rfl rfl rfl ?_
  refine main _ ?_ ?_ ?_ ?_ ?_
  · simp (disch := omega) only [stt_j]; exact hnn
  · simp (disch := omega) only [stt_kr]; exact hcc
  · simp (disch := omega) only [stt_j, stt_eq]
  · simp (disch := omega) only [stt_j, stt_eq]
  · exact OX_tr (OX_tr (OX_st (a := 6) (b := 9) (by omega)) (OX_st (a := 6) (b := 9) (by omega)) (c := 6) (e := 9) (by omega)) (OX_st (a := 6) (b := 9) (by omega)) (by omega)
