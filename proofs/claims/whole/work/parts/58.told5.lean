/-- what a text's run changes -/
def PLo (F F' : FM) : Prop := (∀ j, j ≠ 7 → j ≠ 17 → j ≠ 18 → j ≠ 19 → j ≠ 20 → F' 128 j = F 128 j) ∧ ∀ k, k ≠ 128 → k ≠ 129 → k ≠ 135 → F' k = F k
theorem PLo_OR {F G H : FM} (h : PLo F G) (h2 : OR G H) : PLo F H := ⟨fun j a b c e f => by rw [h2.1 j b f]; exact h.1 j a b c e f, fun k a b c => by rw [h2.2 k a c]; exact h.2 k a b c⟩
theorem PLo_st {F G : FM} {j v : Int} (h : PLo F G) (hj : j = 7 ∨ j = 17 ∨ j = 18 ∨ j = 19 ∨ j = 20) : PLo F (stt G 128 j v) := ⟨fun i a b c e f => by rw [stt_j _ _ (by omega)]; exact h.1 i a b c e f, fun k a b c => by rw [stt_kr _ _ _ a]; exact h.2 k a b c⟩
theorem PLo_set {F G : FM} {g : Int → Int} (h : PLo F G) : PLo F (setr G 129 g) := ⟨fun i a b c e f => by rw [setr_ne _ _ (by omega)]; exact h.1 i a b c e f, fun k a b c => by rw [setr_ne _ _ b]; exact h.2 k a b c⟩
def PLq (F : FM) (T : Int × Int × Int × Int × (Int → Int)) : Int → FM → Prop := fun r F' => r = (if T.2.1 = 0 then -1000004 else T.1) ∧ F' 129 = T.2.2.2.2 ∧ (T.2.1 = 0 → F' 128 19 = T.2.2.2.1) ∧ (T.2.1 ≠ 0 → F' 128 18 = T.2.2.1) ∧ F' 128 7 = 0 ∧ PLo F F'
theorem sp_mplays {d : Nat} {kd : KL} {F : FM} {P : PM} {c s : Int → Int} {n : Int} (hd : 6 ≤ d) (hM : shM kd P) (hc : F 134 = c) (hn : F 128 9 = n ∧ 0 ≤ n ∧ n ≤ 60) (h126 : F 129 = s) (hw : WF s) (h2 : s 2 + 60 ≤ 20000) : Sp d 135 [.inr (some 128)] kd F P (QV kd P (PLq F (PF c n s))) := by
  refine Sp_of (me := mX8_plays) (by omega) pX8_plays ⟨rfl, Nat.le_of_ble_eq_true rfl⟩ ?_
  have e0 : ∀ (G : FM) (fr : Int) (j3 : Option AV) (Q : RS → Prop), Q (some (.inl fr), kd, stt G 128 7 0, P) → Rn (d - 1) mX8_plays 19 [some (.inr (some 128)), some (.inl fr), some (.inl 0), j3] [] kd G P Q := by
    intro G fr j3 Q hq
    refine R_aload_n fX8_plays_19 rfl ?_
    refine R_getI 17 fX8_plays_20 hM.1 (by omega) rfl rfl rfl ?_
    refine R_aload_n fX8_plays_23 rfl ?_
    refine R_getI 9 fX8_plays_24 hM.1 (by omega) rfl rfl rfl ?_
    refine R_icmp_ge fX8_plays_27 rfl (fun h27 => ?_) (fun h27 => ?_)
    · refine R_aload_n fX8_plays_91 rfl ?_
      refine R_iconst fX8_plays_92 ?_
      refine R_putZ 7 fX8_plays_93 hM.1 (by omega) rfl rfl rfl (by omega) ?_
      refine R_iload_n fX8_plays_96 rfl ?_
      refine R_if_eq fX8_plays_97 rfl (fun h97 => ?_) (fun h97 => absurd h97 (by omega))
      refine R_iload_n fX8_plays_105 rfl ?_
      refine R_ireturn fX8_plays_106 rfl ?_
      exact hq
    · refine R_iload_n fX8_plays_30 rfl ?_
      refine R_if_eq fX8_plays_31 rfl (fun h31 => ?_) (fun h31 => absurd h31 (by omega))
      refine R_aload_n fX8_plays_91 rfl ?_
      refine R_iconst fX8_plays_92 ?_
      refine R_putZ 7 fX8_plays_93 hM.1 (by omega) rfl rfl rfl (by omega) ?_
      refine R_iload_n fX8_plays_96 rfl ?_
      refine R_if_eq fX8_plays_97 rfl (fun h97 => ?_) (fun h97 => absurd h97 (by omega))
      refine R_iload_n fX8_plays_105 rfl ?_
      refine R_ireturn fX8_plays_106 rfl ?_
      exact hq
  have e1 : ∀ (G : FM) (fr : Int) (j3 : Option AV) (Q : RS → Prop), Q (some (.inl (-1000004)), kd, stt G 128 7 0, P) → Rn (d - 1) mX8_plays 91 [some (.inr (some 128)), some (.inl fr), some (.inl 1), j3] [] kd G P Q := by
    intro G fr j3 Q hq
    refine R_aload_n fX8_plays_91 rfl ?_
    refine R_iconst fX8_plays_92 ?_
    refine R_putZ 7 fX8_plays_93 hM.1 (by omega) rfl rfl rfl (by omega) ?_
    refine R_iload_n fX8_plays_96 rfl ?_
    refine R_if_eq fX8_plays_97 rfl (fun h97 => absurd h97 (by omega)) (fun h97 => ?_)
    refine R_ldc fX8_plays_100 ?_
    refine R_goto fX8_plays_102 rfl ?_
    refine R_ireturn fX8_plays_106 rfl ?_
    exact hq
  have lp : ∀ (N : Nat) (pos cm fr : Int) (s1 : Int → Int) (G : FM) (j3 : Option AV), 0 ≤ pos → pos ≤ 100 → n - pos ≤ N → (0 ≤ cm ∧ 2 * cm ≤ pos) → WF s1 → s1 2 + N ≤ 20000 → G 128 17 = pos → G 128 9 = n → G 134 = c → G 129 = s1 → G 128 19 = cm → G 128 7 = 1 → PLo F G → Rn (d - 1) mX8_plays 19 [some (.inr (some 128)), some (.inl fr), some (.inl 1), j3] [] kd G P (QV kd P (PLq F (pfm c n N s1 pos cm))) := by
    intro N
    induction N with
    | zero =>
      intro pos cm fr s1 G j3 p0 p1 pn hcm hw1 hs2 g17 g9 gc g126 g19 g7 go
      refine R_aload_n fX8_plays_19 rfl ?_
      refine R_getI 17 fX8_plays_20 hM.1 (by omega) rfl rfl rfl ?_
      rw [g17]
      refine R_aload_n fX8_plays_23 rfl ?_
      refine R_getI 9 fX8_plays_24 hM.1 (by omega) rfl rfl rfl ?_
      rw [g9]
      refine R_icmp_ge fX8_plays_27 rfl (fun h27 => ?_) (fun h27 => absurd h27 (by omega))
      refine e1 _ _ _ _ ?_
      refine ⟨_, _, rfl, rfl, ?_, fun _ => ?_, fun z => absurd rfl z, stt_eq _ _ _ _, PLo_st go (by omega)⟩
      · rw [stt_kr _ _ _ (by omega)]; exact g126
      · rw [stt_j _ _ (by omega)]; exact g19
    | succ N ih =>
      intro pos cm fr s1 G j3 p0 p1 pn hcm hw1 hs2 g17 g9 gc g126 g19 g7 go
      refine R_aload_n fX8_plays_19 rfl ?_
      refine R_getI 17 fX8_plays_20 hM.1 (by omega) rfl rfl rfl ?_
      rw [g17]
      refine R_aload_n fX8_plays_23 rfl ?_
      refine R_getI 9 fX8_plays_24 hM.1 (by omega) rfl rfl rfl ?_
      rw [g9]
      refine R_icmp_ge fX8_plays_27 rfl (fun h27 => ?_) (fun h27 => ?_)
      · refine e1 _ _ _ _ ?_
        have e : pfm c n (N + 1) s1 pos cm = (pos, 0, 0, cm, s1) := by unfold pfm; rw [if_neg (by omega)]
        rw [e]
        refine ⟨_, _, rfl, rfl, ?_, fun _ => ?_, fun z => absurd rfl z, stt_eq _ _ _ _, PLo_st go (by omega)⟩
        · rw [stt_kr _ _ _ (by omega)]; exact g126
        · rw [stt_j _ _ (by omega)]; exact g19
      · refine R_iload_n fX8_plays_30 rfl ?_
        refine R_if_eq fX8_plays_31 rfl (fun h31 => absurd h31 (by omega)) (fun h31 => ?_)
        refine R_aload_n fX8_plays_34 rfl ?_
        refine R_getI 17 fX8_plays_35 hM.1 (by omega) rfl rfl rfl ?_
        rw [g17]
        refine R_istore_n fX8_plays_38 rfl ?_
        refine R_aload_n fX8_plays_39 rfl ?_
        refine R_callV fX8_plays_40 rfl rfl pX8_reads rfl ⟨Nat.le_of_ble_eq_true rfl, rcv_v rfl (by omega) hM.1⟩ (sp_mreads (by omega) hM gc ⟨g9, hn.2⟩ ⟨g17, by omega, by omega⟩ (by omega)) (fun r F1 q => ?_)
        obtain ⟨q0, q1, q2, q3⟩ := q
        have b9 : F1 128 9 = n := by rw [q3.1 9 (by omega) (by omega)]; exact g9
        have bc : F1 134 = c := by rw [q3.2 134 (by omega) (by omega)]; exact gc
        have b126 : F1 129 = s1 := by rw [q3.2 129 (by omega) (by omega)]; exact g126
        have b7 : F1 128 7 = 1 := by rw [q3.1 7 (by omega) (by omega)]; exact g7
        have b19 : F1 128 19 = cm := by rw [q3.1 19 (by omega) (by omega)]; exact g19
        have bo : PLo F F1 := PLo_OR go q3
        refine R_istore_n fX8_plays_43 rfl ?_
        refine R_aload_n fX8_plays_44 rfl ?_
        refine R_iload_n fX8_plays_45 rfl ?_
        refine R_if_eq fX8_plays_46 rfl (fun h46 => ?_) (fun h46 => ?_)
        · refine R_iconst fX8_plays_56 ?_
          refine R_putI 18 fX8_plays_57 hM.1 (by omega) rfl rfl rfl ?_
          refine R_iload_n fX8_plays_60 rfl ?_
          refine R_if_eq fX8_plays_61 rfl (fun h61 => ?_) (fun h61 => ?_)
          · refine R_iconst fX8_plays_76 ?_
            refine R_istore_n fX8_plays_77 rfl ?_
            refine R_aload_n fX8_plays_78 rfl ?_
            refine R_dup fX8_plays_79 ?_
            refine R_getI 19 fX8_plays_80 hM.1 (by omega) rfl rfl rfl ?_
            first | rw [stt_j _ _ (by omega), f125, b19] | rw [stt_j _ _ (by omega), b19]
            refine R_iconst fX8_plays_83 ?_
            refine R_iadd fX8_plays_84 (by omega) ?_
            refine R_putI 19 fX8_plays_85 hM.1 (by omega) rfl rfl rfl ?_
            refine R_goto fX8_plays_88 rfl ?_
            first
            | (exfalso; omega)
            | (have hno : ¬ okP c n pos := fun z => absurd (q1.mpr z) (by omega)
               have e : pfm c n (N + 1) s1 pos cm = (pos, 1, 0, cm, s1) := by unfold pfm; rw [if_pos (by omega), if_neg (by rw [cI_f hno]; omega)]
               have hr0 : r = 0 := by omega
               refine e0 _ _ _ _ ?_
               rw [e]
               refine ⟨_, _, rfl, ?_, ?_, fun z => ?_, fun _ => ?_, stt_eq _ _ _ _, PLo_st (PLo_st (PLo_st bo (by omega)) (by omega)) (by omega)⟩
               · show pos = if (1 : Int) = 0 then -1000004 else pos
                 rw [if_neg (by omega)]
               · rw [stt_kr _ _ _ (by omega), stt_kr _ _ _ (by omega), stt_kr _ _ _ (by omega)]; exact b126
               · exact absurd (show (1 : Int) = 0 from z) (by omega)
               · rw [stt_j _ _ (by omega), stt_j _ _ (by omega), stt_eq])
            | (have hlt : r2 < -1 := h69
               have he : aCall s1 (chP c n pos) (faP c n pos) (fbP c n pos) ≤ -1000001 := by
                 have := aCall_ge (ch := chP c n pos) (a := faP c n pos) (b := fbP c n pos) hw1
                 omega
               have e : pfm c n (N + 1) s1 pos cm = (pos, 2, aCall s1 (chP c n pos) (faP c n pos) (fbP c n pos), cm, tCall s1 (chP c n pos) (faP c n pos) (fbP c n pos)) := by unfold pfm; rw [if_pos (by omega), if_pos (cI_t hok), if_pos he]
               refine e0 _ _ _ _ ?_
               rw [e]
               refine ⟨_, _, rfl, ?_, ?_, fun z => ?_, fun _ => ?_, stt_eq _ _ _ _, PLo_st (PLo_st (PLo_st fo (by omega)) (by omega)) (by omega)⟩
               · show pos = if (2 : Int) = 0 then -1000004 else pos
                 rw [if_neg (by omega)]
               · rw [stt_kr _ _ _ (by omega), stt_kr _ _ _ (by omega), stt_kr _ _ _ (by omega)]; exact f126
               · exact absurd (show (2 : Int) = 0 from z) (by omega)
               · rw [stt_j _ _ (by omega), stt_j _ _ (by omega), stt_eq]; exact u0)
            | (have hge : -1 ≤ r2 := h69
               have he : ¬ aCall s1 (chP c n pos) (faP c n pos) (fbP c n pos) ≤ -1000001 := by omega
               have e : pfm c n (N + 1) s1 pos cm = pfm c n N (tCall s1 (chP c n pos) (faP c n pos) (fbP c n pos)) (enP c n pos) (cm + 1) := by rw [pfm, if_pos (by omega), if_pos (cI_t hok), if_neg he]
               have hen := okP_ch hok
               have ht2 := tCall_2 (k := chP c n pos) (a := faP c n pos) (b := fbP c n pos) hw1 (by omega)
               rw [e]
               refine ih _ _ _ _ _ _ (by omega) (by omega) (by omega) (by omega) (WF_tCall hw1 (by omega)) (by omega) ?_ ?_ ?_ ?_ (stt_eq _ _ _ _) ?_ (PLo_st (PLo_st fo (by omega)) (by omega))
               · rw [stt_j _ _ (by omega), stt_j _ _ (by omega), f125]; exact q4.1
               · rw [stt_j _ _ (by omega), stt_j _ _ (by omega), f125]; exact b9
               · rw [stt_kr _ _ _ (by omega), stt_kr _ _ _ (by omega)]; exact f131
               · rw [stt_kr _ _ _ (by omega), stt_kr _ _ _ (by omega)]; exact f126
               · rw [stt_j _ _ (by omega), stt_j _ _ (by omega), f125]; exact b7)
          · refine R_aload_n fX8_plays_64 rfl ?_
            refine R_getI 18 fX8_plays_65 hM.1 (by omega) rfl rfl rfl ?_
            rw [stt_eq]
            refine R_iconst fX8_plays_68 ?_
            refine R_icmp_lt fX8_plays_69 rfl (fun h69 => ?_) (fun h69 => ?_)
            · refine R_iconst fX8_plays_76 ?_
              refine R_istore_n fX8_plays_77 rfl ?_
              refine R_aload_n fX8_plays_78 rfl ?_
              refine R_dup fX8_plays_79 ?_
              refine R_getI 19 fX8_plays_80 hM.1 (by omega) rfl rfl rfl ?_
              first | rw [stt_j _ _ (by omega), f125, b19] | rw [stt_j _ _ (by omega), b19]
              refine R_iconst fX8_plays_83 ?_
              refine R_iadd fX8_plays_84 (by omega) ?_
              refine R_putI 19 fX8_plays_85 hM.1 (by omega) rfl rfl rfl ?_
              refine R_goto fX8_plays_88 rfl ?_
              first
              | (exfalso; omega)
              | (have hno : ¬ okP c n pos := fun z => absurd (q1.mpr z) (by omega)
                 have e : pfm c n (N + 1) s1 pos cm = (pos, 1, 0, cm, s1) := by unfold pfm; rw [if_pos (by omega), if_neg (by rw [cI_f hno]; omega)]
                 have hr0 : r = 0 := by omega
                 refine e0 _ _ _ _ ?_
                 rw [e]
                 refine ⟨_, _, rfl, ?_, ?_, fun z => ?_, fun _ => ?_, stt_eq _ _ _ _, PLo_st (PLo_st (PLo_st bo (by omega)) (by omega)) (by omega)⟩
                 · show pos = if (1 : Int) = 0 then -1000004 else pos
                   rw [if_neg (by omega)]
                 · rw [stt_kr _ _ _ (by omega), stt_kr _ _ _ (by omega), stt_kr _ _ _ (by omega)]; exact b126
                 · exact absurd (show (1 : Int) = 0 from z) (by omega)
                 · rw [stt_j _ _ (by omega), stt_j _ _ (by omega), stt_eq])
              | (have hlt : r2 < -1 := h69
                 have he : aCall s1 (chP c n pos) (faP c n pos) (fbP c n pos) ≤ -1000001 := by
                   have := aCall_ge (ch := chP c n pos) (a := faP c n pos) (b := fbP c n pos) hw1
                   omega
                 have e : pfm c n (N + 1) s1 pos cm = (pos, 2, aCall s1 (chP c n pos) (faP c n pos) (fbP c n pos), cm, tCall s1 (chP c n pos) (faP c n pos) (fbP c n pos)) := by unfold pfm; rw [if_pos (by omega), if_pos (cI_t hok), if_pos he]
                 refine e0 _ _ _ _ ?_
                 rw [e]
                 refine ⟨_, _, rfl, ?_, ?_, fun z => ?_, fun _ => ?_, stt_eq _ _ _ _, PLo_st (PLo_st (PLo_st fo (by omega)) (by omega)) (by omega)⟩
                 · show pos = if (2 : Int) = 0 then -1000004 else pos
                   rw [if_neg (by omega)]
                 · rw [stt_kr _ _ _ (by omega), stt_kr _ _ _ (by omega), stt_kr _ _ _ (by omega)]; exact f126
                 · exact absurd (show (2 : Int) = 0 from z) (by omega)
                 · rw [stt_j _ _ (by omega), stt_j _ _ (by omega), stt_eq]; exact u0)
              | (have hge : -1 ≤ r2 := h69
                 have he : ¬ aCall s1 (chP c n pos) (faP c n pos) (fbP c n pos) ≤ -1000001 := by omega
                 have e : pfm c n (N + 1) s1 pos cm = pfm c n N (tCall s1 (chP c n pos) (faP c n pos) (fbP c n pos)) (enP c n pos) (cm + 1) := by rw [pfm, if_pos (by omega), if_pos (cI_t hok), if_neg he]
                 have hen := okP_ch hok
                 have ht2 := tCall_2 (k := chP c n pos) (a := faP c n pos) (b := fbP c n pos) hw1 (by omega)
                 rw [e]
                 refine ih _ _ _ _ _ _ (by omega) (by omega) (by omega) (by omega) (WF_tCall hw1 (by omega)) (by omega) ?_ ?_ ?_ ?_ (stt_eq _ _ _ _) ?_ (PLo_st (PLo_st fo (by omega)) (by omega))
                 · rw [stt_j _ _ (by omega), stt_j _ _ (by omega), f125]; exact q4.1
                 · rw [stt_j _ _ (by omega), stt_j _ _ (by omega), f125]; exact b9
                 · rw [stt_kr _ _ _ (by omega), stt_kr _ _ _ (by omega)]; exact f131
                 · rw [stt_kr _ _ _ (by omega), stt_kr _ _ _ (by omega)]; exact f126
                 · rw [stt_j _ _ (by omega), stt_j _ _ (by omega), f125]; exact b7)
            · refine R_iconst fX8_plays_72 ?_
              refine R_goto fX8_plays_73 rfl ?_
              refine R_istore_n fX8_plays_77 rfl ?_
              refine R_aload_n fX8_plays_78 rfl ?_
              refine R_dup fX8_plays_79 ?_
              refine R_getI 19 fX8_plays_80 hM.1 (by omega) rfl rfl rfl ?_
              first | rw [stt_j _ _ (by omega), f125, b19] | rw [stt_j _ _ (by omega), b19]
              refine R_iconst fX8_plays_83 ?_
              refine R_iadd fX8_plays_84 (by omega) ?_
              refine R_putI 19 fX8_plays_85 hM.1 (by omega) rfl rfl rfl ?_
              refine R_goto fX8_plays_88 rfl ?_
              first
              | (exfalso; omega)
              | (have hno : ¬ okP c n pos := fun z => absurd (q1.mpr z) (by omega)
                 have e : pfm c n (N + 1) s1 pos cm = (pos, 1, 0, cm, s1) := by unfold pfm; rw [if_pos (by omega), if_neg (by rw [cI_f hno]; omega)]
                 have hr0 : r = 0 := by omega
                 refine e0 _ _ _ _ ?_
                 rw [e]
                 refine ⟨_, _, rfl, ?_, ?_, fun z => ?_, fun _ => ?_, stt_eq _ _ _ _, PLo_st (PLo_st (PLo_st bo (by omega)) (by omega)) (by omega)⟩
                 · show pos = if (1 : Int) = 0 then -1000004 else pos
                   rw [if_neg (by omega)]
                 · rw [stt_kr _ _ _ (by omega), stt_kr _ _ _ (by omega), stt_kr _ _ _ (by omega)]; exact b126
                 · exact absurd (show (1 : Int) = 0 from z) (by omega)
                 · rw [stt_j _ _ (by omega), stt_j _ _ (by omega), stt_eq])
              | (have hlt : r2 < -1 := h69
                 have he : aCall s1 (chP c n pos) (faP c n pos) (fbP c n pos) ≤ -1000001 := by
                   have := aCall_ge (ch := chP c n pos) (a := faP c n pos) (b := fbP c n pos) hw1
                   omega
                 have e : pfm c n (N + 1) s1 pos cm = (pos, 2, aCall s1 (chP c n pos) (faP c n pos) (fbP c n pos), cm, tCall s1 (chP c n pos) (faP c n pos) (fbP c n pos)) := by unfold pfm; rw [if_pos (by omega), if_pos (cI_t hok), if_pos he]
                 refine e0 _ _ _ _ ?_
                 rw [e]
                 refine ⟨_, _, rfl, ?_, ?_, fun z => ?_, fun _ => ?_, stt_eq _ _ _ _, PLo_st (PLo_st (PLo_st fo (by omega)) (by omega)) (by omega)⟩
                 · show pos = if (2 : Int) = 0 then -1000004 else pos
                   rw [if_neg (by omega)]
                 · rw [stt_kr _ _ _ (by omega), stt_kr _ _ _ (by omega), stt_kr _ _ _ (by omega)]; exact f126
                 · exact absurd (show (2 : Int) = 0 from z) (by omega)
                 · rw [stt_j _ _ (by omega), stt_j _ _ (by omega), stt_eq]; exact u0)
              | (have hge : -1 ≤ r2 := h69
                 have he : ¬ aCall s1 (chP c n pos) (faP c n pos) (fbP c n pos) ≤ -1000001 := by omega
                 have e : pfm c n (N + 1) s1 pos cm = pfm c n N (tCall s1 (chP c n pos) (faP c n pos) (fbP c n pos)) (enP c n pos) (cm + 1) := by rw [pfm, if_pos (by omega), if_pos (cI_t hok), if_neg he]
                 have hen := okP_ch hok
                 have ht2 := tCall_2 (k := chP c n pos) (a := faP c n pos) (b := fbP c n pos) hw1 (by omega)
                 rw [e]
                 refine ih _ _ _ _ _ _ (by omega) (by omega) (by omega) (by omega) (WF_tCall hw1 (by omega)) (by omega) ?_ ?_ ?_ ?_ (stt_eq _ _ _ _) ?_ (PLo_st (PLo_st fo (by omega)) (by omega))
                 · rw [stt_j _ _ (by omega), stt_j _ _ (by omega), f125]; exact q4.1
                 · rw [stt_j _ _ (by omega), stt_j _ _ (by omega), f125]; exact b9
                 · rw [stt_kr _ _ _ (by omega), stt_kr _ _ _ (by omega)]; exact f131
                 · rw [stt_kr _ _ _ (by omega), stt_kr _ _ _ (by omega)]; exact f126
                 · rw [stt_j _ _ (by omega), stt_j _ _ (by omega), f125]; exact b7)
        · have hr1 : r = 1 := by omega
          have hok := q1.mp hr1
          have q4 := q2 hr1
          refine R_aload_n fX8_plays_49 rfl ?_
          refine R_callV fX8_plays_50 rfl rfl pX8_calls rfl ⟨Nat.le_of_ble_eq_true rfl, rcv_v rfl (by omega) hM.1⟩ (sp_mcalls (by omega) hM hw1 b126 b7 q4.2.1 q4.2.2.1 q4.2.2.2) (fun r2 F2 u => ?_)
          obtain ⟨u0, u1⟩ := u
          have f125 : F2 128 = F1 128 := by rw [u1, setr_ne _ _ (by omega)]
          have f126 : F2 129 = tCall s1 (chP c n pos) (faP c n pos) (fbP c n pos) := by rw [u1, setr_eq]
          have f131 : F2 134 = c := by rw [u1, setr_ne _ _ (by omega)]; exact bc
          have fo : PLo F F2 := by rw [u1]; exact PLo_set bo
          refine R_goto fX8_plays_53 rfl ?_
          refine R_putI 18 fX8_plays_57 hM.1 (by omega) rfl rfl rfl ?_
          refine R_iload_n fX8_plays_60 rfl ?_
          refine R_if_eq fX8_plays_61 rfl (fun h61 => ?_) (fun h61 => ?_)
          · refine R_iconst fX8_plays_76 ?_
            refine R_istore_n fX8_plays_77 rfl ?_
            refine R_aload_n fX8_plays_78 rfl ?_
            refine R_dup fX8_plays_79 ?_
            refine R_getI 19 fX8_plays_80 hM.1 (by omega) rfl rfl rfl ?_
            first | rw [stt_j _ _ (by omega), f125, b19] | rw [stt_j _ _ (by omega), b19]
            refine R_iconst fX8_plays_83 ?_
            refine R_iadd fX8_plays_84 (by omega) ?_
            refine R_putI 19 fX8_plays_85 hM.1 (by omega) rfl rfl rfl ?_
            refine R_goto fX8_plays_88 rfl ?_
            first
            | (exfalso; omega)
            | (have hno : ¬ okP c n pos := fun z => absurd (q1.mpr z) (by omega)
               have e : pfm c n (N + 1) s1 pos cm = (pos, 1, 0, cm, s1) := by unfold pfm; rw [if_pos (by omega), if_neg (by rw [cI_f hno]; omega)]
               have hr0 : r = 0 := by omega
               refine e0 _ _ _ _ ?_
               rw [e]
               refine ⟨_, _, rfl, ?_, ?_, fun z => ?_, fun _ => ?_, stt_eq _ _ _ _, PLo_st (PLo_st (PLo_st bo (by omega)) (by omega)) (by omega)⟩
               · show pos = if (1 : Int) = 0 then -1000004 else pos
                 rw [if_neg (by omega)]
               · rw [stt_kr _ _ _ (by omega), stt_kr _ _ _ (by omega), stt_kr _ _ _ (by omega)]; exact b126
               · exact absurd (show (1 : Int) = 0 from z) (by omega)
               · rw [stt_j _ _ (by omega), stt_j _ _ (by omega), stt_eq])
            | (have hlt : r2 < -1 := h69
               have he : aCall s1 (chP c n pos) (faP c n pos) (fbP c n pos) ≤ -1000001 := by
                 have := aCall_ge (ch := chP c n pos) (a := faP c n pos) (b := fbP c n pos) hw1
                 omega
               have e : pfm c n (N + 1) s1 pos cm = (pos, 2, aCall s1 (chP c n pos) (faP c n pos) (fbP c n pos), cm, tCall s1 (chP c n pos) (faP c n pos) (fbP c n pos)) := by unfold pfm; rw [if_pos (by omega), if_pos (cI_t hok), if_pos he]
               refine e0 _ _ _ _ ?_
               rw [e]
               refine ⟨_, _, rfl, ?_, ?_, fun z => ?_, fun _ => ?_, stt_eq _ _ _ _, PLo_st (PLo_st (PLo_st fo (by omega)) (by omega)) (by omega)⟩
               · show pos = if (2 : Int) = 0 then -1000004 else pos
                 rw [if_neg (by omega)]
               · rw [stt_kr _ _ _ (by omega), stt_kr _ _ _ (by omega), stt_kr _ _ _ (by omega)]; exact f126
               · exact absurd (show (2 : Int) = 0 from z) (by omega)
               · rw [stt_j _ _ (by omega), stt_j _ _ (by omega), stt_eq]; exact u0)
            | (have hge : -1 ≤ r2 := h69
               have he : ¬ aCall s1 (chP c n pos) (faP c n pos) (fbP c n pos) ≤ -1000001 := by omega
               have e : pfm c n (N + 1) s1 pos cm = pfm c n N (tCall s1 (chP c n pos) (faP c n pos) (fbP c n pos)) (enP c n pos) (cm + 1) := by rw [pfm, if_pos (by omega), if_pos (cI_t hok), if_neg he]
               have hen := okP_ch hok
               have ht2 := tCall_2 (k := chP c n pos) (a := faP c n pos) (b := fbP c n pos) hw1 (by omega)
               rw [e]
               refine ih _ _ _ _ _ _ (by omega) (by omega) (by omega) (by omega) (WF_tCall hw1 (by omega)) (by omega) ?_ ?_ ?_ ?_ (stt_eq _ _ _ _) ?_ (PLo_st (PLo_st fo (by omega)) (by omega))
               · rw [stt_j _ _ (by omega), stt_j _ _ (by omega), f125]; exact q4.1
               · rw [stt_j _ _ (by omega), stt_j _ _ (by omega), f125]; exact b9
               · rw [stt_kr _ _ _ (by omega), stt_kr _ _ _ (by omega)]; exact f131
               · rw [stt_kr _ _ _ (by omega), stt_kr _ _ _ (by omega)]; exact f126
               · rw [stt_j _ _ (by omega), stt_j _ _ (by omega), f125]; exact b7)
          · refine R_aload_n fX8_plays_64 rfl ?_
            refine R_getI 18 fX8_plays_65 hM.1 (by omega) rfl rfl rfl ?_
            rw [stt_eq]
            refine R_iconst fX8_plays_68 ?_
            refine R_icmp_lt fX8_plays_69 rfl (fun h69 => ?_) (fun h69 => ?_)
            · refine R_iconst fX8_plays_76 ?_
              refine R_istore_n fX8_plays_77 rfl ?_
              refine R_aload_n fX8_plays_78 rfl ?_
              refine R_dup fX8_plays_79 ?_
              refine R_getI 19 fX8_plays_80 hM.1 (by omega) rfl rfl rfl ?_
              first | rw [stt_j _ _ (by omega), f125, b19] | rw [stt_j _ _ (by omega), b19]
              refine R_iconst fX8_plays_83 ?_
              refine R_iadd fX8_plays_84 (by omega) ?_
              refine R_putI 19 fX8_plays_85 hM.1 (by omega) rfl rfl rfl ?_
              refine R_goto fX8_plays_88 rfl ?_
              first
              | (exfalso; omega)
              | (have hno : ¬ okP c n pos := fun z => absurd (q1.mpr z) (by omega)
                 have e : pfm c n (N + 1) s1 pos cm = (pos, 1, 0, cm, s1) := by unfold pfm; rw [if_pos (by omega), if_neg (by rw [cI_f hno]; omega)]
                 have hr0 : r = 0 := by omega
                 refine e0 _ _ _ _ ?_
                 rw [e]
                 refine ⟨_, _, rfl, ?_, ?_, fun z => ?_, fun _ => ?_, stt_eq _ _ _ _, PLo_st (PLo_st (PLo_st bo (by omega)) (by omega)) (by omega)⟩
                 · show pos = if (1 : Int) = 0 then -1000004 else pos
                   rw [if_neg (by omega)]
                 · rw [stt_kr _ _ _ (by omega), stt_kr _ _ _ (by omega), stt_kr _ _ _ (by omega)]; exact b126
                 · exact absurd (show (1 : Int) = 0 from z) (by omega)
                 · rw [stt_j _ _ (by omega), stt_j _ _ (by omega), stt_eq])
              | (have hlt : r2 < -1 := h69
                 have he : aCall s1 (chP c n pos) (faP c n pos) (fbP c n pos) ≤ -1000001 := by
                   have := aCall_ge (ch := chP c n pos) (a := faP c n pos) (b := fbP c n pos) hw1
                   omega
                 have e : pfm c n (N + 1) s1 pos cm = (pos, 2, aCall s1 (chP c n pos) (faP c n pos) (fbP c n pos), cm, tCall s1 (chP c n pos) (faP c n pos) (fbP c n pos)) := by unfold pfm; rw [if_pos (by omega), if_pos (cI_t hok), if_pos he]
                 refine e0 _ _ _ _ ?_
                 rw [e]
                 refine ⟨_, _, rfl, ?_, ?_, fun z => ?_, fun _ => ?_, stt_eq _ _ _ _, PLo_st (PLo_st (PLo_st fo (by omega)) (by omega)) (by omega)⟩
                 · show pos = if (2 : Int) = 0 then -1000004 else pos
                   rw [if_neg (by omega)]
                 · rw [stt_kr _ _ _ (by omega), stt_kr _ _ _ (by omega), stt_kr _ _ _ (by omega)]; exact f126
                 · exact absurd (show (2 : Int) = 0 from z) (by omega)
                 · rw [stt_j _ _ (by omega), stt_j _ _ (by omega), stt_eq]; exact u0)
              | (have hge : -1 ≤ r2 := h69
                 have he : ¬ aCall s1 (chP c n pos) (faP c n pos) (fbP c n pos) ≤ -1000001 := by omega
                 have e : pfm c n (N + 1) s1 pos cm = pfm c n N (tCall s1 (chP c n pos) (faP c n pos) (fbP c n pos)) (enP c n pos) (cm + 1) := by rw [pfm, if_pos (by omega), if_pos (cI_t hok), if_neg he]
                 have hen := okP_ch hok
                 have ht2 := tCall_2 (k := chP c n pos) (a := faP c n pos) (b := fbP c n pos) hw1 (by omega)
                 rw [e]
                 refine ih _ _ _ _ _ _ (by omega) (by omega) (by omega) (by omega) (WF_tCall hw1 (by omega)) (by omega) ?_ ?_ ?_ ?_ (stt_eq _ _ _ _) ?_ (PLo_st (PLo_st fo (by omega)) (by omega))
                 · rw [stt_j _ _ (by omega), stt_j _ _ (by omega), f125]; exact q4.1
                 · rw [stt_j _ _ (by omega), stt_j _ _ (by omega), f125]; exact b9
                 · rw [stt_kr _ _ _ (by omega), stt_kr _ _ _ (by omega)]; exact f131
                 · rw [stt_kr _ _ _ (by omega), stt_kr _ _ _ (by omega)]; exact f126
                 · rw [stt_j _ _ (by omega), stt_j _ _ (by omega), f125]; exact b7)
            · refine R_iconst fX8_plays_72 ?_
              refine R_goto fX8_plays_73 rfl ?_
              refine R_istore_n fX8_plays_77 rfl ?_
              refine R_aload_n fX8_plays_78 rfl ?_
              refine R_dup fX8_plays_79 ?_
              refine R_getI 19 fX8_plays_80 hM.1 (by omega) rfl rfl rfl ?_
              first | rw [stt_j _ _ (by omega), f125, b19] | rw [stt_j _ _ (by omega), b19]
              refine R_iconst fX8_plays_83 ?_
              refine R_iadd fX8_plays_84 (by omega) ?_
              refine R_putI 19 fX8_plays_85 hM.1 (by omega) rfl rfl rfl ?_
              refine R_goto fX8_plays_88 rfl ?_
              first
              | (exfalso; omega)
              | (have hno : ¬ okP c n pos := fun z => absurd (q1.mpr z) (by omega)
                 have e : pfm c n (N + 1) s1 pos cm = (pos, 1, 0, cm, s1) := by unfold pfm; rw [if_pos (by omega), if_neg (by rw [cI_f hno]; omega)]
                 have hr0 : r = 0 := by omega
                 refine e0 _ _ _ _ ?_
                 rw [e]
                 refine ⟨_, _, rfl, ?_, ?_, fun z => ?_, fun _ => ?_, stt_eq _ _ _ _, PLo_st (PLo_st (PLo_st bo (by omega)) (by omega)) (by omega)⟩
                 · show pos = if (1 : Int) = 0 then -1000004 else pos
                   rw [if_neg (by omega)]
                 · rw [stt_kr _ _ _ (by omega), stt_kr _ _ _ (by omega), stt_kr _ _ _ (by omega)]; exact b126
                 · exact absurd (show (1 : Int) = 0 from z) (by omega)
                 · rw [stt_j _ _ (by omega), stt_j _ _ (by omega), stt_eq])
              | (have hlt : r2 < -1 := h69
                 have he : aCall s1 (chP c n pos) (faP c n pos) (fbP c n pos) ≤ -1000001 := by
                   have := aCall_ge (ch := chP c n pos) (a := faP c n pos) (b := fbP c n pos) hw1
                   omega
                 have e : pfm c n (N + 1) s1 pos cm = (pos, 2, aCall s1 (chP c n pos) (faP c n pos) (fbP c n pos), cm, tCall s1 (chP c n pos) (faP c n pos) (fbP c n pos)) := by unfold pfm; rw [if_pos (by omega), if_pos (cI_t hok), if_pos he]
                 refine e0 _ _ _ _ ?_
                 rw [e]
                 refine ⟨_, _, rfl, ?_, ?_, fun z => ?_, fun _ => ?_, stt_eq _ _ _ _, PLo_st (PLo_st (PLo_st fo (by omega)) (by omega)) (by omega)⟩
                 · show pos = if (2 : Int) = 0 then -1000004 else pos
                   rw [if_neg (by omega)]
                 · rw [stt_kr _ _ _ (by omega), stt_kr _ _ _ (by omega), stt_kr _ _ _ (by omega)]; exact f126
                 · exact absurd (show (2 : Int) = 0 from z) (by omega)
                 · rw [stt_j _ _ (by omega), stt_j _ _ (by omega), stt_eq]; exact u0)
              | (have hge : -1 ≤ r2 := h69
                 have he : ¬ aCall s1 (chP c n pos) (faP c n pos) (fbP c n pos) ≤ -1000001 := by omega
                 have e : pfm c n (N + 1) s1 pos cm = pfm c n N (tCall s1 (chP c n pos) (faP c n pos) (fbP c n pos)) (enP c n pos) (cm + 1) := by rw [pfm, if_pos (by omega), if_pos (cI_t hok), if_neg he]
                 have hen := okP_ch hok
                 have ht2 := tCall_2 (k := chP c n pos) (a := faP c n pos) (b := fbP c n pos) hw1 (by omega)
                 rw [e]
                 refine ih _ _ _ _ _ _ (by omega) (by omega) (by omega) (by omega) (WF_tCall hw1 (by omega)) (by omega) ?_ ?_ ?_ ?_ (stt_eq _ _ _ _) ?_ (PLo_st (PLo_st fo (by omega)) (by omega))
                 · rw [stt_j _ _ (by omega), stt_j _ _ (by omega), f125]; exact q4.1
                 · rw [stt_j _ _ (by omega), stt_j _ _ (by omega), f125]; exact b9
                 · rw [stt_kr _ _ _ (by omega), stt_kr _ _ _ (by omega)]; exact f131
                 · rw [stt_kr _ _ _ (by omega), stt_kr _ _ _ (by omega)]; exact f126
                 · rw [stt_j _ _ (by omega), stt_j _ _ (by omega), f125]; exact b7)
  refine R_aload_n fX8_plays_0 rfl ?_
  refine R_iconst fX8_plays_1 ?_
  refine R_putZ 7 fX8_plays_2 hM.1 (by omega) rfl rfl rfl (by omega) ?_
  refine R_aload_n fX8_plays_5 rfl ?_
  refine R_iconst fX8_plays_6 ?_
  refine R_putI 17 fX8_plays_7 hM.1 (by omega) rfl rfl rfl ?_
  refine R_aload_n fX8_plays_10 rfl ?_
  refine R_iconst fX8_plays_11 ?_
  refine R_putI 19 fX8_plays_12 hM.1 (by omega) rfl rfl rfl ?_
  refine R_iconst fX8_plays_15 ?_
  refine R_istore_n fX8_plays_16 rfl ?_
  refine R_iconst fX8_plays_17 ?_
  refine R_istore_n fX8_plays_18 rfl ?_
  refine lp n.toNat 0 0 0 s _ _ (by omega) (by omega) (by omega) (by omega) hw (by omega) ?_ ?_ ?_ ?_ (stt_eq _ _ _ _) ?_ ?_
  · rw [stt_j _ _ (by omega), stt_eq]
  · rw [stt_j _ _ (by omega), stt_j _ _ (by omega), stt_j _ _ (by omega)]; exact hn.1
  · rw [stt_kr _ _ _ (by omega), stt_kr _ _ _ (by omega), stt_kr _ _ _ (by omega)]; exact hc
  · rw [stt_kr _ _ _ (by omega), stt_kr _ _ _ (by omega), stt_kr _ _ _ (by omega)]; exact h126
  · rw [stt_j _ _ (by omega), stt_j _ _ (by omega), stt_eq]
  · exact PLo_st (PLo_st (PLo_st ⟨fun _ _ _ _ _ _ => rfl, fun _ _ _ _ => rfl⟩ (by omega)) (by omega)) (by omega)
