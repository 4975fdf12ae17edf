theorem dg_is {c : Int → Int} {n i : Int} (h : 0 ≤ i) : dgP c n i = if i < n ∧ 48 ≤ c i ∧ c i ≤ 57 then c i - 48 else -1 := by
  have e : chP c n i = if i < n then c i else -1 := by
    unfold chP
    by_cases z : i < n
    · rw [if_pos (show 0 ≤ i ∧ i < n from ⟨h, z⟩), if_pos z]
    · rw [if_neg (show ¬ (0 ≤ i ∧ i < n) from fun y => z y.2), if_neg z]
  unfold dgP
  rw [e]
  by_cases z : i < n
  · rw [if_pos z]
    by_cases y : 48 ≤ c i ∧ c i ≤ 57
    · rw [if_pos y, if_pos ⟨z, y.1, y.2⟩]
    · rw [if_neg y, if_neg (fun x => y x.2)]
  · rw [if_neg z, if_neg (show ¬ ((48 : Int) ≤ -1 ∧ (-1 : Int) ≤ 57) by omega), if_neg (fun x => z x.1)]
/-- only the reading place changes, and what was told -/
def OT (F F' : FM) : Prop := (∀ j, j ≠ 17 → F' 128 j = F 128 j) ∧ ∀ k, k ≠ 128 → k ≠ 135 → F' k = F k
theorem sp_mnumber {d : Nat} {kd : KL} {F : FM} {P : PM} {c : Int → Int} {n i : Int} {wh sg_ : Int} (hd : 4 ≤ d) (hM : shM kd P) (hc : F 134 = c) (hn : F 128 9 = n ∧ 0 ≤ n ∧ n ≤ 60) (hi : F 128 17 = i ∧ 0 ≤ i ∧ i ≤ 1000) (hwh : 0 ≤ wh ∧ wh < 2) (hsg : sg_ = 0 ∨ sg_ = 1) (hi9 : i ≤ 900) : Sp d 132 [.inr (some 128), .inl wh, .inl sg_] kd F P (QV kd P (fun r F' => r = (if 0 ≤ nvP c n (i + (if sg_ = 1 then psP c n 45 i else 0)) then 1 else 0) ∧ F' 128 17 = neP c n (i + (if sg_ = 1 then psP c n 45 i else 0)) ∧ (0 ≤ nvP c n (i + (if sg_ = 1 then psP c n 45 i else 0)) → F' 135 wh = if sg_ = 1 ∧ chP c n i = 45 then -nvP c n (i + (if sg_ = 1 then psP c n 45 i else 0)) else nvP c n (i + (if sg_ = 1 then psP c n 45 i else 0))) ∧ (∀ j, j ≠ wh → F' 135 j = F 135 j) ∧ OT F F')) := by
  refine Sp_of (me := mX8_number) (by omega) pX8_number ⟨rfl, Nat.le_of_ble_eq_true rfl⟩ ?_
  have hps : psP c n 45 i = if chP c n i = 45 then 1 else 0 := rfl
  have hpb := psP_b (c := c) (n := n) (ch := 45) (i := i)
  generalize hst : (i + (if sg_ = 1 then psP c n 45 i else 0)) = st
  have hst0 : i ≤ st ∧ st ≤ i + 1 := by rw [← hst]; split <;> omega
  have d0 := dgP_b (c := c) (n := n) (i := st)
  have d1 := dgP_b (c := c) (n := n) (i := st + 1)
  -- the end
  have ex : ∀ (mi v sp : Int) (G : FM), (mi = 1 ↔ (sg_ = 1 ∧ chP c n i = 45)) → (mi = 0 ∨ mi = 1) → (-1000 ≤ v ∧ v ≤ 1000) → G 128 17 = sp → sp = neP c n st → (0 ≤ nvP c n st → v = nvP c n st) → (st < sp ↔ 0 ≤ nvP c n st) → G 135 = F 135 → OT F G → Rn (d - 1) mX8_number 83 [some (.inr (some 128)), some (.inl wh), some (.inl sg_), some (.inl mi), some (.inl st), some (.inl v)] [] kd G P (QV kd P (fun r F' => r = (if 0 ≤ nvP c n st then 1 else 0) ∧ F' 128 17 = neP c n st ∧ (0 ≤ nvP c n st → F' 135 wh = if sg_ = 1 ∧ chP c n i = 45 then -nvP c n st else nvP c n st) ∧ (∀ j, j ≠ wh → F' 135 j = F 135 j) ∧ OT F F')) := by
    intro mi v sp G hmi hm01 hv hsp hne hnv hiff h132 hO
    refine R_aload_n fX8_number_83 rfl ?_
    refine R_getP 21 fX8_number_84 hM.1 (by omega) rfl rfl rfl hM.2.2.2.2.2.2.2.2.2.2.2.2.2.2 ?_
    refine R_iload_n fX8_number_87 rfl ?_
    refine R_iload_n fX8_number_88 rfl ?_
    refine R_if_eq fX8_number_89 rfl (fun h89 => ?_) (fun h89 => ?_)
    · refine R_iload fX8_number_98 rfl ?_
      refine R_iastore fX8_number_100 hM.2.2.2.2.2.2.2.1 (by omega) (by omega) ?_
      refine R_aload_n fX8_number_101 rfl ?_
      refine R_getI 17 fX8_number_102 hM.1 (by omega) rfl rfl rfl ?_
      refine R_iload fX8_number_105 rfl ?_
      refine R_icmp_le fX8_number_107 rfl (fun h107 => ?_) (fun h107 => ?_)
      · refine R_iconst fX8_number_114 ?_
        refine R_zreturn fX8_number_115 rfl (by simp) ?_
        first
        | (rw [stt_k _ _ _ _ (by omega)] at h107
           refine ⟨_, _, rfl, ?_, ?_, fun z => ?_, fun j hj => ?_, fun j hj => ?_, fun k k1 k2 => ?_⟩
           · first | rw [if_pos (by omega)] | rw [if_neg (by omega)]
           · rw [stt_k _ _ _ _ (by omega)]; omega
           · rw [stt_eq]
             first
             | (rw [if_pos (hmi.mp (by omega))]; have := hnv z; omega)
             | (rw [if_neg (fun y => by have := hmi.mpr y; omega)]; exact hnv z)
           · rw [stt_j _ _ hj, h132]
           · rw [stt_kr _ _ _ (by omega)]; exact hO.1 j hj
           · rw [stt_kr _ _ _ k2]; exact hO.2 k k1 k2)
      · refine R_iconst fX8_number_110 ?_
        refine R_goto fX8_number_111 rfl ?_
        refine R_zreturn fX8_number_115 rfl (by simp) ?_
        first
        | (rw [stt_k _ _ _ _ (by omega)] at h107
           refine ⟨_, _, rfl, ?_, ?_, fun z => ?_, fun j hj => ?_, fun j hj => ?_, fun k k1 k2 => ?_⟩
           · first | rw [if_pos (by omega)] | rw [if_neg (by omega)]
           · rw [stt_k _ _ _ _ (by omega)]; omega
           · rw [stt_eq]
             first
             | (rw [if_pos (hmi.mp (by omega))]; have := hnv z; omega)
             | (rw [if_neg (fun y => by have := hmi.mpr y; omega)]; exact hnv z)
           · rw [stt_j _ _ hj, h132]
           · rw [stt_kr _ _ _ (by omega)]; exact hO.1 j hj
           · rw [stt_kr _ _ _ k2]; exact hO.2 k k1 k2)
    · refine R_iload fX8_number_92 rfl ?_
      refine R_ineg fX8_number_94 (by omega) ?_
      refine R_goto fX8_number_95 rfl ?_
      refine R_iastore fX8_number_100 hM.2.2.2.2.2.2.2.1 (by omega) (by omega) ?_
      refine R_aload_n fX8_number_101 rfl ?_
      refine R_getI 17 fX8_number_102 hM.1 (by omega) rfl rfl rfl ?_
      refine R_iload fX8_number_105 rfl ?_
      refine R_icmp_le fX8_number_107 rfl (fun h107 => ?_) (fun h107 => ?_)
      · refine R_iconst fX8_number_114 ?_
        refine R_zreturn fX8_number_115 rfl (by simp) ?_
        first
        | (rw [stt_k _ _ _ _ (by omega)] at h107
           refine ⟨_, _, rfl, ?_, ?_, fun z => ?_, fun j hj => ?_, fun j hj => ?_, fun k k1 k2 => ?_⟩
           · first | rw [if_pos (by omega)] | rw [if_neg (by omega)]
           · rw [stt_k _ _ _ _ (by omega)]; omega
           · rw [stt_eq]
             first
             | (rw [if_pos (hmi.mp (by omega))]; have := hnv z; omega)
             | (rw [if_neg (fun y => by have := hmi.mpr y; omega)]; exact hnv z)
           · rw [stt_j _ _ hj, h132]
           · rw [stt_kr _ _ _ (by omega)]; exact hO.1 j hj
           · rw [stt_kr _ _ _ k2]; exact hO.2 k k1 k2)
      · refine R_iconst fX8_number_110 ?_
        refine R_goto fX8_number_111 rfl ?_
        refine R_zreturn fX8_number_115 rfl (by simp) ?_
        first
        | (rw [stt_k _ _ _ _ (by omega)] at h107
           refine ⟨_, _, rfl, ?_, ?_, fun z => ?_, fun j hj => ?_, fun j hj => ?_, fun k k1 k2 => ?_⟩
           · first | rw [if_pos (by omega)] | rw [if_neg (by omega)]
           · rw [stt_k _ _ _ _ (by omega)]; omega
           · rw [stt_eq]
             first
             | (rw [if_pos (hmi.mp (by omega))]; have := hnv z; omega)
             | (rw [if_neg (fun y => by have := hmi.mpr y; omega)]; exact hnv z)
           · rw [stt_j _ _ hj, h132]
           · rw [stt_kr _ _ _ (by omega)]; exact hO.1 j hj
           · rw [stt_kr _ _ _ k2]; exact hO.2 k k1 k2)
  have wk : ∀ (mi : Int) (G : FM), (mi = 1 ↔ (sg_ = 1 ∧ chP c n i = 45)) → (mi = 0 ∨ mi = 1) → G 128 17 = st → G 128 9 = n → G 134 = c → G 135 = F 135 → OT F G → Rn (d - 1) mX8_number 28 [some (.inr (some 128)), some (.inl wh), some (.inl sg_), some (.inl mi), some (.inl st), some (.inl 0)] [] kd G P (QV kd P (fun r F' => r = (if 0 ≤ nvP c n st then 1 else 0) ∧ F' 128 17 = neP c n st ∧ (0 ≤ nvP c n st → F' 135 wh = if sg_ = 1 ∧ chP c n i = 45 then -nvP c n st else nvP c n st) ∧ (∀ j, j ≠ wh → F' 135 j = F 135 j) ∧ OT F F')) := by
    intro mi G hmi hm01 g17 g9 gc g132 hO
    have e0 := dg_is (c := c) (n := n) (i := st) (by omega)
    have e1 := dg_is (c := c) (n := n) (i := st + 1) (by omega)
    have hOs : ∀ v, OT F (stt G 128 17 v) := fun v => ⟨fun j hj => by rw [stt_j _ _ hj]; exact hO.1 j hj, fun k k1 k2 => by rw [stt_kr _ _ _ k1]; exact hO.2 k k1 k2⟩
    -- two digits read
    have w2 : 0 ≤ dgP c n st → 0 ≤ dgP c n (st + 1) → ∀ H : FM, H 128 17 = st + 2 → H 128 9 = n → H 134 = c → H 135 = F 135 → OT F H → Rn (d - 1) mX8_number 28 [some (.inr (some 128)), some (.inl wh), some (.inl sg_), some (.inl mi), some (.inl st), some (.inl (10 * dgP c n st + dgP c n (st + 1)))] [] kd H P (QV kd P (fun r F' => r = (if 0 ≤ nvP c n st then 1 else 0) ∧ F' 128 17 = neP c n st ∧ (0 ≤ nvP c n st → F' 135 wh = if sg_ = 1 ∧ chP c n i = 45 then -nvP c n st else nvP c n st) ∧ (∀ j, j ≠ wh → F' 135 j = F 135 j) ∧ OT F F')) := by
      intro p0 p1 H H17 H9 Hc H132 HO
      have hnv : nvP c n st = 10 * dgP c n st + dgP c n (st + 1) := by unfold nvP; rw [if_neg (by omega), if_neg (by omega)]
      have hne : neP c n st = st + 2 := by unfold neP; rw [if_neg (by omega), if_neg (by omega)]
      refine R_aload_n fX8_number_28 rfl ?_
      refine R_bipush fX8_number_29 ?_
      refine R_bipush fX8_number_31 ?_
      refine R_callE fX8_number_33 rfl rfl pX8_isAt rfl ⟨Nat.le_of_ble_eq_true rfl, rcv_v rfl (by omega) hM.1⟩ (sp_misAt (by omega) hM Hc ⟨H9, hn.2⟩ ⟨H17, by omega, by omega⟩) ?_
      refine R_if_eq fX8_number_36 rfl (fun h36 => ?_) (fun h36 => ?_)
      · exact ex mi _ (st + 2) H hmi hm01 (by omega) H17 hne.symm (fun _ => hnv.symm) (by omega) H132 HO
      · refine R_aload_n fX8_number_39 rfl ?_
        refine R_getI 17 fX8_number_40 hM.1 (by omega) rfl rfl rfl ?_
        refine R_iload fX8_number_43 rfl ?_
        refine R_isub fX8_number_45 (by omega) ?_
        refine R_iconst fX8_number_46 ?_
        refine R_icmp_ge fX8_number_47 rfl (fun h47 => ?_) (fun h47 => absurd h47 (by omega))
        exact ex mi _ (st + 2) H hmi hm01 (by omega) H17 hne.symm (fun _ => hnv.symm) (by omega) H132 HO
    have w1 : 0 ≤ dgP c n st → ∀ H : FM, H 128 17 = st + 1 → H 128 9 = n → H 134 = c → H 135 = F 135 → OT F H → Rn (d - 1) mX8_number 28 [some (.inr (some 128)), some (.inl wh), some (.inl sg_), some (.inl mi), some (.inl st), some (.inl (dgP c n st))] [] kd H P (QV kd P (fun r F' => r = (if 0 ≤ nvP c n st then 1 else 0) ∧ F' 128 17 = neP c n st ∧ (0 ≤ nvP c n st → F' 135 wh = if sg_ = 1 ∧ chP c n i = 45 then -nvP c n st else nvP c n st) ∧ (∀ j, j ≠ wh → F' 135 j = F 135 j) ∧ OT F F')) := by
      intro p0 H H17 H9 Hc H132 HO
      refine R_aload_n fX8_number_28 rfl ?_
      refine R_bipush fX8_number_29 ?_
      refine R_bipush fX8_number_31 ?_
      refine R_callE fX8_number_33 rfl rfl pX8_isAt rfl ⟨Nat.le_of_ble_eq_true rfl, rcv_v rfl (by omega) hM.1⟩ (sp_misAt (by omega) hM Hc ⟨H9, hn.2⟩ ⟨H17, by omega, by omega⟩) ?_
      refine R_if_eq fX8_number_36 rfl (fun h36 => ?_) (fun h36 => ?_)
      · have hno : ¬ (st + 1 < n ∧ 48 ≤ c (st + 1) ∧ c (st + 1) ≤ 57) := fun z => by rw [if_pos z] at h36; omega
        rw [if_neg hno] at e1
        have hnv : nvP c n st = dgP c n st := by unfold nvP; rw [if_neg (by omega), if_pos (by omega)]
        have hne : neP c n st = st + 1 := by unfold neP; rw [if_neg (by omega), if_pos (by omega)]
        exact ex mi _ (st + 1) H hmi hm01 (by omega) H17 hne.symm (fun _ => hnv.symm) (by omega) H132 HO
      · have hy : st + 1 < n ∧ 48 ≤ c (st + 1) ∧ c (st + 1) ≤ 57 := by
          by_cases z : st + 1 < n ∧ 48 ≤ c (st + 1) ∧ c (st + 1) ≤ 57
          · exact z
          · rw [if_neg z] at h36; omega
        rw [if_pos hy] at e1
        refine R_aload_n fX8_number_39 rfl ?_
        refine R_getI 17 fX8_number_40 hM.1 (by omega) rfl rfl rfl ?_
        refine R_iload fX8_number_43 rfl ?_
        refine R_isub fX8_number_45 (by omega) ?_
        refine R_iconst fX8_number_46 ?_
        refine R_icmp_ge fX8_number_47 rfl (fun h47 => absurd h47 (by omega)) (fun h47 => ?_)
        refine R_bipush fX8_number_50 ?_
        refine R_iload fX8_number_52 rfl ?_
        refine R_imul fX8_number_54 (by omega) ?_
        refine R_aload_n fX8_number_55 rfl ?_
        refine R_getP 8 fX8_number_56 hM.1 (by omega) rfl rfl rfl hM.2.2.2.2.2.2.2.2.2.2.2.2.2.1 ?_
        refine R_aload_n fX8_number_59 rfl ?_
        refine R_getI 17 fX8_number_60 hM.1 (by omega) rfl rfl rfl ?_
        refine R_iaload fX8_number_63 hM.2.2.2.2.2.2.1 (by omega) ?_
        rw [Hc, H17]
        refine R_iadd fX8_number_64 (by omega) ?_
        refine R_bipush fX8_number_65 ?_
        refine R_isub fX8_number_67 (by omega) ?_
        refine R_istore fX8_number_68 rfl ?_
        refine R_aload_n fX8_number_70 rfl ?_
        refine R_dup fX8_number_71 ?_
        refine R_getI 17 fX8_number_72 hM.1 (by omega) rfl rfl rfl ?_
        refine R_iconst fX8_number_75 ?_
        refine R_iadd fX8_number_76 (by omega) ?_
        refine R_putI 17 fX8_number_77 hM.1 (by omega) rfl rfl rfl ?_
        refine R_goto fX8_number_80 rfl ?_
        rw [show 10 * dgP c n st + c (st + 1) - 48 = 10 * dgP c n st + dgP c n (st + 1) by omega]
        refine w2 p0 (by omega) _ ?_ ?_ ?_ ?_ ⟨fun j hj => ?_, fun k k1 k2 => ?_⟩
        · rw [stt_eq]; omega
        · rw [stt_j _ _ (by omega)]; exact H9
        · rw [stt_kr _ _ _ (by omega)]; exact Hc
        · rw [stt_kr _ _ _ (by omega)]; exact H132
        · rw [stt_j _ _ hj]; exact HO.1 j hj
        · rw [stt_kr _ _ _ k1]; exact HO.2 k k1 k2
    refine R_aload_n fX8_number_28 rfl ?_
    refine R_bipush fX8_number_29 ?_
    refine R_bipush fX8_number_31 ?_
    refine R_callE fX8_number_33 rfl rfl pX8_isAt rfl ⟨Nat.le_of_ble_eq_true rfl, rcv_v rfl (by omega) hM.1⟩ (sp_misAt (by omega) hM gc ⟨g9, hn.2⟩ ⟨g17, by omega, by omega⟩) ?_
    refine R_if_eq fX8_number_36 rfl (fun h36 => ?_) (fun h36 => ?_)
    · have hno : ¬ (st < n ∧ 48 ≤ c st ∧ c st ≤ 57) := fun z => by rw [if_pos z] at h36; omega
      rw [if_neg hno] at e0
      have hnv : nvP c n st = -1 := by unfold nvP; rw [if_pos (by omega)]
      have hne : neP c n st = st := by unfold neP; rw [if_pos (by omega)]
      exact ex mi _ st G hmi hm01 (by omega) g17 hne.symm (fun _ => by omega) (by omega) g132 hO
    · have hy : st < n ∧ 48 ≤ c st ∧ c st ≤ 57 := by
        by_cases z : st < n ∧ 48 ≤ c st ∧ c st ≤ 57
        · exact z
        · rw [if_neg z] at h36; omega
      rw [if_pos hy] at e0
      refine R_aload_n fX8_number_39 rfl ?_
      refine R_getI 17 fX8_number_40 hM.1 (by omega) rfl rfl rfl ?_
      refine R_iload fX8_number_43 rfl ?_
      refine R_isub fX8_number_45 (by omega) ?_
      refine R_iconst fX8_number_46 ?_
      refine R_icmp_ge fX8_number_47 rfl (fun h47 => absurd h47 (by omega)) (fun h47 => ?_)
      refine R_bipush fX8_number_50 ?_
      refine R_iload fX8_number_52 rfl ?_
      refine R_imul fX8_number_54 (by omega) ?_
      refine R_aload_n fX8_number_55 rfl ?_
      refine R_getP 8 fX8_number_56 hM.1 (by omega) rfl rfl rfl hM.2.2.2.2.2.2.2.2.2.2.2.2.2.1 ?_
      refine R_aload_n fX8_number_59 rfl ?_
      refine R_getI 17 fX8_number_60 hM.1 (by omega) rfl rfl rfl ?_
      refine R_iaload fX8_number_63 hM.2.2.2.2.2.2.1 (by omega) ?_
      rw [gc, g17]
      refine R_iadd fX8_number_64 (by omega) ?_
      refine R_bipush fX8_number_65 ?_
      refine R_isub fX8_number_67 (by omega) ?_
      refine R_istore fX8_number_68 rfl ?_
      refine R_aload_n fX8_number_70 rfl ?_
      refine R_dup fX8_number_71 ?_
      refine R_getI 17 fX8_number_72 hM.1 (by omega) rfl rfl rfl ?_
      refine R_iconst fX8_number_75 ?_
      refine R_iadd fX8_number_76 (by omega) ?_
      refine R_putI 17 fX8_number_77 hM.1 (by omega) rfl rfl rfl ?_
      refine R_goto fX8_number_80 rfl ?_
      rw [show 10 * 0 + c st - 48 = dgP c n st by omega]
      refine w1 (by omega) _ ?_ ?_ ?_ ?_ (hOs _)
      · rw [stt_eq, g17]
      · rw [stt_j _ _ (by omega)]; exact g9
      · rw [stt_kr _ _ _ (by omega)]; exact gc
      · rw [stt_kr _ _ _ (by omega)]; exact g132
  refine R_iload_n fX8_number_0 rfl ?_
  refine R_if_eq fX8_number_1 rfl (fun h1 => ?_) (fun h1 => ?_)
  · refine R_iconst fX8_number_17 ?_
    refine R_istore_n fX8_number_18 rfl ?_
    refine R_aload_n fX8_number_19 rfl ?_
    refine R_getI 17 fX8_number_20 hM.1 (by omega) rfl rfl rfl ?_
    refine R_istore fX8_number_23 rfl ?_
    refine R_iconst fX8_number_25 ?_
    refine R_istore fX8_number_26 rfl ?_
    have hs0 : sg_ = 0 := by omega
    rw [if_neg (by omega), Int.add_zero] at hst
    rw [show F 128 17 = st by omega]
    exact wk 0 F ⟨fun z => by omega, fun z => by omega⟩ (Or.inl rfl) (by omega) hn.1 hc rfl ⟨fun _ _ => rfl, fun _ _ _ => rfl⟩
  · refine R_aload_n fX8_number_4 rfl ?_
    refine R_bipush fX8_number_5 ?_
    refine R_callV fX8_number_7 rfl rfl pX8_sign rfl ⟨Nat.le_of_ble_eq_true rfl, rcv_v rfl (by omega) hM.1⟩ (sp_msign (by omega) hM hc hn hi (by omega)) (fun r F1 q => ?_)
    obtain ⟨q1, q2⟩ := q
    subst q1
    subst q2
    refine R_if_eq fX8_number_10 rfl (fun h10 => ?_) (fun h10 => ?_)
    · refine R_iconst fX8_number_17 ?_
      refine R_istore_n fX8_number_18 rfl ?_
      refine R_aload_n fX8_number_19 rfl ?_
      refine R_getI 17 fX8_number_20 hM.1 (by omega) rfl rfl rfl ?_
      refine R_istore fX8_number_23 rfl ?_
      refine R_iconst fX8_number_25 ?_
      refine R_istore fX8_number_26 rfl ?_
      have hs1 : sg_ = 1 := by omega
      rw [if_pos hs1, h10, Int.add_zero] at hst
      rw [stt_eq, show i + psP c n 45 i = st by omega]
      have hno : ¬ chP c n i = 45 := fun z => by rw [if_pos z] at hps; omega
      exact wk 0 _ ⟨fun z => by omega, fun z => absurd z.2 hno⟩ (Or.inl rfl) (stt_eq _ _ _ _) (by rw [stt_j _ _ (by omega)]; exact hn.1) (by rw [stt_kr _ _ _ (by omega)]; exact hc) (stt_kr _ _ _ (by omega)) ⟨fun j hj => stt_j _ _ hj, fun k k1 k2 => stt_kr _ _ _ k1⟩
    · refine R_iconst fX8_number_13 ?_
      refine R_goto fX8_number_14 rfl ?_
      refine R_istore_n fX8_number_18 rfl ?_
      refine R_aload_n fX8_number_19 rfl ?_
      refine R_getI 17 fX8_number_20 hM.1 (by omega) rfl rfl rfl ?_
      refine R_istore fX8_number_23 rfl ?_
      refine R_iconst fX8_number_25 ?_
      refine R_istore fX8_number_26 rfl ?_
      have hs1 : sg_ = 1 := by omega
      rw [if_pos hs1] at hst
      rw [stt_eq, show i + psP c n 45 i = st by omega]
      have hye : chP c n i = 45 := by
        by_cases z : chP c n i = 45
        · exact z
        · rw [if_neg z] at hps; omega
      exact wk 1 _ ⟨fun _ => ⟨hs1, hye⟩, fun _ => rfl⟩ (Or.inr rfl) (stt_eq _ _ _ _) (by rw [stt_j _ _ (by omega)]; exact hn.1) (by rw [stt_kr _ _ _ (by omega)]; exact hc) (stt_kr _ _ _ (by omega)) ⟨fun j hj => stt_j _ _ hj, fun k k1 k2 => stt_kr _ _ _ k1⟩
