theorem shrS_0 {w part : Int} {s : Int → Int} : ∀ {k : Nat}, shrS w part s k 0 = s 0
  | 0 => rfl
  | k + 1 => by
    unfold shrS
    rw [if_neg (by omega), if_neg (by omega), if_neg (by omega)]
    exact shrS_0
theorem sp_mshares {d : Nat} {kd : KL} {F : FM} {P : PM} {s : Int → Int} {w : Int} (hd : 1 ≤ d) (hM : shM kd P) (h0 : 2 ≤ s 0 ∧ s 0 ≤ 4) : Sp d 105 [.inr (some 128), .inl w] kd (setr F 129 s) P (QN kd P (fun F' => F' = setr F 129 (shrS w (wr (Int.tdiv (s 1) (s 0 - 1))) s (s 0).toNat))) := by
  refine Sp_of (me := mX8_shares) (by omega) pX8_shares ⟨rfl, Nat.le_of_ble_eq_true rfl⟩ ?_
  generalize hpart : wr (Int.tdiv (s 1) (s 0 - 1)) = part
  have lp : ∀ (N : Nat) (i : Int) (j4 : Option AV), 0 ≤ i → i ≤ s 0 → s 0 - i < N → Rn (d - 1) mX8_shares 18 [some (.inr (some 128)), some (.inl w), some (.inl part), some (.inl i), j4] [] kd (setr F 129 (shrS w part s i.toNat)) P (QN kd P (fun F' => F' = setr F 129 (shrS w part s (s 0).toNat))) := by
    intro N
    induction N with
    | zero => intro i j4 h1 h2 h4; omega
    | succ N ih =>
      intro i j4 h1 h2 h4
      have g0 : shrS w part s i.toNat 0 = s 0 := shrS_0
      refine R_iload_n fX8_shares_18 rfl ?_
      refine R_aload_n fX8_shares_19 rfl ?_
      refine R_getP 0 fX8_shares_20 hM.1 (by omega) rfl rfl rfl hM.2.2.2.2.2.2.2.2.1 ?_
      refine R_iconst fX8_shares_23 ?_
      refine R_iaload fX8_shares_24 hM.2.1 (by omega) ?_
      rw [setr_eq]
      refine R_icmp_ge fX8_shares_25 rfl (fun h25 => ?_) (fun h25 => ?_)
      · refine R_return fX8_shares_95 rfl ?_
        exact ⟨_, rfl, by rw [show i = s 0 by omega]⟩
      · refine R_iload_n fX8_shares_28 rfl ?_
        refine R_iload_n fX8_shares_29 rfl ?_
        refine R_icmp_ne fX8_shares_30 rfl (fun h30 => ?_) (fun h30 => ?_)
        · refine R_iload_n fX8_shares_37 rfl ?_
          refine R_istore fX8_shares_38 rfl ?_
          refine R_aload_n fX8_shares_40 rfl ?_
          refine R_getP 0 fX8_shares_41 hM.1 (by omega) rfl rfl rfl hM.2.2.2.2.2.2.2.2.1 ?_
          refine R_bipush fX8_shares_44 ?_
          refine R_bipush fX8_shares_46 ?_
          refine R_iload_n fX8_shares_48 rfl ?_
          refine R_imul fX8_shares_49 (by omega) ?_
          refine R_iadd fX8_shares_50 (by omega) ?_
          refine R_iconst fX8_shares_51 ?_
          refine R_iadd fX8_shares_52 (by omega) ?_
          refine R_dup2 fX8_shares_53 ?_
          refine R_iaload fX8_shares_54 hM.2.1 (by omega) ?_
          rw [setr_eq]
          refine R_iload fX8_shares_55 rfl ?_
          refine R_iaddV fX8_shares_57 (rfl) ?_
          refine R_iastore fX8_shares_58 hM.2.1 (by omega) (by omega) ?_
          rw [stt_setr]
          refine R_aload_n fX8_shares_59 rfl ?_
          refine R_getP 0 fX8_shares_60 hM.1 (by omega) rfl rfl rfl hM.2.2.2.2.2.2.2.2.1 ?_
          refine R_bipush fX8_shares_63 ?_
          refine R_bipush fX8_shares_65 ?_
          refine R_iload_n fX8_shares_67 rfl ?_
          refine R_imul fX8_shares_68 (by omega) ?_
          refine R_iadd fX8_shares_69 (by omega) ?_
          refine R_iconst fX8_shares_70 ?_
          refine R_iadd fX8_shares_71 (by omega) ?_
          refine R_dup2 fX8_shares_72 ?_
          refine R_iaload fX8_shares_73 hM.2.1 (by omega) ?_
          rw [setr_eq]
          refine R_iload fX8_shares_74 rfl ?_
          refine R_iaddV fX8_shares_76 (rfl) ?_
          refine R_iastore fX8_shares_77 hM.2.1 (by omega) (by omega) ?_
          rw [stt_setr]
          refine R_aload_n fX8_shares_78 rfl ?_
          refine R_getP 0 fX8_shares_79 hM.1 (by omega) rfl rfl rfl hM.2.2.2.2.2.2.2.2.1 ?_
          refine R_iconst fX8_shares_82 ?_
          refine R_dup2 fX8_shares_83 ?_
          refine R_iaload fX8_shares_84 hM.2.1 (by omega) ?_
          rw [setr_eq]
          refine R_iload fX8_shares_85 rfl ?_
          refine R_isubV fX8_shares_87 (rfl) ?_
          refine R_iastore fX8_shares_88 hM.2.1 (by omega) (by omega) ?_
          rw [stt_setr]
          refine R_iinc fX8_shares_89 rfl (by omega) ?_
          refine R_goto fX8_shares_92 rfl ?_
          have e : up (up (up (shrS w part s i.toNat) (126 + 6 * i + 0) (wr (shrS w part s i.toNat (126 + 6 * i + 0) + part))) (126 + 6 * i + 5) (wr (up (shrS w part s i.toNat) (126 + 6 * i + 0) (wr (shrS w part s i.toNat (126 + 6 * i + 0) + part)) (126 + 6 * i + 5) + part))) 1 (wr (up (up (shrS w part s i.toNat) (126 + 6 * i + 0) (wr (shrS w part s i.toNat (126 + 6 * i + 0) + part))) (126 + 6 * i + 5) (wr (up (shrS w part s i.toNat) (126 + 6 * i + 0) (wr (shrS w part s i.toNat (126 + 6 * i + 0) + part)) (126 + 6 * i + 5) + part)) 1 - part)) = shrS w part s (i + 1).toNat := by
            rw [toN h1]
            funext j
            show _ = if j = 126 + 6 * ((i.toNat : Nat) : Int) then wr (shrS w part s i.toNat j + (if ((i.toNat : Nat) : Int) = w then 0 else part)) else if j = 126 + 6 * ((i.toNat : Nat) : Int) + 5 then wr (shrS w part s i.toNat j + (if ((i.toNat : Nat) : Int) = w then 0 else part)) else if j = 1 then wr (shrS w part s i.toNat j - (if ((i.toNat : Nat) : Int) = w then 0 else part)) else shrS w part s i.toNat j
            rw [toC h1, show (if i = w then 0 else part) = part by exact if_neg h30]
            generalize shrS w part s i.toNat = g
            rw [Int.add_zero]
            rw [up_ne g _ (by omega : 126 + 6 * i + 5 ≠ 126 + 6 * i), up_ne _ _ (by omega : (1 : Int) ≠ 126 + 6 * i + 5), up_ne g _ (by omega : (1 : Int) ≠ 126 + 6 * i)]
            by_cases z1 : j = 1
            · rw [z1, up_eq, if_neg (by omega), if_neg (by omega), if_pos rfl]
            · rw [up_ne _ _ z1]
              by_cases z2 : j = 126 + 6 * i + 5
              · rw [z2, up_eq, if_neg (by omega), if_pos rfl]
              · rw [up_ne _ _ z2]
                by_cases z3 : j = 126 + 6 * i
                · rw [z3, up_eq, if_pos rfl]
                · rw [up_ne _ _ z3, if_neg z3, if_neg z2, if_neg z1]
          rw [e]
          exact ih (i + 1) _ (by omega) (by omega) (by omega)
        · refine R_iconst fX8_shares_33 ?_
          refine R_goto fX8_shares_34 rfl ?_
          refine R_istore fX8_shares_38 rfl ?_
          refine R_aload_n fX8_shares_40 rfl ?_
          refine R_getP 0 fX8_shares_41 hM.1 (by omega) rfl rfl rfl hM.2.2.2.2.2.2.2.2.1 ?_
          refine R_bipush fX8_shares_44 ?_
          refine R_bipush fX8_shares_46 ?_
          refine R_iload_n fX8_shares_48 rfl ?_
          refine R_imul fX8_shares_49 (by omega) ?_
          refine R_iadd fX8_shares_50 (by omega) ?_
          refine R_iconst fX8_shares_51 ?_
          refine R_iadd fX8_shares_52 (by omega) ?_
          refine R_dup2 fX8_shares_53 ?_
          refine R_iaload fX8_shares_54 hM.2.1 (by omega) ?_
          rw [setr_eq]
          refine R_iload fX8_shares_55 rfl ?_
          refine R_iaddV fX8_shares_57 (rfl) ?_
          refine R_iastore fX8_shares_58 hM.2.1 (by omega) (by omega) ?_
          rw [stt_setr]
          refine R_aload_n fX8_shares_59 rfl ?_
          refine R_getP 0 fX8_shares_60 hM.1 (by omega) rfl rfl rfl hM.2.2.2.2.2.2.2.2.1 ?_
          refine R_bipush fX8_shares_63 ?_
          refine R_bipush fX8_shares_65 ?_
          refine R_iload_n fX8_shares_67 rfl ?_
          refine R_imul fX8_shares_68 (by omega) ?_
          refine R_iadd fX8_shares_69 (by omega) ?_
          refine R_iconst fX8_shares_70 ?_
          refine R_iadd fX8_shares_71 (by omega) ?_
          refine R_dup2 fX8_shares_72 ?_
          refine R_iaload fX8_shares_73 hM.2.1 (by omega) ?_
          rw [setr_eq]
          refine R_iload fX8_shares_74 rfl ?_
          refine R_iaddV fX8_shares_76 (rfl) ?_
          refine R_iastore fX8_shares_77 hM.2.1 (by omega) (by omega) ?_
          rw [stt_setr]
          refine R_aload_n fX8_shares_78 rfl ?_
          refine R_getP 0 fX8_shares_79 hM.1 (by omega) rfl rfl rfl hM.2.2.2.2.2.2.2.2.1 ?_
          refine R_iconst fX8_shares_82 ?_
          refine R_dup2 fX8_shares_83 ?_
          refine R_iaload fX8_shares_84 hM.2.1 (by omega) ?_
          rw [setr_eq]
          refine R_iload fX8_shares_85 rfl ?_
          refine R_isubV fX8_shares_87 (rfl) ?_
          refine R_iastore fX8_shares_88 hM.2.1 (by omega) (by omega) ?_
          rw [stt_setr]
          refine R_iinc fX8_shares_89 rfl (by omega) ?_
          refine R_goto fX8_shares_92 rfl ?_
          have e : up (up (up (shrS w part s i.toNat) (126 + 6 * i + 0) (wr (shrS w part s i.toNat (126 + 6 * i + 0) + 0))) (126 + 6 * i + 5) (wr (up (shrS w part s i.toNat) (126 + 6 * i + 0) (wr (shrS w part s i.toNat (126 + 6 * i + 0) + 0)) (126 + 6 * i + 5) + 0))) 1 (wr (up (up (shrS w part s i.toNat) (126 + 6 * i + 0) (wr (shrS w part s i.toNat (126 + 6 * i + 0) + 0))) (126 + 6 * i + 5) (wr (up (shrS w part s i.toNat) (126 + 6 * i + 0) (wr (shrS w part s i.toNat (126 + 6 * i + 0) + 0)) (126 + 6 * i + 5) + 0)) 1 - 0)) = shrS w part s (i + 1).toNat := by
            rw [toN h1]
            funext j
            show _ = if j = 126 + 6 * ((i.toNat : Nat) : Int) then wr (shrS w part s i.toNat j + (if ((i.toNat : Nat) : Int) = w then 0 else part)) else if j = 126 + 6 * ((i.toNat : Nat) : Int) + 5 then wr (shrS w part s i.toNat j + (if ((i.toNat : Nat) : Int) = w then 0 else part)) else if j = 1 then wr (shrS w part s i.toNat j - (if ((i.toNat : Nat) : Int) = w then 0 else part)) else shrS w part s i.toNat j
            rw [toC h1, show (if i = w then 0 else part) = 0 by exact if_pos h30]
            generalize shrS w part s i.toNat = g
            rw [Int.add_zero]
            rw [up_ne g _ (by omega : 126 + 6 * i + 5 ≠ 126 + 6 * i), up_ne _ _ (by omega : (1 : Int) ≠ 126 + 6 * i + 5), up_ne g _ (by omega : (1 : Int) ≠ 126 + 6 * i)]
            by_cases z1 : j = 1
            · rw [z1, up_eq, if_neg (by omega), if_neg (by omega), if_pos rfl]
            · rw [up_ne _ _ z1]
              by_cases z2 : j = 126 + 6 * i + 5
              · rw [z2, up_eq, if_neg (by omega), if_pos rfl]
              · rw [up_ne _ _ z2]
                by_cases z3 : j = 126 + 6 * i
                · rw [z3, up_eq, if_pos rfl]
                · rw [up_ne _ _ z3, if_neg z3, if_neg z2, if_neg z1]
          rw [e]
          exact ih (i + 1) _ (by omega) (by omega) (by omega)
  refine R_aload_n fX8_shares_0 rfl ?_
  refine R_getP 0 fX8_shares_1 hM.1 (by omega) rfl rfl rfl hM.2.2.2.2.2.2.2.2.1 ?_
  refine R_iconst fX8_shares_4 ?_
  refine R_iaload fX8_shares_5 hM.2.1 (by omega) ?_
  rw [setr_eq]
  refine R_aload_n fX8_shares_6 rfl ?_
  refine R_getP 0 fX8_shares_7 hM.1 (by omega) rfl rfl rfl hM.2.2.2.2.2.2.2.2.1 ?_
  refine R_iconst fX8_shares_10 ?_
  refine R_iaload fX8_shares_11 hM.2.1 (by omega) ?_
  rw [setr_eq]
  refine R_iconst fX8_shares_12 ?_
  refine R_isub fX8_shares_13 (by omega) ?_
  refine R_idivV fX8_shares_14 (by omega) (hpart) ?_
  refine R_istore_n fX8_shares_15 rfl ?_
  refine R_iconst fX8_shares_16 ?_
  refine R_istore_n fX8_shares_17 rfl ?_
  exact lp 5 0 _ (by omega) (by omega) (by omega)
theorem sp_mkeeps {d : Nat} {kd : KL} {F : FM} {P : PM} {s : Int → Int} {w most sum many : Int} (hd : 2 ≤ d) (hM : shM kd P) (h29 : 0 ≤ s 29 ∧ s 29 ≤ 12) : Sp d 104 [.inr (some 128), .inl w, .inl most, .inl sum, .inl many] kd (setr F 129 s) P (QN kd P (fun F' => F' = setr F 129 (keepsS s w most sum many))) := by
  refine Sp_of (me := mX8_keeps) (by omega) pX8_keeps ⟨rfl, Nat.le_of_ble_eq_true rfl⟩ ?_
  have lp2 : ∀ (N : Nat) (i : Int), 0 ≤ i → i ≤ 4 → 4 - i < N → Rn (d - 1) mX8_keeps 76 [some (.inr (some 128)), some (.inl w), some (.inl most), some (.inl sum), some (.inl many), some (.inl i)] [] kd (setr F 129 (fun j => if 34 ≤ j ∧ j < 34 + (i) then s (126 + 6 * (j - 34) + 2) else (up (up (up (up (fun j => if 30 + 7 < j ∧ j < 126 then s (j - 8) else s j) 30 w) 31 most) 32 sum) 33 many) j)) P (QN kd P (fun F' => F' = setr F 129 (keepsS s w most sum many))) := by
    intro N
    induction N with
    | zero => intro i h1 h2 h4; omega
    | succ N ih =>
      intro i h1 h2 h4
      generalize hg : (fun j => if 34 ≤ j ∧ j < 34 + (i) then s (126 + 6 * (j - 34) + 2) else (up (up (up (up (fun j => if 30 + 7 < j ∧ j < 126 then s (j - 8) else s j) 30 w) 31 most) 32 sum) 33 many) j) = g
      have gb : ∀ j, (126 ≤ j ∨ j < 30) → g j = s j := fun j hj => by
        rw [← hg]
        show (if 34 ≤ j ∧ j < 34 + i then _ else (up (up (up (up (fun j => if 30 + 7 < j ∧ j < 126 then s (j - 8) else s j) 30 w) 31 most) 32 sum) 33 many) j) = _
        rw [if_neg (by omega), up_ne _ _ (by omega), up_ne _ _ (by omega), up_ne _ _ (by omega), up_ne _ _ (by omega)]
        exact if_neg (by omega)
      refine R_iload fX8_keeps_76 rfl ?_
      refine R_iconst fX8_keeps_78 ?_
      refine R_icmp_ge fX8_keeps_79 rfl (fun h79 => ?_) (fun h79 => ?_)
      · have hi4 : i = 4 := by omega
        subst hi4
        refine R_aload_n fX8_keeps_105 rfl ?_
        refine R_getP 0 fX8_keeps_106 hM.1 (by omega) rfl rfl rfl hM.2.2.2.2.2.2.2.2.1 ?_
        refine R_bipush fX8_keeps_109 ?_
        refine R_aload_n fX8_keeps_111 rfl ?_
        refine R_getP 0 fX8_keeps_112 hM.1 (by omega) rfl rfl rfl hM.2.2.2.2.2.2.2.2.1 ?_
        refine R_bipush fX8_keeps_115 ?_
        refine R_iaload fX8_keeps_117 hM.2.1 (by omega) ?_
        rw [setr_eq]
        refine R_iconst fX8_keeps_118 ?_
        refine R_iadd fX8_keeps_119 (by rw [gb 29 (by omega)]; omega) ?_
        refine R_bipush fX8_keeps_120 ?_
        refine R_callE fX8_keeps_122 rfl rfl pX8_least rfl ⟨Nat.le_of_ble_eq_true rfl, rfl⟩ (sp_mleast (by omega)) ?_
        refine R_iastore fX8_keeps_125 hM.2.1 (by omega) (by omega) ?_
        rw [stt_setr]
        refine R_aload_n fX8_keeps_126 rfl ?_
        refine R_getP 0 fX8_keeps_127 hM.1 (by omega) rfl rfl rfl hM.2.2.2.2.2.2.2.2.1 ?_
        refine R_iconst fX8_keeps_130 ?_
        refine R_dup2 fX8_keeps_131 ?_
        refine R_iaload fX8_keeps_132 hM.2.1 (by omega) ?_
        rw [setr_eq]
        refine R_iconst fX8_keeps_133 ?_
        refine R_iaddV fX8_keeps_134 (rfl) ?_
        refine R_iastore fX8_keeps_135 hM.2.1 (by omega) (by omega) ?_
        rw [stt_setr]
        refine R_aload_n fX8_keeps_136 rfl ?_
        refine R_getP 0 fX8_keeps_137 hM.1 (by omega) rfl rfl rfl hM.2.2.2.2.2.2.2.2.1 ?_
        refine R_iconst fX8_keeps_140 ?_
        refine R_dup2 fX8_keeps_141 ?_
        refine R_iaload fX8_keeps_142 hM.2.1 (by omega) ?_
        rw [setr_eq]
        refine R_iload_n fX8_keeps_143 rfl ?_
        refine R_if_ge fX8_keeps_144 rfl (fun h144 => ?_) (fun h144 => ?_)
        · refine R_iconst fX8_keeps_151 ?_
          refine R_iaddV fX8_keeps_152 (rfl) ?_
          refine R_iastore fX8_keeps_153 hM.2.1 (by omega) (by omega) ?_
          rw [stt_setr]
          refine R_return fX8_keeps_154 rfl ?_
          refine ⟨_, rfl, ?_⟩
          congr 1
          funext j
          unfold keepsS
          by_cases z3 : j = 3
          · rw [z3, up_eq, up_ne _ _ (by omega), up_ne _ _ (by omega), gb 3 (by omega), if_neg (by omega), if_neg (by omega), if_neg (by omega), if_neg (by omega), if_neg (by omega), if_neg (by omega), if_neg (by omega), if_neg (by omega), if_pos rfl]
            rw [if_neg (by omega)]
          · rw [up_ne _ _ z3]
            by_cases z2 : j = 2
            · rw [z2, up_eq, up_ne _ _ (by omega), gb 2 (by omega), if_neg (by omega), if_neg (by omega), if_neg (by omega), if_neg (by omega), if_neg (by omega), if_neg (by omega), if_neg (by omega), if_pos rfl]
            · rw [up_ne _ _ z2]
              by_cases z1 : j = 29
              · rw [z1, up_eq, gb 29 (by omega), if_neg (show ¬ ((38 : Int) ≤ 29 ∧ (29 : Int) < 126) by omega), if_neg (show ¬ (29 : Int) = 30 by omega), if_neg (show ¬ (29 : Int) = 31 by omega), if_neg (show ¬ (29 : Int) = 32 by omega), if_neg (show ¬ (29 : Int) = 33 by omega), if_neg (show ¬ ((34 : Int) ≤ 29 ∧ (29 : Int) < 38) by omega), if_pos (show (29 : Int) = 29 from rfl)]
              · rw [up_ne _ _ z1, ← hg]
                show (if 34 ≤ j ∧ j < 34 + 4 then _ else (up (up (up (up (fun j => if 30 + 7 < j ∧ j < 126 then s (j - 8) else s j) 30 w) 31 most) 32 sum) 33 many) j) = _
                by_cases y1 : 34 ≤ j ∧ j < 38
                · rw [if_pos (by omega), if_neg (by omega), if_neg (by omega), if_neg (by omega), if_neg (by omega), if_neg (by omega), if_pos y1]
                · rw [if_neg (show ¬ (34 ≤ j ∧ j < 34 + 4) by omega)]
                  by_cases y2 : j = 33
                  · rw [y2, up_eq, if_neg (by omega), if_neg (by omega), if_neg (by omega), if_neg (by omega), if_pos rfl]
                  · rw [up_ne _ _ y2]
                    by_cases y3 : j = 32
                    · rw [y3, up_eq, if_neg (by omega), if_neg (by omega), if_neg (by omega), if_pos rfl]
                    · rw [up_ne _ _ y3]
                      by_cases y4 : j = 31
                      · rw [y4, up_eq, if_neg (by omega), if_neg (by omega), if_pos rfl]
                      · rw [up_ne _ _ y4]
                        by_cases y5 : j = 30
                        · rw [y5, up_eq, if_neg (by omega), if_pos rfl]
                        · rw [up_ne _ _ y5]
                          by_cases y6 : 38 ≤ j ∧ j < 126
                          · rw [if_pos (by omega), if_pos y6]
                          · rw [if_neg (by omega), if_neg y6, if_neg y5, if_neg y4, if_neg y3, if_neg y2, if_neg y1, if_neg z1, if_neg z2, if_neg z3]
        · refine R_iconst fX8_keeps_147 ?_
          refine R_goto fX8_keeps_148 rfl ?_
          refine R_iaddV fX8_keeps_152 (rfl) ?_
          refine R_iastore fX8_keeps_153 hM.2.1 (by omega) (by omega) ?_
          rw [stt_setr]
          refine R_return fX8_keeps_154 rfl ?_
          refine ⟨_, rfl, ?_⟩
          congr 1
          funext j
          unfold keepsS
          by_cases z3 : j = 3
          · rw [z3, up_eq, up_ne _ _ (by omega), up_ne _ _ (by omega), gb 3 (by omega), if_neg (by omega), if_neg (by omega), if_neg (by omega), if_neg (by omega), if_neg (by omega), if_neg (by omega), if_neg (by omega), if_neg (by omega), if_pos rfl]
            rw [if_pos (by omega)]
          · rw [up_ne _ _ z3]
            by_cases z2 : j = 2
            · rw [z2, up_eq, up_ne _ _ (by omega), gb 2 (by omega), if_neg (by omega), if_neg (by omega), if_neg (by omega), if_neg (by omega), if_neg (by omega), if_neg (by omega), if_neg (by omega), if_pos rfl]
            · rw [up_ne _ _ z2]
              by_cases z1 : j = 29
              · rw [z1, up_eq, gb 29 (by omega), if_neg (show ¬ ((38 : Int) ≤ 29 ∧ (29 : Int) < 126) by omega), if_neg (show ¬ (29 : Int) = 30 by omega), if_neg (show ¬ (29 : Int) = 31 by omega), if_neg (show ¬ (29 : Int) = 32 by omega), if_neg (show ¬ (29 : Int) = 33 by omega), if_neg (show ¬ ((34 : Int) ≤ 29 ∧ (29 : Int) < 38) by omega), if_pos (show (29 : Int) = 29 from rfl)]
              · rw [up_ne _ _ z1, ← hg]
                show (if 34 ≤ j ∧ j < 34 + 4 then _ else (up (up (up (up (fun j => if 30 + 7 < j ∧ j < 126 then s (j - 8) else s j) 30 w) 31 most) 32 sum) 33 many) j) = _
                by_cases y1 : 34 ≤ j ∧ j < 38
                · rw [if_pos (by omega), if_neg (by omega), if_neg (by omega), if_neg (by omega), if_neg (by omega), if_neg (by omega), if_pos y1]
                · rw [if_neg (show ¬ (34 ≤ j ∧ j < 34 + 4) by omega)]
                  by_cases y2 : j = 33
                  · rw [y2, up_eq, if_neg (by omega), if_neg (by omega), if_neg (by omega), if_neg (by omega), if_pos rfl]
                  · rw [up_ne _ _ y2]
                    by_cases y3 : j = 32
                    · rw [y3, up_eq, if_neg (by omega), if_neg (by omega), if_neg (by omega), if_pos rfl]
                    · rw [up_ne _ _ y3]
                      by_cases y4 : j = 31
                      · rw [y4, up_eq, if_neg (by omega), if_neg (by omega), if_pos rfl]
                      · rw [up_ne _ _ y4]
                        by_cases y5 : j = 30
                        · rw [y5, up_eq, if_neg (by omega), if_pos rfl]
                        · rw [up_ne _ _ y5]
                          by_cases y6 : 38 ≤ j ∧ j < 126
                          · rw [if_pos (by omega), if_pos y6]
                          · rw [if_neg (by omega), if_neg y6, if_neg y5, if_neg y4, if_neg y3, if_neg y2, if_neg y1, if_neg z1, if_neg z2, if_neg z3]
      · refine R_aload_n fX8_keeps_82 rfl ?_
        refine R_getP 0 fX8_keeps_83 hM.1 (by omega) rfl rfl rfl hM.2.2.2.2.2.2.2.2.1 ?_
        refine R_bipush fX8_keeps_86 ?_
        refine R_iload fX8_keeps_88 rfl ?_
        refine R_iadd fX8_keeps_90 (by omega) ?_
        refine R_aload_n fX8_keeps_91 rfl ?_
        refine R_iload fX8_keeps_92 rfl ?_
        refine R_iconst fX8_keeps_94 ?_
        refine R_callE fX8_keeps_95 rfl rfl pX8_of rfl ⟨Nat.le_of_ble_eq_true rfl, rcv_v rfl (by omega) hM.1⟩ (sp_mof (by omega) hM ⟨h1, by omega⟩ (by omega)) ?_
        rw [gb _ (by omega)]
        refine R_iastore fX8_keeps_98 hM.2.1 (by omega) (by omega) ?_
        rw [stt_setr]
        refine R_iinc fX8_keeps_99 rfl (by omega) ?_
        refine R_goto fX8_keeps_102 rfl ?_
        have e : up g (34 + i) (s (126 + 6 * i + 2)) = (fun j => if 34 ≤ j ∧ j < 34 + (i + 1) then s (126 + 6 * (j - 34) + 2) else (up (up (up (up (fun j => if 30 + 7 < j ∧ j < 126 then s (j - 8) else s j) 30 w) 31 most) 32 sum) 33 many) j) := by
          funext j
          show _ = (if 34 ≤ j ∧ j < 34 + (i + 1) then s (126 + 6 * (j - 34) + 2) else (up (up (up (up (fun j => if 30 + 7 < j ∧ j < 126 then s (j - 8) else s j) 30 w) 31 most) 32 sum) 33 many) j)
          by_cases z1 : j = 34 + i
          · rw [z1, up_eq, if_pos (by omega), show 34 + i - 34 = i by omega]
          · rw [up_ne _ _ z1, ← hg]
            show (if 34 ≤ j ∧ j < 34 + i then s (126 + 6 * (j - 34) + 2) else (up (up (up (up (fun j => if 30 + 7 < j ∧ j < 126 then s (j - 8) else s j) 30 w) 31 most) 32 sum) 33 many) j) = _
            by_cases z2 : 34 ≤ j ∧ j < 34 + i
            · rw [if_pos z2, if_pos (by omega)]
            · rw [if_neg z2, if_neg (by omega)]
        rw [e]
        exact ih (i + 1) (by omega) (by omega) (by omega)
  have lp1 : ∀ (N : Nat) (i : Int), 7 ≤ i → i ≤ 95 → i - 7 < N → Rn (d - 1) mX8_keeps 4 [some (.inr (some 128)), some (.inl w), some (.inl most), some (.inl sum), some (.inl many), some (.inl i)] [] kd (setr F 129 (fun j => if 30 + i < j ∧ j < 126 then s (j - 8) else s j)) P (QN kd P (fun F' => F' = setr F 129 (keepsS s w most sum many))) := by
    intro N
    induction N with
    | zero => intro i h1 h2 h4; omega
    | succ N ih =>
      intro i h1 h2 h4
      generalize hg : (fun j => if 30 + i < j ∧ j < 126 then s (j - 8) else s j) = g
      refine R_iload fX8_keeps_4 rfl ?_
      refine R_bipush fX8_keeps_6 ?_
      refine R_icmp_lt fX8_keeps_8 rfl (fun h8 => ?_) (fun h8 => ?_)
      · have hi : i = 7 := by omega
        subst hi
        rw [← hg]
        refine R_aload_n fX8_keeps_40 rfl ?_
        refine R_getP 0 fX8_keeps_41 hM.1 (by omega) rfl rfl rfl hM.2.2.2.2.2.2.2.2.1 ?_
        refine R_bipush fX8_keeps_44 ?_
        refine R_iload_n fX8_keeps_46 rfl ?_
        refine R_iastore fX8_keeps_47 hM.2.1 (by omega) (by omega) ?_
        rw [stt_setr]
        refine R_aload_n fX8_keeps_48 rfl ?_
        refine R_getP 0 fX8_keeps_49 hM.1 (by omega) rfl rfl rfl hM.2.2.2.2.2.2.2.2.1 ?_
        refine R_bipush fX8_keeps_52 ?_
        refine R_iload_n fX8_keeps_54 rfl ?_
        refine R_iastore fX8_keeps_55 hM.2.1 (by omega) (by omega) ?_
        rw [stt_setr]
        refine R_aload_n fX8_keeps_56 rfl ?_
        refine R_getP 0 fX8_keeps_57 hM.1 (by omega) rfl rfl rfl hM.2.2.2.2.2.2.2.2.1 ?_
        refine R_bipush fX8_keeps_60 ?_
        refine R_iload_n fX8_keeps_62 rfl ?_
        refine R_iastore fX8_keeps_63 hM.2.1 (by omega) (by omega) ?_
        rw [stt_setr]
        refine R_aload_n fX8_keeps_64 rfl ?_
        refine R_getP 0 fX8_keeps_65 hM.1 (by omega) rfl rfl rfl hM.2.2.2.2.2.2.2.2.1 ?_
        refine R_bipush fX8_keeps_68 ?_
        refine R_iload fX8_keeps_70 rfl ?_
        refine R_iastore fX8_keeps_72 hM.2.1 (by omega) (by omega) ?_
        rw [stt_setr]
        refine R_iconst fX8_keeps_73 ?_
        refine R_istore fX8_keeps_74 rfl ?_
        have e : (fun j => if 34 ≤ j ∧ j < 34 + (0) then s (126 + 6 * (j - 34) + 2) else (up (up (up (up (fun j => if 30 + 7 < j ∧ j < 126 then s (j - 8) else s j) 30 w) 31 most) 32 sum) 33 many) j) = (up (up (up (up (fun j => if 30 + 7 < j ∧ j < 126 then s (j - 8) else s j) 30 w) 31 most) 32 sum) 33 many) := by
          funext j
          exact if_neg (by omega)
        have h := lp2 5 0 (by omega) (by omega) (by omega)
        rw [e] at h
        exact h
      · refine R_aload_n fX8_keeps_11 rfl ?_
        refine R_getP 0 fX8_keeps_12 hM.1 (by omega) rfl rfl rfl hM.2.2.2.2.2.2.2.2.1 ?_
        refine R_bipush fX8_keeps_15 ?_
        refine R_iload fX8_keeps_17 rfl ?_
        refine R_iadd fX8_keeps_19 (by omega) ?_
        refine R_aload_n fX8_keeps_20 rfl ?_
        refine R_getP 0 fX8_keeps_21 hM.1 (by omega) rfl rfl rfl hM.2.2.2.2.2.2.2.2.1 ?_
        refine R_bipush fX8_keeps_24 ?_
        refine R_iload fX8_keeps_26 rfl ?_
        refine R_iadd fX8_keeps_28 (by omega) ?_
        refine R_bipush fX8_keeps_29 ?_
        refine R_isub fX8_keeps_31 (by omega) ?_
        refine R_iaload fX8_keeps_32 hM.2.1 (by omega) ?_
        rw [setr_eq]
        refine R_iastore fX8_keeps_33 hM.2.1 (by omega) (by omega) ?_
        rw [stt_setr]
        refine R_iinc fX8_keeps_34 rfl (by omega) ?_
        refine R_goto fX8_keeps_37 rfl ?_
        have hgs : g (30 + i - 8) = s (30 + i - 8) := by rw [← hg]; exact if_neg (by omega)
        have e : up g (30 + i) (g (30 + i - 8)) = (fun j => if 30 + (i + -1) < j ∧ j < 126 then s (j - 8) else s j) := by
          funext j
          show _ = (if 30 + (i + -1) < j ∧ j < 126 then s (j - 8) else s j)
          rw [hgs]
          by_cases z1 : j = 30 + i
          · rw [z1, up_eq, if_pos (by omega)]
          · rw [up_ne _ _ z1, ← hg]
            show (if 30 + i < j ∧ j < 126 then s (j - 8) else s j) = _
            by_cases z2 : 30 + i < j ∧ j < 126
            · rw [if_pos z2, if_pos (by omega)]
            · rw [if_neg z2, if_neg (by omega)]
        rw [e]
        exact ih (i + -1) (by omega) (by omega) (by omega)
  refine R_bipush fX8_keeps_0 ?_
  refine R_istore fX8_keeps_2 rfl ?_
  have e : (fun j => if 30 + 95 < j ∧ j < 126 then s (j - 8) else s j) = s := by
    funext j
    exact if_neg (by omega)
  have h := lp1 100 95 (by omega) (by omega) (by omega)
  rw [e] at h
  exact h
