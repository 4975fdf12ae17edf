theorem sp_startGame {d : Nat} {kd : KL} {F : FM} {P : PM} {B : Nat} {s : Int → Int} {n c : Int} (hd : 2 ≤ d) (hS : shS kd P B) (hset : ∀ k, 0 ≤ k → k < 3 → F (B + 7) k = s (26 + k)) (hsb : (0 ≤ s 26 ∧ s 26 ≤ 5) ∧ (0 ≤ s 27 ∧ s 27 ≤ 5) ∧ (0 ≤ s 28 ∧ s 28 ≤ 1)) (hin : ∀ j, inb (s j)) : Sp d 30 [.inr (some B), .inl n, .inl c] kd F P (QV kd P (fun r F' => r = aBeg s n c ∧ (if n < 2 ∨ 4 < n then F' = F else if c < 0 ∨ 30 < c then F' = F else Rel B F' (beginS s n c)) ∧ ∀ k, (k < B ∨ B + 16 ≤ k) → F' k = F k)) := by
  refine Sp_of (me := mX5_startGame) (by omega) pX5_startGame ⟨rfl, Nat.le_of_ble_eq_true rfl⟩ ?_
  have lp : ∀ (N : Nat) (i : Int) (G : FM), 0 ≤ i → i ≤ 4 → 2 ≤ n → n ≤ 4 → 0 ≤ c → c ≤ 30 → (G B 0 = n ∧ G B 1 = 0 ∧ G B 2 = 0 ∧ G B 3 = 0 ∧ G B 4 = 0 ∧ G B 5 = 0 ∧ G B 6 = 0) → (∀ p, 0 ≤ p → p < i → G (B + 1) p = (if p < n then c else 0) ∧ G (B + 2) p = 0 ∧ G (B + 3) p = -1 ∧ G (B + 4) p = 0 ∧ G (B + 5) p = 0 ∧ G (B + 6) p = 0) → (∀ k, (k < B ∨ B + 7 ≤ k) → G k = F k) → 4 - i < N → Rn (d - 1) mX5_startGame 63 [some (.inr (some B)), some (.inl n), some (.inl c), some (.inl i)] [] kd G P (QV kd P (fun r F' => r = aBeg s n c ∧ (if n < 2 ∨ 4 < n then F' = F else if c < 0 ∨ 30 < c then F' = F else Rel B F' (beginS s n c)) ∧ ∀ k, (k < B ∨ B + 16 ≤ k) → F' k = F k)) := by
    intro N
    induction N with
    | zero => intro i G h0 h1 hn1 hn2 hc1 hc2 h2 h3 h4 h5; omega
    | succ N ih =>
      intro i G h0 h1 hn1 hn2 hc1 hc2 h2 h3 h4 h5
      obtain ⟨g0, g1, g2, g3, g4, g5, g6⟩ := id h2
      refine R_iload_n fX5_startGame_63 rfl ?_
      refine R_iconst fX5_startGame_64 ?_
      refine R_icmp_ge fX5_startGame_65 rfl (fun h65 => ?_) (fun h65 => ?_)
      · have hi : i = 4 := by omega
        subst hi
        refine R_aload_n fX5_startGame_128 rfl ?_
        refine R_getP 15 fX5_startGame_129 (shS_k0 hS) (shS_3 hS 0) rfl rfl rfl (shS_p15 hS) ?_
        refine R_callN fX5_startGame_132 rfl rfl pX4_empty rfl ⟨Nat.le_of_ble_eq_true rfl, rcv_v rfl (shS_3 hS 9) (shS_k9 hS)⟩ (sp_logEmpty (by omega) hS) (fun G1 x => ?_)
        obtain ⟨x1, x2, x⟩ := x
        refine R_aload_n fX5_startGame_135 rfl ?_
        refine R_getP 16 fX5_startGame_136 (shS_k0 hS) (shS_3 hS 0) rfl rfl rfl (shS_p16 hS) ?_
        refine R_callN fX5_startGame_139 rfl rfl pX3_empty rfl ⟨Nat.le_of_ble_eq_true rfl, rcv_v rfl (shS_3 hS 11) (shS_k11 hS)⟩ (sp_prEmpty (by omega) hS) (fun G2 y => ?_)
        obtain ⟨y1, y⟩ := y
        have e4 : beginS s n c 4 = 0 := beg_z (by omega) (by omega) (by omega) (by omega)
        have e25 : beginS s n c 25 = 0 := beg_z (by omega) (by omega) (by omega) (by omega)
        have e150 : beginS s n c 150 = 0 := beg_z (by omega) (by omega) (by omega) (by omega)
        have hw2 : WF (beginS s n c) := WF_begin hsb hin ⟨hn1, hn2⟩ ⟨hc1, hc2⟩
        have hR2 : Rel B G2 (beginS s n c) := by
          refine ⟨?_, ?_, ?_, ?_, ?_, ?_, ?_, fun p p0 p1 => ?_, fun k k0 k1 => ?_, fun k k0 k1 => ?_, fun k k0 k1 => ?_, ?_, ?_, fun b j b0 b1 j0 j1 => ?_, ?_, fun i i0 i1 => ?_⟩
          · rw [beg_0, y B (by omega), x B (by omega)]; exact g0
          · rw [beg_z (by omega) (by omega) (by omega) (by omega), y B (by omega), x B (by omega)]; exact g1
          · rw [beg_z (by omega) (by omega) (by omega) (by omega), y B (by omega), x B (by omega)]; exact g2
          · rw [beg_z (by omega) (by omega) (by omega) (by omega), y B (by omega), x B (by omega)]; exact g3
          · rw [e25, y B (by omega), x B (by omega)]; exact g4
          · rw [show tabS (beginS s n c) = 0 by unfold tabS; rw [e25]; rfl, y B (by omega), x B (by omega)]; exact g5
          · rw [e4, y B (by omega), x B (by omega)]; exact g6
          · have h := h3 p p0 (by omega)
            rw [beg_c ⟨p0, p1⟩, beg_pl ⟨p0, p1⟩ (by omega), beg_pl ⟨p0, p1⟩ (by omega), beg_pl ⟨p0, p1⟩ (by omega), beg_pl ⟨p0, p1⟩ (by omega), beg_pl ⟨p0, p1⟩ (by omega)]
            rw [y _ (by omega), x _ (by omega), y _ (by omega), x _ (by omega), y _ (by omega), x _ (by omega), y _ (by omega), x _ (by omega), y _ (by omega), x _ (by omega), y _ (by omega), x _ (by omega)]
            exact h
          · rw [beg_set (by omega), y _ (by omega), x _ (by omega), h4 _ (by omega)]; exact hset k k0 k1
          · omega
          · omega
          · rw [beg_z (by omega) (by omega) (by omega) (by omega), y _ (by omega)]; exact x1
          · rw [y _ (by omega), x2]; omega
          · rw [beg_z (j := 29) (by omega) (by omega) (by omega) (by omega)] at b1; omega
          · rw [e150]; exact y1
          · omega
        refine R_aload_n fX5_startGame_142 rfl ?_
        refine R_callE fX5_startGame_143 rfl rfl pX5_allCoins rfl ⟨Nat.le_of_ble_eq_true rfl, rcv_v rfl (shS_3 hS 0) (shS_k0 hS)⟩ (sp_allCoins (by omega) hS hR2 hw2) ?_
        refine R_ireturn fX5_startGame_146 rfl ?_
        refine ⟨_, _, rfl, ?_, ?_, fun k hk => ?_⟩
        · unfold aBeg
          rw [if_neg (by omega), if_neg (by omega)]
          rfl
        · rw [if_neg (by omega), if_neg (by omega)]
          exact hR2
        · rw [y k (by omega), x k (by omega), h4 k (by omega)]
      · refine R_aload_n fX5_startGame_68 rfl ?_
        refine R_getP 7 fX5_startGame_69 (shS_k0 hS) (shS_3 hS 0) rfl rfl rfl (shS_p7 hS) ?_
        refine R_iload_n fX5_startGame_72 rfl ?_
        refine R_iload_n fX5_startGame_73 rfl ?_
        refine R_aload_n fX5_startGame_74 rfl ?_
        refine R_getI 0 fX5_startGame_75 (shS_k0 hS) (shS_3 hS 0) rfl rfl rfl ?_
        refine R_icmp_ge fX5_startGame_78 rfl (fun h78 => ?_) (fun h78 => ?_)
        · refine R_iconst fX5_startGame_85 ?_
          refine R_iastore fX5_startGame_86 (shS_k1 hS) (shS_3 hS 1) (by omega) ?_
          refine R_aload_n fX5_startGame_87 rfl ?_
          refine R_getP 8 fX5_startGame_88 (shS_k0 hS) (shS_3 hS 0) rfl rfl rfl (shS_p8 hS) ?_
          refine R_iload_n fX5_startGame_91 rfl ?_
          refine R_iconst fX5_startGame_92 ?_
          refine R_iastore fX5_startGame_93 (shS_k2 hS) (shS_3 hS 2) (by omega) ?_
          refine R_aload_n fX5_startGame_94 rfl ?_
          refine R_getP 9 fX5_startGame_95 (shS_k0 hS) (shS_3 hS 0) rfl rfl rfl (shS_p9 hS) ?_
          refine R_iload_n fX5_startGame_98 rfl ?_
          refine R_iconst fX5_startGame_99 ?_
          refine R_iastore fX5_startGame_100 (shS_k3 hS) (shS_3 hS 3) (by omega) ?_
          refine R_aload_n fX5_startGame_101 rfl ?_
          refine R_getP 10 fX5_startGame_102 (shS_k0 hS) (shS_3 hS 0) rfl rfl rfl (shS_p10 hS) ?_
          refine R_iload_n fX5_startGame_105 rfl ?_
          refine R_iconst fX5_startGame_106 ?_
          refine R_iastore fX5_startGame_107 (shS_k4 hS) (shS_3 hS 4) (by omega) ?_
          refine R_aload_n fX5_startGame_108 rfl ?_
          refine R_getP 11 fX5_startGame_109 (shS_k0 hS) (shS_3 hS 0) rfl rfl rfl (shS_p11 hS) ?_
          refine R_iload_n fX5_startGame_112 rfl ?_
          refine R_iconst fX5_startGame_113 ?_
          refine R_iastore fX5_startGame_114 (shS_k5 hS) (shS_3 hS 5) (by omega) ?_
          refine R_aload_n fX5_startGame_115 rfl ?_
          refine R_getP 12 fX5_startGame_116 (shS_k0 hS) (shS_3 hS 0) rfl rfl rfl (shS_p12 hS) ?_
          refine R_iload_n fX5_startGame_119 rfl ?_
          refine R_iconst fX5_startGame_120 ?_
          refine R_iastore fX5_startGame_121 (shS_k6 hS) (shS_3 hS 6) (by omega) ?_
          refine R_iinc fX5_startGame_122 rfl (by omega) ?_
          refine R_goto fX5_startGame_125 rfl ?_
          refine ih _ _ (by omega) (by omega) hn1 hn2 hc1 hc2 ⟨?_, ?_, ?_, ?_, ?_, ?_, ?_⟩ (fun p p0 p1 => ?_) (fun k hk => ?_) (by omega)
          · simp (disch := omega) only [cpF_k, stt_k, stt_j, stt_eq]; exact g0
          · simp (disch := omega) only [cpF_k, stt_k, stt_j, stt_eq]; exact g1
          · simp (disch := omega) only [cpF_k, stt_k, stt_j, stt_eq]; exact g2
          · simp (disch := omega) only [cpF_k, stt_k, stt_j, stt_eq]; exact g3
          · simp (disch := omega) only [cpF_k, stt_k, stt_j, stt_eq]; exact g4
          · simp (disch := omega) only [cpF_k, stt_k, stt_j, stt_eq]; exact g5
          · simp (disch := omega) only [cpF_k, stt_k, stt_j, stt_eq]; exact g6
          · by_cases hpi : p = i
            · subst hpi
              simp (disch := omega) only [cpF_k, stt_k, stt_j, stt_eq]
              first | (rw [if_pos (by omega)]; simp) | (rw [if_neg (by omega)]; simp)
            · simp (disch := omega) only [cpF_k, stt_k, stt_j, stt_eq]
              exact h3 p p0 (by omega)
          · simp (disch := omega) only [stt_kr]
            exact h4 k hk
        · refine R_iload_n fX5_startGame_81 rfl ?_
          refine R_goto fX5_startGame_82 rfl ?_
          refine R_iastore fX5_startGame_86 (shS_k1 hS) (shS_3 hS 1) (by omega) ?_
          refine R_aload_n fX5_startGame_87 rfl ?_
          refine R_getP 8 fX5_startGame_88 (shS_k0 hS) (shS_3 hS 0) rfl rfl rfl (shS_p8 hS) ?_
          refine R_iload_n fX5_startGame_91 rfl ?_
          refine R_iconst fX5_startGame_92 ?_
          refine R_iastore fX5_startGame_93 (shS_k2 hS) (shS_3 hS 2) (by omega) ?_
          refine R_aload_n fX5_startGame_94 rfl ?_
          refine R_getP 9 fX5_startGame_95 (shS_k0 hS) (shS_3 hS 0) rfl rfl rfl (shS_p9 hS) ?_
          refine R_iload_n fX5_startGame_98 rfl ?_
          refine R_iconst fX5_startGame_99 ?_
          refine R_iastore fX5_startGame_100 (shS_k3 hS) (shS_3 hS 3) (by omega) ?_
          refine R_aload_n fX5_startGame_101 rfl ?_
          refine R_getP 10 fX5_startGame_102 (shS_k0 hS) (shS_3 hS 0) rfl rfl rfl (shS_p10 hS) ?_
          refine R_iload_n fX5_startGame_105 rfl ?_
          refine R_iconst fX5_startGame_106 ?_
          refine R_iastore fX5_startGame_107 (shS_k4 hS) (shS_3 hS 4) (by omega) ?_
          refine R_aload_n fX5_startGame_108 rfl ?_
          refine R_getP 11 fX5_startGame_109 (shS_k0 hS) (shS_3 hS 0) rfl rfl rfl (shS_p11 hS) ?_
          refine R_iload_n fX5_startGame_112 rfl ?_
          refine R_iconst fX5_startGame_113 ?_
          refine R_iastore fX5_startGame_114 (shS_k5 hS) (shS_3 hS 5) (by omega) ?_
          refine R_aload_n fX5_startGame_115 rfl ?_
          refine R_getP 12 fX5_startGame_116 (shS_k0 hS) (shS_3 hS 0) rfl rfl rfl (shS_p12 hS) ?_
          refine R_iload_n fX5_startGame_119 rfl ?_
          refine R_iconst fX5_startGame_120 ?_
          refine R_iastore fX5_startGame_121 (shS_k6 hS) (shS_3 hS 6) (by omega) ?_
          refine R_iinc fX5_startGame_122 rfl (by omega) ?_
          refine R_goto fX5_startGame_125 rfl ?_
          refine ih _ _ (by omega) (by omega) hn1 hn2 hc1 hc2 ⟨?_, ?_, ?_, ?_, ?_, ?_, ?_⟩ (fun p p0 p1 => ?_) (fun k hk => ?_) (by omega)
          · simp (disch := omega) only [cpF_k, stt_k, stt_j, stt_eq]; exact g0
          · simp (disch := omega) only [cpF_k, stt_k, stt_j, stt_eq]; exact g1
          · simp (disch := omega) only [cpF_k, stt_k, stt_j, stt_eq]; exact g2
          · simp (disch := omega) only [cpF_k, stt_k, stt_j, stt_eq]; exact g3
          · simp (disch := omega) only [cpF_k, stt_k, stt_j, stt_eq]; exact g4
          · simp (disch := omega) only [cpF_k, stt_k, stt_j, stt_eq]; exact g5
          · simp (disch := omega) only [cpF_k, stt_k, stt_j, stt_eq]; exact g6
          · by_cases hpi : p = i
            · subst hpi
              simp (disch := omega) only [cpF_k, stt_k, stt_j, stt_eq]
              first | (rw [if_pos (by omega)]; simp) | (rw [if_neg (by omega)]; simp)
            · simp (disch := omega) only [cpF_k, stt_k, stt_j, stt_eq]
              exact h3 p p0 (by omega)
          · simp (disch := omega) only [stt_kr]
            exact h4 k hk
  refine R_iload_n fX5_startGame_0 rfl ?_
  refine R_iconst fX5_startGame_1 ?_
  refine R_icmp_lt fX5_startGame_2 rfl (fun h2 => ?_) (fun h2 => ?_)
  · refine R_ldc fX5_startGame_10 ?_
    refine R_ireturn fX5_startGame_12 rfl ?_
    refine ⟨_, _, rfl, by unfold aBeg; rw [if_pos (by omega)], by rw [if_pos (by omega)], fun _ _ => rfl⟩
  · refine R_iload_n fX5_startGame_5 rfl ?_
    refine R_iconst fX5_startGame_6 ?_
    refine R_icmp_le fX5_startGame_7 rfl (fun h7 => ?_) (fun h7 => ?_)
    · refine R_iload_n fX5_startGame_13 rfl ?_
      refine R_if_lt fX5_startGame_14 rfl (fun h14 => ?_) (fun h14 => ?_)
      · refine R_ldc fX5_startGame_23 ?_
        refine R_ireturn fX5_startGame_25 rfl ?_
        refine ⟨_, _, rfl, by unfold aBeg; rw [if_neg (by omega), if_pos (by omega)], by rw [if_neg (by omega), if_pos (by omega)], fun _ _ => rfl⟩
      · refine R_iload_n fX5_startGame_17 rfl ?_
        refine R_bipush fX5_startGame_18 ?_
        refine R_icmp_le fX5_startGame_20 rfl (fun h20 => ?_) (fun h20 => ?_)
        · refine R_aload_n fX5_startGame_26 rfl ?_
          refine R_iload_n fX5_startGame_27 rfl ?_
          refine R_putI 0 fX5_startGame_28 (shS_k0 hS) (shS_3 hS 0) rfl rfl rfl ?_
          refine R_aload_n fX5_startGame_31 rfl ?_
          refine R_iconst fX5_startGame_32 ?_
          refine R_putI 1 fX5_startGame_33 (shS_k0 hS) (shS_3 hS 0) rfl rfl rfl ?_
          refine R_aload_n fX5_startGame_36 rfl ?_
          refine R_iconst fX5_startGame_37 ?_
          refine R_putI 2 fX5_startGame_38 (shS_k0 hS) (shS_3 hS 0) rfl rfl rfl ?_
          refine R_aload_n fX5_startGame_41 rfl ?_
          refine R_iconst fX5_startGame_42 ?_
          refine R_putI 3 fX5_startGame_43 (shS_k0 hS) (shS_3 hS 0) rfl rfl rfl ?_
          refine R_aload_n fX5_startGame_46 rfl ?_
          refine R_iconst fX5_startGame_47 ?_
          refine R_putI 4 fX5_startGame_48 (shS_k0 hS) (shS_3 hS 0) rfl rfl rfl ?_
          refine R_aload_n fX5_startGame_51 rfl ?_
          refine R_iconst fX5_startGame_52 ?_
          refine R_putI 5 fX5_startGame_53 (shS_k0 hS) (shS_3 hS 0) rfl rfl rfl ?_
          refine R_aload_n fX5_startGame_56 rfl ?_
          refine R_iconst fX5_startGame_57 ?_
          refine R_putI 6 fX5_startGame_58 (shS_k0 hS) (shS_3 hS 0) rfl rfl rfl ?_
          refine R_iconst fX5_startGame_61 ?_
          refine R_istore_n fX5_startGame_62 rfl ?_
          refine lp 5 0 _ (by omega) (by omega) (by omega) (by omega) (by omega) (by omega) ⟨?_, ?_, ?_, ?_, ?_, ?_, ?_⟩ (fun p p0 p1 => by omega) (fun k hk => ?_) (by omega)
          · simp (disch := omega) only [cpF_k, stt_k, stt_j, stt_eq]
          · simp (disch := omega) only [cpF_k, stt_k, stt_j, stt_eq]
          · simp (disch := omega) only [cpF_k, stt_k, stt_j, stt_eq]
          · simp (disch := omega) only [cpF_k, stt_k, stt_j, stt_eq]
          · simp (disch := omega) only [cpF_k, stt_k, stt_j, stt_eq]
          · simp (disch := omega) only [cpF_k, stt_k, stt_j, stt_eq]
          · simp (disch := omega) only [cpF_k, stt_k, stt_j, stt_eq]
          · simp (disch := omega) only [stt_kr]
        · refine R_ldc fX5_startGame_23 ?_
          refine R_ireturn fX5_startGame_25 rfl ?_
          refine ⟨_, _, rfl, by unfold aBeg; rw [if_neg (by omega), if_pos (by omega)], by rw [if_neg (by omega), if_pos (by omega)], fun _ _ => rfl⟩
    · refine R_ldc fX5_startGame_10 ?_
      refine R_ireturn fX5_startGame_12 rfl ?_
      refine ⟨_, _, rfl, by unfold aBeg; rw [if_pos (by omega)], by rw [if_pos (by omega)], fun _ _ => rfl⟩
