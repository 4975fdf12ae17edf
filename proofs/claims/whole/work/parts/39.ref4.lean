theorem sp_mnotes {d : Nat} {kd : KL} {F : FM} {P : PM} {s : Int → Int} {p q won : Int} (hd : 2 ≤ d) (hM : shM kd P) (hp : 0 ≤ p ∧ p < 4) (hq : s (126 + 6 * p + 2) = q) (hb : 0 ≤ s 150 ∧ s 150 ≤ 484) (hwon : won = 0 ∨ won = 1) (hin : ∀ j, inb (s j)) : Sp d 103 [.inr (some 128), .inl p, .inl won] kd (setr F 129 s) P (QN kd P (fun F' => F' = setr F 129 (notesS s p q won))) := by
  refine Sp_of (me := mX8_notes) (by omega) pX8_notes ⟨rfl, Nat.le_of_ble_eq_true rfl⟩ ?_
  have hhit := fun z => ixS_hit (t := s) (p := p) (b := q) hb.1 z
  have tail : ∀ i, 0 ≤ i → i ≤ s 150 → ixS s p q = i → Rn (d - 1) mX8_notes 55 [some (.inr (some 128)), some (.inl p), some (.inl won), some (.inl (151 + 4 * i))] [] kd (setr F 129 s) P (QN kd P (fun F' => F' = setr F 129 (notesS s p q won))) := by
    intro i h1 h2 hix
    rw [hix] at hhit
    refine R_iload_n fX8_notes_55 rfl ?_
    refine R_sipush fX8_notes_56 ?_
    refine R_iconst fX8_notes_59 ?_
    refine R_aload_n fX8_notes_60 rfl ?_
    refine R_getP 0 fX8_notes_61 hM.1 (by omega) rfl rfl rfl hM.2.2.2.2.2.2.2.2.1 ?_
    refine R_sipush fX8_notes_64 ?_
    refine R_iaload fX8_notes_67 hM.2.1 (by omega) ?_
    rw [setr_eq]
    refine R_imul fX8_notes_68 (by omega) ?_
    refine R_iadd fX8_notes_69 (by omega) ?_
    refine R_icmp_ne fX8_notes_70 rfl (fun h70 => ?_) (fun h70 => ?_)
    · refine R_aload_n fX8_notes_124 rfl ?_
      refine R_getP 0 fX8_notes_125 hM.1 (by omega) rfl rfl rfl hM.2.2.2.2.2.2.2.2.1 ?_
      refine R_iload_n fX8_notes_128 rfl ?_
      refine R_iconst fX8_notes_129 ?_
      refine R_iadd fX8_notes_130 (by omega) ?_
      refine R_dup2 fX8_notes_131 ?_
      refine R_iaload fX8_notes_132 hM.2.1 (by omega) ?_
      rw [setr_eq]
      refine R_iconst fX8_notes_133 ?_
      refine R_iaddV fX8_notes_134 (rfl) ?_
      refine R_iastore fX8_notes_135 hM.2.1 (by omega) (by omega) ?_
      rw [stt_setr]
      refine R_aload_n fX8_notes_136 rfl ?_
      refine R_getP 0 fX8_notes_137 hM.1 (by omega) rfl rfl rfl hM.2.2.2.2.2.2.2.2.1 ?_
      refine R_iload_n fX8_notes_140 rfl ?_
      refine R_iconst fX8_notes_141 ?_
      refine R_iadd fX8_notes_142 (by omega) ?_
      refine R_dup2 fX8_notes_143 ?_
      refine R_iaload fX8_notes_144 hM.2.1 (by omega) ?_
      rw [setr_eq]
      refine R_iload_n fX8_notes_145 rfl ?_
      refine R_if_eq fX8_notes_146 rfl (fun h146 => ?_) (fun h146 => ?_)
      · refine R_iconst fX8_notes_153 ?_
        refine R_iaddV fX8_notes_154 (rfl) ?_
        refine R_iastore fX8_notes_155 hM.2.1 (by omega) (by omega) ?_
        rw [stt_setr]
        refine R_return fX8_notes_156 rfl ?_
        have hlt : i < s 150 := by omega
        have h5 := hhit hlt
        refine ⟨_, rfl, ?_⟩
        congr 1
        funext j
        unfold notesS
        rw [hix]
        by_cases y0 : j = 151 + 4 * i
        · rw [if_pos y0, y0]; simp (disch := omega) only [up_ne, up_eq]; exact h5.1
        · rw [if_neg y0]
          by_cases y1 : j = 151 + 4 * i + 1
          · rw [if_pos y1, y1]; simp (disch := omega) only [up_ne, up_eq]; exact h5.2
          · rw [if_neg y1]
            by_cases y2 : j = 151 + 4 * i + 2
            · rw [if_pos y2, y2, if_neg (by omega)]; simp (disch := omega) only [up_ne, up_eq]
            · rw [if_neg y2]
              by_cases y3 : j = 151 + 4 * i + 3
              · rw [if_pos y3, y3, if_neg (by omega)]; simp (disch := omega) only [up_ne, up_eq]
                rcases hwon with z | z <;> subst z <;> first | rfl | (exfalso; omega)
              · rw [if_neg y3]
                by_cases y4 : j = 150
                · rw [if_pos y4, y4, if_neg (by omega)]; simp (disch := omega) only [up_ne, up_eq]
                · rw [if_neg y4]; simp (disch := omega) only [up_ne, up_eq]
      · refine R_iconst fX8_notes_149 ?_
        refine R_goto fX8_notes_150 rfl ?_
        refine R_iaddV fX8_notes_154 (rfl) ?_
        refine R_iastore fX8_notes_155 hM.2.1 (by omega) (by omega) ?_
        rw [stt_setr]
        refine R_return fX8_notes_156 rfl ?_
        have hlt : i < s 150 := by omega
        have h5 := hhit hlt
        refine ⟨_, rfl, ?_⟩
        congr 1
        funext j
        unfold notesS
        rw [hix]
        by_cases y0 : j = 151 + 4 * i
        · rw [if_pos y0, y0]; simp (disch := omega) only [up_ne, up_eq]; exact h5.1
        · rw [if_neg y0]
          by_cases y1 : j = 151 + 4 * i + 1
          · rw [if_pos y1, y1]; simp (disch := omega) only [up_ne, up_eq]; exact h5.2
          · rw [if_neg y1]
            by_cases y2 : j = 151 + 4 * i + 2
            · rw [if_pos y2, y2, if_neg (by omega)]; simp (disch := omega) only [up_ne, up_eq]
            · rw [if_neg y2]
              by_cases y3 : j = 151 + 4 * i + 3
              · rw [if_pos y3, y3, if_neg (by omega)]; simp (disch := omega) only [up_ne, up_eq]
                rcases hwon with z | z <;> subst z <;> first | rfl | (exfalso; omega)
              · rw [if_neg y3]
                by_cases y4 : j = 150
                · rw [if_pos y4, y4, if_neg (by omega)]; simp (disch := omega) only [up_ne, up_eq]
                · rw [if_neg y4]; simp (disch := omega) only [up_ne, up_eq]
    · refine R_aload_n fX8_notes_73 rfl ?_
      refine R_getP 0 fX8_notes_74 hM.1 (by omega) rfl rfl rfl hM.2.2.2.2.2.2.2.2.1 ?_
      refine R_iload_n fX8_notes_77 rfl ?_
      refine R_iload_n fX8_notes_78 rfl ?_
      refine R_iastore fX8_notes_79 hM.2.1 (by omega) (by omega) ?_
      rw [stt_setr]
      refine R_aload_n fX8_notes_80 rfl ?_
      refine R_getP 0 fX8_notes_81 hM.1 (by omega) rfl rfl rfl hM.2.2.2.2.2.2.2.2.1 ?_
      refine R_iload_n fX8_notes_84 rfl ?_
      refine R_iconst fX8_notes_85 ?_
      refine R_iadd fX8_notes_86 (by omega) ?_
      refine R_aload_n fX8_notes_87 rfl ?_
      refine R_iload_n fX8_notes_88 rfl ?_
      refine R_iconst fX8_notes_89 ?_
      refine R_callE fX8_notes_90 rfl rfl pX8_of rfl ⟨Nat.le_of_ble_eq_true rfl, rcv_v rfl (by omega) hM.1⟩ (sp_mof (by omega) hM ⟨by omega, by omega⟩ (by omega)) ?_
      refine R_iastore fX8_notes_93 hM.2.1 (by omega) (by omega) ?_
      rw [stt_setr]
      refine R_aload_n fX8_notes_94 rfl ?_
      refine R_getP 0 fX8_notes_95 hM.1 (by omega) rfl rfl rfl hM.2.2.2.2.2.2.2.2.1 ?_
      refine R_iload_n fX8_notes_98 rfl ?_
      refine R_iconst fX8_notes_99 ?_
      refine R_iadd fX8_notes_100 (by omega) ?_
      refine R_iconst fX8_notes_101 ?_
      refine R_iastore fX8_notes_102 hM.2.1 (by omega) (by omega) ?_
      rw [stt_setr]
      refine R_aload_n fX8_notes_103 rfl ?_
      refine R_getP 0 fX8_notes_104 hM.1 (by omega) rfl rfl rfl hM.2.2.2.2.2.2.2.2.1 ?_
      refine R_iload_n fX8_notes_107 rfl ?_
      refine R_iconst fX8_notes_108 ?_
      refine R_iadd fX8_notes_109 (by omega) ?_
      refine R_iconst fX8_notes_110 ?_
      refine R_iastore fX8_notes_111 hM.2.1 (by omega) (by omega) ?_
      rw [stt_setr]
      refine R_aload_n fX8_notes_112 rfl ?_
      refine R_getP 0 fX8_notes_113 hM.1 (by omega) rfl rfl rfl hM.2.2.2.2.2.2.2.2.1 ?_
      refine R_sipush fX8_notes_116 ?_
      refine R_dup2 fX8_notes_119 ?_
      refine R_iaload fX8_notes_120 hM.2.1 (by omega) ?_
      rw [setr_eq]
      refine R_iconst fX8_notes_121 ?_
      refine R_iadd fX8_notes_122 (by simp (disch := omega) only [up_ne, up_eq]; omega) ?_
      refine R_iastore fX8_notes_123 hM.2.1 (by omega) (by omega) ?_
      rw [stt_setr]
      refine R_aload_n fX8_notes_124 rfl ?_
      refine R_getP 0 fX8_notes_125 hM.1 (by omega) rfl rfl rfl hM.2.2.2.2.2.2.2.2.1 ?_
      refine R_iload_n fX8_notes_128 rfl ?_
      refine R_iconst fX8_notes_129 ?_
      refine R_iadd fX8_notes_130 (by omega) ?_
      refine R_dup2 fX8_notes_131 ?_
      refine R_iaload fX8_notes_132 hM.2.1 (by omega) ?_
      rw [setr_eq]
      refine R_iconst fX8_notes_133 ?_
      refine R_iaddV fX8_notes_134 (rfl) ?_
      refine R_iastore fX8_notes_135 hM.2.1 (by omega) (by omega) ?_
      rw [stt_setr]
      refine R_aload_n fX8_notes_136 rfl ?_
      refine R_getP 0 fX8_notes_137 hM.1 (by omega) rfl rfl rfl hM.2.2.2.2.2.2.2.2.1 ?_
      refine R_iload_n fX8_notes_140 rfl ?_
      refine R_iconst fX8_notes_141 ?_
      refine R_iadd fX8_notes_142 (by omega) ?_
      refine R_dup2 fX8_notes_143 ?_
      refine R_iaload fX8_notes_144 hM.2.1 (by omega) ?_
      rw [setr_eq]
      refine R_iload_n fX8_notes_145 rfl ?_
      refine R_if_eq fX8_notes_146 rfl (fun h146 => ?_) (fun h146 => ?_)
      · refine R_iconst fX8_notes_153 ?_
        refine R_iaddV fX8_notes_154 (rfl) ?_
        refine R_iastore fX8_notes_155 hM.2.1 (by omega) (by omega) ?_
        rw [stt_setr]
        refine R_return fX8_notes_156 rfl ?_
        refine ⟨_, rfl, ?_⟩
        congr 1
        funext j
        unfold notesS
        rw [hix, show i = s 150 by omega]
        by_cases y0 : j = 151 + 4 * s 150
        · rw [if_pos y0, y0]; simp (disch := omega) only [up_ne, up_eq]
        · rw [if_neg y0]
          by_cases y1 : j = 151 + 4 * s 150 + 1
          · rw [if_pos y1, y1]; simp (disch := omega) only [up_ne, up_eq]; try exact hq
          · rw [if_neg y1]
            by_cases y2 : j = 151 + 4 * s 150 + 2
            · rw [if_pos y2, y2, if_pos rfl]; simp (disch := omega) only [up_ne, up_eq]
            · rw [if_neg y2]
              by_cases y3 : j = 151 + 4 * s 150 + 3
              · rw [if_pos y3, y3, if_pos rfl]; simp (disch := omega) only [up_ne, up_eq]
                rcases hwon with z | z <;> subst z <;> first | rfl | (exfalso; omega)
              · rw [if_neg y3]
                by_cases y4 : j = 150
                · rw [if_pos y4, y4, if_pos rfl]; simp (disch := omega) only [up_ne, up_eq]
                · rw [if_neg y4]; simp (disch := omega) only [up_ne, up_eq]
      · refine R_iconst fX8_notes_149 ?_
        refine R_goto fX8_notes_150 rfl ?_
        refine R_iaddV fX8_notes_154 (rfl) ?_
        refine R_iastore fX8_notes_155 hM.2.1 (by omega) (by omega) ?_
        rw [stt_setr]
        refine R_return fX8_notes_156 rfl ?_
        refine ⟨_, rfl, ?_⟩
        congr 1
        funext j
        unfold notesS
        rw [hix, show i = s 150 by omega]
        by_cases y0 : j = 151 + 4 * s 150
        · rw [if_pos y0, y0]; simp (disch := omega) only [up_ne, up_eq]
        · rw [if_neg y0]
          by_cases y1 : j = 151 + 4 * s 150 + 1
          · rw [if_pos y1, y1]; simp (disch := omega) only [up_ne, up_eq]; try exact hq
          · rw [if_neg y1]
            by_cases y2 : j = 151 + 4 * s 150 + 2
            · rw [if_pos y2, y2, if_pos rfl]; simp (disch := omega) only [up_ne, up_eq]
            · rw [if_neg y2]
              by_cases y3 : j = 151 + 4 * s 150 + 3
              · rw [if_pos y3, y3, if_pos rfl]; simp (disch := omega) only [up_ne, up_eq]
                rcases hwon with z | z <;> subst z <;> first | rfl | (exfalso; omega)
              · rw [if_neg y3]
                by_cases y4 : j = 150
                · rw [if_pos y4, y4, if_pos rfl]; simp (disch := omega) only [up_ne, up_eq]
                · rw [if_neg y4]; simp (disch := omega) only [up_ne, up_eq]
  have lp : ∀ (N : Nat) (i : Int), 0 ≤ i → i ≤ s 150 → ixS s p q = ixN (fun i => s (151 + 4 * i)) (fun i => s (151 + 4 * i + 1)) p q i (s 150 - i).toNat → s 150 - i < N → Rn (d - 1) mX8_notes 4 [some (.inr (some 128)), some (.inl p), some (.inl won), some (.inl (151 + 4 * i))] [] kd (setr F 129 s) P (QN kd P (fun F' => F' = setr F 129 (notesS s p q won))) := by
    intro N
    induction N with
    | zero => intro i h1 h2 h3 h4; omega
    | succ N ih =>
      intro i h1 h2 h3 h4
      refine R_iload_n fX8_notes_4 rfl ?_
      refine R_sipush fX8_notes_5 ?_
      refine R_iconst fX8_notes_8 ?_
      refine R_aload_n fX8_notes_9 rfl ?_
      refine R_getP 0 fX8_notes_10 hM.1 (by omega) rfl rfl rfl hM.2.2.2.2.2.2.2.2.1 ?_
      refine R_sipush fX8_notes_13 ?_
      refine R_iaload fX8_notes_16 hM.2.1 (by omega) ?_
      rw [setr_eq]
      refine R_imul fX8_notes_17 (by omega) ?_
      refine R_iadd fX8_notes_18 (by omega) ?_
      refine R_icmp_ge fX8_notes_19 rfl (fun h19 => ?_) (fun h19 => ?_)
      · first
        | (refine tail i h1 h2 ?_
           rw [h3, show (s 150 - i).toNat = 0 by omega]
           rfl)
        | (refine tail i h1 h2 ?_
           rw [h3, hn]
           exact ixN_t (a := fun i => s (151 + 4 * i)) (b := fun i => s (151 + 4 * i + 1)) ⟨h29, h46⟩)
      · have hn : (s 150 - i).toNat = (s 150 - (i + 1)).toNat + 1 := by omega
        refine R_aload_n fX8_notes_22 rfl ?_
        refine R_getP 0 fX8_notes_23 hM.1 (by omega) rfl rfl rfl hM.2.2.2.2.2.2.2.2.1 ?_
        refine R_iload_n fX8_notes_26 rfl ?_
        refine R_iaload fX8_notes_27 hM.2.1 (by omega) ?_
        rw [setr_eq]
        refine R_iload_n fX8_notes_28 rfl ?_
        refine R_icmp_ne fX8_notes_29 rfl (fun h29 => ?_) (fun h29 => ?_)
        · refine R_iinc fX8_notes_49 rfl (by omega) ?_
          refine R_goto fX8_notes_52 rfl ?_
          rw [show 151 + 4 * i + 4 = 151 + 4 * (i + 1) by omega]
          exact ih (i + 1) (by omega) (by omega) (by rw [h3, hn, ixN_f (fun z => by first | exact h29 z.1 | exact h46 z.2)]) (by omega)
        · refine R_aload_n fX8_notes_32 rfl ?_
          refine R_getP 0 fX8_notes_33 hM.1 (by omega) rfl rfl rfl hM.2.2.2.2.2.2.2.2.1 ?_
          refine R_iload_n fX8_notes_36 rfl ?_
          refine R_iconst fX8_notes_37 ?_
          refine R_iadd fX8_notes_38 (by omega) ?_
          refine R_iaload fX8_notes_39 hM.2.1 (by omega) ?_
          rw [setr_eq]
          refine R_aload_n fX8_notes_40 rfl ?_
          refine R_iload_n fX8_notes_41 rfl ?_
          refine R_iconst fX8_notes_42 ?_
          refine R_callE fX8_notes_43 rfl rfl pX8_of rfl ⟨Nat.le_of_ble_eq_true rfl, rcv_v rfl (by omega) hM.1⟩ (sp_mof (by omega) hM ⟨by omega, by omega⟩ (by omega)) ?_
          rw [hq]
          refine R_icmp_eq fX8_notes_46 rfl (fun h46 => ?_) (fun h46 => ?_)
          · first
            | (refine tail i h1 h2 ?_
               rw [h3, show (s 150 - i).toNat = 0 by omega]
               rfl)
            | (refine tail i h1 h2 ?_
               rw [h3, hn]
               exact ixN_t (a := fun i => s (151 + 4 * i)) (b := fun i => s (151 + 4 * i + 1)) ⟨h29, h46⟩)
          · refine R_iinc fX8_notes_49 rfl (by omega) ?_
            refine R_goto fX8_notes_52 rfl ?_
            rw [show 151 + 4 * i + 4 = 151 + 4 * (i + 1) by omega]
            exact ih (i + 1) (by omega) (by omega) (by rw [h3, hn, ixN_f (fun z => by first | exact h29 z.1 | exact h46 z.2)]) (by omega)
  refine R_sipush fX8_notes_0 ?_
  refine R_istore_n fX8_notes_3 rfl ?_
  have h := lp 500 0 (by omega) (by omega) (by rw [Int.sub_zero]; rfl) (by omega)
  exact h
