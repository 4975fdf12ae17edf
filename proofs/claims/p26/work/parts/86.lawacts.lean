/-! ## the law's turns -/
theorem FR_LR {F F' : FM} {P P' : PM} {s : Int → Int} (h : LR F s) (hf : FR F F' P P') : LR F' s := LR_fr h (fun k hk => (hf k (Or.inr hk)).1)
theorem sg_c {c : Int} : ∀ n : Nat, sg (fun _ => c) n = c * n
  | 0 => by simp [sg]
  | n + 1 => by
    show sg (fun _ => c) n + c = _
    rw [sg_c n, Int.natCast_succ, Int.mul_add, Int.mul_one]
theorem bids_eq {F : FM} {s : Int → Int} (hL : LR F s) (hw : WF s) : sg (fun p => if F 131 (6 * p + 2) < 0 then 0 else 1) (s 0).toNat = bidsS s := by
  have w0 := hw.1
  unfold bidsS
  refine sg_congr (fun p p0 p1 => ?_)
  have e := hL.2.2.2.1 p 2 p0 (by omega) (by omega) (by omega)
  have w3 := (hw.2.2.2.1 p p0 (by omega)).2.2.1
  rw [e]
  by_cases h : s (126 + 6 * p + 2) = -1
  · rw [if_pos (by omega), if_pos h]
  · rw [if_neg (by omega), if_neg h]
theorem beg_coins {s : Int → Int} {n c : Int} (hn : 2 ≤ n ∧ n ≤ 4) : coinsS (beginS s n c) = n * c := by
  unfold coinsS
  rw [beg_0, beg_z (by omega) (by omega) (by omega) (by omega), sg_congr (g := fun _ => c) (fun p p0 p1 => by
    show beginS s n c (126 + 6 * p) = c
    rw [beg_c (by omega), if_pos (by omega)]), sg_c, toC (by omega), Int.mul_comm]
  omega
theorem PC_beg {s : Int → Int} {n c T : Int} (hn : 2 ≤ n ∧ n ≤ 4) (hT : 0 ≤ T) : PC T (beginS s n c) := by
  have z : ∀ j, 0 ≤ j → j < 2087 → j ≠ 0 → ¬ (26 ≤ j ∧ j ≤ 28) → (j < 126 ∨ 150 ≤ j) → beginS s n c j = 0 := fun j a b e f g => beg_z ⟨a, b⟩ e f g
  unfold PC
  rw [z 2 (by omega) (by omega) (by omega) (by omega) (by omega), z 150 (by omega) (by omega) (by omega) (by omega) (by omega), z 1 (by omega) (by omega) (by omega) (by omega) (by omega), beg_0]
  refine ⟨by omega, fun i i0 i1 => by omega, by rw [Int.mul_zero]; rfl, fun p p0 p1 => ?_, ?_⟩
  · rw [beg_pl (by omega) (by omega), beg_pl (by omega) (by omega)]
    simp
  · rw [sg_congr (g := fun _ => 0) (fun p p0 p1 => by
      show beginS s n c (126 + 6 * p + 4) - beginS s n c (126 + 6 * p + 5) = 0
      rw [beg_pl (by omega) (by omega), beg_pl (by omega) (by omega)]
      simp), sg_c]
    omega
theorem la_begin {d : Nat} {kd : KL} {F : FM} {P : PM} {s : Int → Int} {T z y way : Int} {F0 : Int → Int} {x11 x12 x13 : Option AV} (hd : 6 ≤ d) (hK : LK kd) (hW : WD kd F P s) (hL : LR F s) (hc : PC T s) (hT : 0 ≤ T ∧ T < 100) (h59 : s 150 ≤ 59) (hF0 : F 0 = F0) (hy : 0 ≤ y ∧ y < 10000000) : Rn d mL_acts 34 [some (.inr (some 3)), some (.inr (some 128)), some (.inr (some 129)), some (.inr (some 130)), some (.inr (some 131)), some (.inr (some 132)), some (.inr (some 133)), some (.inr (some 134)), some (.inl z), some (.inl y), some (.inl way), x11, x12, x13] [] kd F P (QI kd (fun r F' P' => r = 1 ∧ ∃ s', WD kd F' P' s' ∧ LR F' s' ∧ PC (T + 1) s' ∧ s' 150 ≤ 59 ∧ F' 0 = F0)) := by
  obtain ⟨kg, kl, kt, kp, kh, kb, kq, kx⟩ := id hK
  obtain ⟨⟨g0, g1, g2, g3, g4, g5, g6, g7, g8, g9, g10⟩, hl, ht, hp, hh, hbb, hq⟩ := id hL
  have hw := WD_wf hW
  have e1 : ∀ n : Int, wr (Int.tdiv y n) = wr (Int.tdiv y n) := fun _ => rfl
  refine R_iconst fL_acts_34 ?_
  refine R_iload fL_acts_35 rfl ?_
  refine R_iconst fL_acts_37 ?_
  refine R_iremV fL_acts_38 (by omega) (wr_rem hy.1 (by omega) (by omega)) ?_
  refine R_iadd fL_acts_39 (by omega) ?_
  refine R_istore fL_acts_40 rfl ?_
  refine R_iload fL_acts_42 rfl ?_
  refine R_iconst fL_acts_44 ?_
  refine R_idivV fL_acts_45 (by omega) (wr_div hy.1 (by omega) (by omega)) ?_
  refine R_bipush fL_acts_46 ?_
  refine R_iremV fL_acts_48 (by omega) (wr_rem (by omega) (by omega) (by omega)) ?_
  refine R_istore fL_acts_49 rfl ?_
  have hpl : ∃ n c : Int, (2 ≤ n ∧ n ≤ 4) ∧ (0 ≤ c ∧ c ≤ 30) ∧ n = 2 + y % 3 ∧ c = y / 3 % 31 := ⟨_, _, by omega, by omega, rfl, rfl⟩
  obtain ⟨n, c, hn, hcc, en, ec⟩ := hpl
  rw [← en, ← ec]
  have l2 : ∀ (N : Nat) (i : Int) (H : FM), 0 ≤ i → i ≤ 24 → (H 128 0 = n ∧ (∀ j, 1 ≤ j → j ≤ 5 → H 128 j = 0) ∧ H 128 6 = s 26 ∧ H 128 7 = s 27 ∧ H 128 8 = s 28 ∧ H 128 9 = 0 ∧ H 128 10 = 0) → (∀ p q, 0 ≤ p → p < 4 → 0 ≤ q → q < 6 → 6 * p + q < i → H 131 (6 * p + q) = beginS s n c (126 + 6 * p + q)) → (∀ k, k < 128 → H k = F k) → 24 - i < N → Rn d mL_acts 100 [some (.inr (some 3)), some (.inr (some 128)), some (.inr (some 129)), some (.inr (some 130)), some (.inr (some 131)), some (.inr (some 132)), some (.inr (some 133)), some (.inr (some 134)), some (.inl z), some (.inl y), some (.inl way), some (.inl n), some (.inl c), some (.inl i)] [] kd H P (QI kd (fun r F' P' => r = 1 ∧ ∃ s', WD kd F' P' s' ∧ LR F' s' ∧ PC (T + 1) s' ∧ s' 150 ≤ 59 ∧ F' 0 = F0)) := by
    intro N
    induction N with
    | zero => intro i H h0 h1 a1 a2 a3 h6; omega
    | succ N ih =>
      intro i H h0 h1 a1 a2 a3 h6
      refine R_iload fL_acts_100 rfl ?_
      refine R_bipush fL_acts_102 ?_
      refine R_icmp_ge fL_acts_104 rfl (fun h104 => ?_) (fun h104 => ?_)
      · have hbeg : tBeg s n c = beginS s n c := by unfold tBeg; rw [if_neg (by omega), if_neg (by omega)]
        have hab : aBeg s n c = n * c := by unfold aBeg; rw [if_neg (by omega), if_neg (by omega)]; exact beg_coins hn
        have hnc : 0 ≤ n * c ∧ n * c ≤ 120 := by
          rcases (by omega : n = 2 ∨ n = 3 ∨ n = 4) with q | q | q <;> rw [q] <;> omega
        refine R_aload_n fL_acts_155 rfl ?_
        refine R_iload fL_acts_156 rfl ?_
        refine R_iload fL_acts_158 rfl ?_
        refine R_callI fL_acts_160 rfl rfl pX7_begin rfl ⟨Nat.le_of_ble_eq_true rfl, rcv_v rfl (by decide) kx⟩ (w_begin (by omega) (WD_lt hW a3)) (fun r F1 P1 q => ?_)
        obtain ⟨q1, q2, q3⟩ := q
        rw [hbeg] at q2
        rw [hab] at q1
        refine R_iload fL_acts_163 rfl ?_
        refine R_iload fL_acts_165 rfl ?_
        refine R_imul fL_acts_167 (by omega) ?_
        refine R_icmp_ne fL_acts_168 rfl (fun h168 => absurd h168 (fun z => absurd q1 z)) (fun h168 => ?_)
        refine R_iconst fL_acts_171 ?_
        refine R_goto fL_acts_172 rfl ?_
        refine R_zreturn fL_acts_176 rfl (by simp) ?_
        refine ⟨_, _, _, rfl, rfl, _, q2, ?_, PC_beg hn (by omega), ?_, ?_⟩
        · refine LR_fr (F := H) ?_ (fun k hk => (q3 k (Or.inr hk)).1)
          have z0 : ∀ j, 0 ≤ j → j < 2087 → j ≠ 0 → ¬ (26 ≤ j ∧ j ≤ 28) → (j < 126 ∨ 150 ≤ j) → beginS s n c j = 0 := fun j a b e f g => beg_z ⟨a, b⟩ e f g
          refine ⟨⟨?_, ?_, ?_, ?_, ?_, ?_, ?_, ?_, ?_, ?_, ?_⟩, fun k k0 k1 => ?_, fun k k0 k1 => ?_, fun p q p0 p1 c0 c1 => ?_, fun k q k0 k1 c0 c1 => ?_, fun k q k0 k1 c0 c1 => ?_, fun q c0 c1 => ?_⟩
          · rw [beg_0]; exact a1.1
          · rw [z0 1 (by omega) (by omega) (by omega) (by omega) (by omega)]; exact a1.2.1 1 (by omega) (by omega)
          · rw [z0 2 (by omega) (by omega) (by omega) (by omega) (by omega)]; exact a1.2.1 2 (by omega) (by omega)
          · rw [z0 3 (by omega) (by omega) (by omega) (by omega) (by omega)]; exact a1.2.1 3 (by omega) (by omega)
          · rw [z0 4 (by omega) (by omega) (by omega) (by omega) (by omega)]; exact a1.2.1 4 (by omega) (by omega)
          · rw [z0 25 (by omega) (by omega) (by omega) (by omega) (by omega)]; exact a1.2.1 5 (by omega) (by omega)
          · rw [beg_set (by omega)]; exact a1.2.2.1
          · rw [beg_set (by omega)]; exact a1.2.2.2.1
          · rw [beg_set (by omega)]; exact a1.2.2.2.2.1
          · rw [z0 29 (by omega) (by omega) (by omega) (by omega) (by omega)]; exact a1.2.2.2.2.2.1
          · rw [z0 150 (by omega) (by omega) (by omega) (by omega) (by omega)]; exact a1.2.2.2.2.2.2
          · rw [z0 4 (by omega) (by omega) (by omega) (by omega) (by omega)] at k1; omega
          · rw [z0 25 (by omega) (by omega) (by omega) (by omega) (by omega)] at k1; omega
          · rw [beg_0] at p1; exact a2 p q p0 (by omega) c0 c1 (by omega)
          · rw [z0 29 (by omega) (by omega) (by omega) (by omega) (by omega)] at k1; omega
          · rw [z0 29 (by omega) (by omega) (by omega) (by omega) (by omega)] at k1; omega
          · rw [z0 150 (by omega) (by omega) (by omega) (by omega) (by omega)] at c1; omega
        · rw [beg_z (by omega) (by omega) (by omega) (by omega)]; omega
        · rw [(q3 0 (Or.inl (by omega))).1, a3 0 (by omega)]; exact hF0
      · refine R_aload fL_acts_107 rfl ?_
        refine R_iload fL_acts_109 rfl ?_
        refine R_iload fL_acts_111 rfl ?_
        refine R_bipush fL_acts_113 ?_
        refine R_iremV fL_acts_115 (by omega) (wr_rem h0 (by omega) (by omega)) ?_
        refine R_if_ne fL_acts_116 rfl (fun h116 => ?_) (fun h116 => ?_)
        · refine R_iload fL_acts_134 rfl ?_
          refine R_bipush fL_acts_136 ?_
          refine R_iremV fL_acts_138 (by omega) (wr_rem h0 (by omega) (by omega)) ?_
          refine R_iconst fL_acts_139 ?_
          refine R_icmp_ne fL_acts_140 rfl (fun h140 => ?_) (fun h140 => ?_)
          · refine R_iconst fL_acts_147 ?_
            refine R_iastore fL_acts_148 kp (by decide) (by omega) ?_
            refine R_iinc fL_acts_149 rfl (by omega) ?_
            refine R_goto fL_acts_152 rfl ?_
            refine ih _ _ (by omega) (by omega) ⟨?_, fun j j1 j5 => ?_, ?_, ?_, ?_, ?_, ?_⟩ (fun p q p0 p1 q0 q1 hi => ?_) (fun k hk => ?_) (by omega)
            rotate_left 7
            · by_cases hh : 6 * p + q = i
              · rw [hh, stt_eq, beg_pl ⟨p0, p1⟩ ⟨q0, q1⟩]
                first | (rw [if_neg (by omega), if_neg (by omega)]; done) | (rw [if_neg (by omega), if_pos (by omega)]; done) | (rw [if_pos (by omega), if_neg (by omega)]; done) | (rw [if_pos (by omega), if_pos (by omega)]; done) | (exfalso; omega)
              · rw [stt_j _ _ hh]; exact a2 p q p0 p1 q0 q1 (by omega)
            · rw [stt_kr _ _ _ (by omega)]; exact a3 k hk
            all_goals rw [stt_k _ _ _ _ (by decide)]
            · exact a1.1
            · exact a1.2.1 j j1 j5
            · exact a1.2.2.1
            · exact a1.2.2.2.1
            · exact a1.2.2.2.2.1
            · exact a1.2.2.2.2.2.1
            · exact a1.2.2.2.2.2.2
          · refine R_iconst fL_acts_143 ?_
            refine R_goto fL_acts_144 rfl ?_
            refine R_iastore fL_acts_148 kp (by decide) (by omega) ?_
            refine R_iinc fL_acts_149 rfl (by omega) ?_
            refine R_goto fL_acts_152 rfl ?_
            refine ih _ _ (by omega) (by omega) ⟨?_, fun j j1 j5 => ?_, ?_, ?_, ?_, ?_, ?_⟩ (fun p q p0 p1 q0 q1 hi => ?_) (fun k hk => ?_) (by omega)
            rotate_left 7
            · by_cases hh : 6 * p + q = i
              · rw [hh, stt_eq, beg_pl ⟨p0, p1⟩ ⟨q0, q1⟩]
                first | (rw [if_neg (by omega), if_neg (by omega)]; done) | (rw [if_neg (by omega), if_pos (by omega)]; done) | (rw [if_pos (by omega), if_neg (by omega)]; done) | (rw [if_pos (by omega), if_pos (by omega)]; done) | (exfalso; omega)
              · rw [stt_j _ _ hh]; exact a2 p q p0 p1 q0 q1 (by omega)
            · rw [stt_kr _ _ _ (by omega)]; exact a3 k hk
            all_goals rw [stt_k _ _ _ _ (by decide)]
            · exact a1.1
            · exact a1.2.1 j j1 j5
            · exact a1.2.2.1
            · exact a1.2.2.2.1
            · exact a1.2.2.2.2.1
            · exact a1.2.2.2.2.2.1
            · exact a1.2.2.2.2.2.2
        · refine R_iload fL_acts_119 rfl ?_
          refine R_bipush fL_acts_121 ?_
          refine R_idivV fL_acts_123 (by omega) (wr_div h0 (by omega) (by omega)) ?_
          refine R_iload fL_acts_124 rfl ?_
          refine R_icmp_ge fL_acts_126 rfl (fun h126 => ?_) (fun h126 => ?_)
          · refine R_iload fL_acts_134 rfl ?_
            refine R_bipush fL_acts_136 ?_
            refine R_iremV fL_acts_138 (by omega) (wr_rem h0 (by omega) (by omega)) ?_
            refine R_iconst fL_acts_139 ?_
            refine R_icmp_ne fL_acts_140 rfl (fun h140 => ?_) (fun h140 => ?_)
            · refine R_iconst fL_acts_147 ?_
              refine R_iastore fL_acts_148 kp (by decide) (by omega) ?_
              refine R_iinc fL_acts_149 rfl (by omega) ?_
              refine R_goto fL_acts_152 rfl ?_
              refine ih _ _ (by omega) (by omega) ⟨?_, fun j j1 j5 => ?_, ?_, ?_, ?_, ?_, ?_⟩ (fun p q p0 p1 q0 q1 hi => ?_) (fun k hk => ?_) (by omega)
              rotate_left 7
              · by_cases hh : 6 * p + q = i
                · rw [hh, stt_eq, beg_pl ⟨p0, p1⟩ ⟨q0, q1⟩]
                  first | (rw [if_neg (by omega), if_neg (by omega)]; done) | (rw [if_neg (by omega), if_pos (by omega)]; done) | (rw [if_pos (by omega), if_neg (by omega)]; done) | (rw [if_pos (by omega), if_pos (by omega)]; done) | (exfalso; omega)
                · rw [stt_j _ _ hh]; exact a2 p q p0 p1 q0 q1 (by omega)
              · rw [stt_kr _ _ _ (by omega)]; exact a3 k hk
              all_goals rw [stt_k _ _ _ _ (by decide)]
              · exact a1.1
              · exact a1.2.1 j j1 j5
              · exact a1.2.2.1
              · exact a1.2.2.2.1
              · exact a1.2.2.2.2.1
              · exact a1.2.2.2.2.2.1
              · exact a1.2.2.2.2.2.2
            · refine R_iconst fL_acts_143 ?_
              refine R_goto fL_acts_144 rfl ?_
              refine R_iastore fL_acts_148 kp (by decide) (by omega) ?_
              refine R_iinc fL_acts_149 rfl (by omega) ?_
              refine R_goto fL_acts_152 rfl ?_
              refine ih _ _ (by omega) (by omega) ⟨?_, fun j j1 j5 => ?_, ?_, ?_, ?_, ?_, ?_⟩ (fun p q p0 p1 q0 q1 hi => ?_) (fun k hk => ?_) (by omega)
              rotate_left 7
              · by_cases hh : 6 * p + q = i
                · rw [hh, stt_eq, beg_pl ⟨p0, p1⟩ ⟨q0, q1⟩]
                  first | (rw [if_neg (by omega), if_neg (by omega)]; done) | (rw [if_neg (by omega), if_pos (by omega)]; done) | (rw [if_pos (by omega), if_neg (by omega)]; done) | (rw [if_pos (by omega), if_pos (by omega)]; done) | (exfalso; omega)
                · rw [stt_j _ _ hh]; exact a2 p q p0 p1 q0 q1 (by omega)
              · rw [stt_kr _ _ _ (by omega)]; exact a3 k hk
              all_goals rw [stt_k _ _ _ _ (by decide)]
              · exact a1.1
              · exact a1.2.1 j j1 j5
              · exact a1.2.2.1
              · exact a1.2.2.2.1
              · exact a1.2.2.2.2.1
              · exact a1.2.2.2.2.2.1
              · exact a1.2.2.2.2.2.2
          · refine R_iload fL_acts_129 rfl ?_
            refine R_goto fL_acts_131 rfl ?_
            refine R_iastore fL_acts_148 kp (by decide) (by omega) ?_
            refine R_iinc fL_acts_149 rfl (by omega) ?_
            refine R_goto fL_acts_152 rfl ?_
            refine ih _ _ (by omega) (by omega) ⟨?_, fun j j1 j5 => ?_, ?_, ?_, ?_, ?_, ?_⟩ (fun p q p0 p1 q0 q1 hi => ?_) (fun k hk => ?_) (by omega)
            rotate_left 7
            · by_cases hh : 6 * p + q = i
              · rw [hh, stt_eq, beg_pl ⟨p0, p1⟩ ⟨q0, q1⟩]
                first | (rw [if_neg (by omega), if_neg (by omega)]; done) | (rw [if_neg (by omega), if_pos (by omega)]; done) | (rw [if_pos (by omega), if_neg (by omega)]; done) | (rw [if_pos (by omega), if_pos (by omega)]; done) | (exfalso; omega)
              · rw [stt_j _ _ hh]; exact a2 p q p0 p1 q0 q1 (by omega)
            · rw [stt_kr _ _ _ (by omega)]; exact a3 k hk
            all_goals rw [stt_k _ _ _ _ (by decide)]
            · exact a1.1
            · exact a1.2.1 j j1 j5
            · exact a1.2.2.1
            · exact a1.2.2.2.1
            · exact a1.2.2.2.2.1
            · exact a1.2.2.2.2.2.1
            · exact a1.2.2.2.2.2.2
  have l1 : ∀ (N : Nat) (i : Int) (H : FM), 0 ≤ i → i ≤ 11 → ((∀ j, 0 ≤ j → j < i → H 128 j = if j = 6 then s 26 else if j = 7 then s 27 else if j = 8 then s 28 else 0) ∧ ∀ j, i ≤ j → j < 11 → H 128 j = F 128 j) → (∀ k, k < 128 → H k = F k) → 11 - i < N → Rn d mL_acts 54 [some (.inr (some 3)), some (.inr (some 128)), some (.inr (some 129)), some (.inr (some 130)), some (.inr (some 131)), some (.inr (some 132)), some (.inr (some 133)), some (.inr (some 134)), some (.inl z), some (.inl y), some (.inl way), some (.inl n), some (.inl c), some (.inl i)] [] kd H P (QI kd (fun r F' P' => r = 1 ∧ ∃ s', WD kd F' P' s' ∧ LR F' s' ∧ PC (T + 1) s' ∧ s' 150 ≤ 59 ∧ F' 0 = F0)) := by
    intro N
    induction N with
    | zero => intro i H h0 h1 a1 a3 h6; omega
    | succ N ih =>
      intro i H h0 h1 a1 a3 h6
      refine R_iload fL_acts_54 rfl ?_
      refine R_bipush fL_acts_56 ?_
      refine R_icmp_ge fL_acts_58 rfl (fun h58 => ?_) (fun h58 => ?_)
      · refine R_aload_n fL_acts_92 rfl ?_
        refine R_iconst fL_acts_93 ?_
        refine R_iload fL_acts_94 rfl ?_
        refine R_iastore fL_acts_96 kg (by decide) (by omega) ?_
        refine R_iconst fL_acts_97 ?_
        refine R_istore fL_acts_98 rfl ?_
        refine l2 25 0 _ (by omega) (by omega) ⟨?_, fun j j1 j5 => ?_, ?_, ?_, ?_, ?_, ?_⟩ (fun p q p0 p1 q0 q1 hi => by omega) (fun k hk => ?_) (by omega)
        · rw [stt_eq]
        · rw [stt_j _ _ (by omega), a1.1 j (by omega) (by omega), if_neg (by omega), if_neg (by omega), if_neg (by omega)]
        · rw [stt_j _ _ (by omega), a1.1 6 (by omega) (by omega), if_pos rfl]
        · rw [stt_j _ _ (by omega), a1.1 7 (by omega) (by omega), if_neg (by omega), if_pos rfl]
        · rw [stt_j _ _ (by omega), a1.1 8 (by omega) (by omega), if_neg (by omega), if_neg (by omega), if_pos rfl]
        · rw [stt_j _ _ (by omega), a1.1 9 (by omega) (by omega), if_neg (by omega), if_neg (by omega), if_neg (by omega)]
        · rw [stt_j _ _ (by omega), a1.1 10 (by omega) (by omega), if_neg (by omega), if_neg (by omega), if_neg (by omega)]
        · rw [stt_kr _ _ _ (by omega)]; exact a3 k hk
      · refine R_aload_n fL_acts_61 rfl ?_
        refine R_iload fL_acts_62 rfl ?_
        refine R_iload fL_acts_64 rfl ?_
        refine R_iconst fL_acts_66 ?_
        refine R_icmp_le fL_acts_67 rfl (fun h67 => ?_) (fun h67 => ?_)
        · refine R_iconst fL_acts_84 ?_
          refine R_iastore fL_acts_85 kg (by decide) (by omega) ?_
          refine R_iinc fL_acts_86 rfl (by omega) ?_
          refine R_goto fL_acts_89 rfl ?_
          refine ih _ _ (by omega) (by omega) ⟨fun j j0 j1 => ?_, fun j j0 j1 => ?_⟩ (fun k hk => ?_) (by omega)
          · by_cases hji : j = i
            · rw [hji, stt_eq]
              first
              | (rw [if_neg (by omega), if_neg (by omega), if_neg (by omega)]; done)
              | (rcases (by omega : i = 6 ∨ i = 7 ∨ i = 8) with q | q | q
                 · subst q; rw [if_pos rfl, a1.2 6 (by omega) (by omega)]; exact g6
                 · subst q; rw [if_neg (by omega), if_pos rfl, a1.2 7 (by omega) (by omega)]; exact g7
                 · subst q; rw [if_neg (by omega), if_neg (by omega), if_pos rfl, a1.2 8 (by omega) (by omega)]; exact g8)
            · rw [stt_j _ _ hji]; exact a1.1 j j0 (by omega)
          · rw [stt_j _ _ (by omega)]; exact a1.2 j (by omega) j1
          · rw [stt_kr _ _ _ (by omega)]; exact a3 k hk
        · refine R_iload fL_acts_70 rfl ?_
          refine R_bipush fL_acts_72 ?_
          refine R_icmp_ge fL_acts_74 rfl (fun h74 => ?_) (fun h74 => ?_)
          · refine R_iconst fL_acts_84 ?_
            refine R_iastore fL_acts_85 kg (by decide) (by omega) ?_
            refine R_iinc fL_acts_86 rfl (by omega) ?_
            refine R_goto fL_acts_89 rfl ?_
            refine ih _ _ (by omega) (by omega) ⟨fun j j0 j1 => ?_, fun j j0 j1 => ?_⟩ (fun k hk => ?_) (by omega)
            · by_cases hji : j = i
              · rw [hji, stt_eq]
                first
                | (rw [if_neg (by omega), if_neg (by omega), if_neg (by omega)]; done)
                | (rcases (by omega : i = 6 ∨ i = 7 ∨ i = 8) with q | q | q
                   · subst q; rw [if_pos rfl, a1.2 6 (by omega) (by omega)]; exact g6
                   · subst q; rw [if_neg (by omega), if_pos rfl, a1.2 7 (by omega) (by omega)]; exact g7
                   · subst q; rw [if_neg (by omega), if_neg (by omega), if_pos rfl, a1.2 8 (by omega) (by omega)]; exact g8)
              · rw [stt_j _ _ hji]; exact a1.1 j j0 (by omega)
            · rw [stt_j _ _ (by omega)]; exact a1.2 j (by omega) j1
            · rw [stt_kr _ _ _ (by omega)]; exact a3 k hk
          · refine R_aload_n fL_acts_77 rfl ?_
            refine R_iload fL_acts_78 rfl ?_
            refine R_iaload fL_acts_80 kg (by omega) ?_
            refine R_goto fL_acts_81 rfl ?_
            refine R_iastore fL_acts_85 kg (by decide) (by omega) ?_
            refine R_iinc fL_acts_86 rfl (by omega) ?_
            refine R_goto fL_acts_89 rfl ?_
            refine ih _ _ (by omega) (by omega) ⟨fun j j0 j1 => ?_, fun j j0 j1 => ?_⟩ (fun k hk => ?_) (by omega)
            · by_cases hji : j = i
              · rw [hji, stt_eq]
                first
                | (rw [if_neg (by omega), if_neg (by omega), if_neg (by omega)]; done)
                | (rcases (by omega : i = 6 ∨ i = 7 ∨ i = 8) with q | q | q
                   · subst q; rw [if_pos rfl, a1.2 6 (by omega) (by omega)]; exact g6
                   · subst q; rw [if_neg (by omega), if_pos rfl, a1.2 7 (by omega) (by omega)]; exact g7
                   · subst q; rw [if_neg (by omega), if_neg (by omega), if_pos rfl, a1.2 8 (by omega) (by omega)]; exact g8)
              · rw [stt_j _ _ hji]; exact a1.1 j j0 (by omega)
            · rw [stt_j _ _ (by omega)]; exact a1.2 j (by omega) j1
            · rw [stt_kr _ _ _ (by omega)]; exact a3 k hk
  refine R_iconst fL_acts_51 ?_
  refine R_istore fL_acts_52 rfl ?_
  exact l1 12 0 F (by omega) (by omega) ⟨fun j j0 j1 => by omega, fun j _ _ => rfl⟩ (fun k _ => rfl) (by omega)
