theorem sp_mchance {d : Nat} {kd : KL} {F : FM} {P : PM} {s : Int → Int} {p : Int} (hd : 2 ≤ d) (hM : shM kd P) (hw : WF s) : Sp d 124 [.inr (some 128), .inl p] kd (setr F 129 s) P (QE kd (setr F 129 s) P (aChance s p)) := by
  refine Sp_of (me := mX8_chance) (by omega) pX8_chance ⟨rfl, Nat.le_of_ble_eq_true rfl⟩ ?_
  obtain ⟨w0, w1, w2, w3, w4, w5, w6, w7, w8, w9, w10, w11, w12, w13⟩ := id hw
  have hr : ∀ i : Int, 0 ≤ i → i ≤ s 4 → 0 ≤ sg (fun k => mx0 (s (5 + k))) i.toNat ∧ sg (fun k => mx0 (s (5 + k))) i.toNat ≤ 20 * i := fun i a b => by
    have h := sg_bound (f := (fun k => mx0 (s (5 + k)))) (a := 0) (b := 20) (n := i.toNat) (fun j c e => by
      have := w5 j c (by omega)
      show 0 ≤ mx0 (s (5 + j)) ∧ mx0 (s (5 + j)) ≤ 20
      unfold mx0; split <;> omega)
    omega
  have ht : ∀ i : Int, 0 ≤ i → i ≤ s 25 → 0 ≤ sg (fun k => mx0 (s (2087 + k))) i.toNat ∧ sg (fun k => mx0 (s (2087 + k))) i.toNat ≤ 20 * i := fun i a b => by
    have h := sg_bound (f := (fun k => mx0 (s (2087 + k)))) (a := 0) (b := 20) (n := i.toNat) (fun j c e => by
      have := w6 j c (by omega)
      show 0 ≤ mx0 (s (2087 + j)) ∧ mx0 (s (2087 + j)) ≤ 20
      unfold mx0; split <;> omega)
    omega
  have lp3 : ∀ (N : Nat) (i v : Int), (0 ≤ p ∧ p < s 0) → 0 ≤ i → i ≤ s 0 → (v = 0 ∨ v = 1) → (v = 1 ↔ ∀ q, 0 ≤ q → q < i → q ≠ p → s (126 + 6 * q + 1) < s (126 + 6 * p + 1) + upS s) → s 0 - i < N → Rn (d - 1) mX8_chance 116 [some (.inr (some 128)), some (.inl p), some (.inl (s (126 + 6 * p + 1) + upS s)), some (.inl v), some (.inl i)] [] kd (setr F 129 s) P (QE kd (setr F 129 s) P (aChance s p)) := by
    intro N
    induction N with
    | zero => intro i v hp h1 h2 hv hiff h4; omega
    | succ N ih =>
      intro i v hp h1 h2 hv hiff h4
      refine R_iload fX8_chance_116 rfl ?_
      refine R_aload_n fX8_chance_118 rfl ?_
      refine R_getP 0 fX8_chance_119 hM.1 (by omega) rfl rfl rfl hM.2.2.2.2.2.2.2.2.1 ?_
      refine R_iconst fX8_chance_122 ?_
      refine R_iaload fX8_chance_123 hM.2.1 (by omega) ?_
      rw [setr_eq]
      refine R_icmp_ge fX8_chance_124 rfl (fun h124 => ?_) (fun h124 => ?_)
      · refine R_iload_n fX8_chance_160 rfl ?_
        refine R_if_eq fX8_chance_161 rfl (fun h161 => ?_) (fun h161 => ?_)
        · refine R_iconst fX8_chance_168 ?_
          refine R_ireturn fX8_chance_169 rfl ?_
          have hi : i = s 0 := by omega
          subst hi
          simp only [QE]
          unfold aChance
          rw [if_neg (by omega)]
          first
          | rw [cI_t (hiff.mp (by omega))]
          | rw [cI_f (fun z => by have := hiff.mpr z; omega)]
        · refine R_iconst fX8_chance_164 ?_
          refine R_goto fX8_chance_165 rfl ?_
          refine R_ireturn fX8_chance_169 rfl ?_
          have hi : i = s 0 := by omega
          subst hi
          simp only [QE]
          unfold aChance
          rw [if_neg (by omega)]
          first
          | rw [cI_t (hiff.mp (by omega))]
          | rw [cI_f (fun z => by have := hiff.mpr z; omega)]
      · refine R_iload_n fX8_chance_127 rfl ?_
        refine R_if_eq fX8_chance_128 rfl (fun h128 => ?_) (fun h128 => ?_)
        · refine R_iconst fX8_chance_152 ?_
          refine R_istore_n fX8_chance_153 rfl ?_
          refine R_iinc fX8_chance_154 rfl (by omega) ?_
          refine R_goto fX8_chance_157 rfl ?_
          refine ih (i + 1) 0 hp (by omega) (by omega) (Or.inl rfl) ⟨fun z => by omega, fun z => ?_⟩ (by omega)
          first
          | (have := hiff.mpr (fun q a b c => z q a (by omega) c); omega)
          | (have := z i h1 (by omega) (by omega); omega)
        · refine R_iload fX8_chance_131 rfl ?_
          refine R_iload_n fX8_chance_133 rfl ?_
          refine R_icmp_eq fX8_chance_134 rfl (fun h134 => ?_) (fun h134 => ?_)
          · refine R_iconst fX8_chance_148 ?_
            refine R_goto fX8_chance_149 rfl ?_
            refine R_istore_n fX8_chance_153 rfl ?_
            refine R_iinc fX8_chance_154 rfl (by omega) ?_
            refine R_goto fX8_chance_157 rfl ?_
            refine ih (i + 1) 1 hp (by omega) (by omega) (Or.inr rfl) ⟨fun _ q q0 q1 q2 => ?_, fun _ => rfl⟩ (by omega)
            by_cases hq : q = i
            · subst hq; omega
            · exact hiff.mp (by omega) q q0 (by omega) q2
          · refine R_iload_n fX8_chance_137 rfl ?_
            refine R_aload_n fX8_chance_138 rfl ?_
            refine R_iload fX8_chance_139 rfl ?_
            refine R_iconst fX8_chance_141 ?_
            refine R_callE fX8_chance_142 rfl rfl pX8_of rfl ⟨Nat.le_of_ble_eq_true rfl, rcv_v rfl (by omega) hM.1⟩ (sp_mof (by omega) hM (by omega) (by omega)) ?_
            refine R_icmp_le fX8_chance_145 rfl (fun h145 => ?_) (fun h145 => ?_)
            · refine R_iconst fX8_chance_152 ?_
              refine R_istore_n fX8_chance_153 rfl ?_
              refine R_iinc fX8_chance_154 rfl (by omega) ?_
              refine R_goto fX8_chance_157 rfl ?_
              refine ih (i + 1) 0 hp (by omega) (by omega) (Or.inl rfl) ⟨fun z => by omega, fun z => ?_⟩ (by omega)
              first
              | (have := hiff.mpr (fun q a b c => z q a (by omega) c); omega)
              | (have := z i h1 (by omega) (by omega); omega)
            · refine R_iconst fX8_chance_148 ?_
              refine R_goto fX8_chance_149 rfl ?_
              refine R_istore_n fX8_chance_153 rfl ?_
              refine R_iinc fX8_chance_154 rfl (by omega) ?_
              refine R_goto fX8_chance_157 rfl ?_
              refine ih (i + 1) 1 hp (by omega) (by omega) (Or.inr rfl) ⟨fun _ q q0 q1 q2 => ?_, fun _ => rfl⟩ (by omega)
              by_cases hq : q = i
              · subst hq; omega
              · exact hiff.mp (by omega) q q0 (by omega) q2
  have lp2 : ∀ (N : Nat) (i : Int) (j4 : Option AV), (0 ≤ p ∧ p < s 0) → 0 ≤ i → i ≤ s 25 → s 25 - i < N → Rn (d - 1) mX8_chance 64 [some (.inr (some 128)), some (.inl p), some (.inl (s (126 + 6 * p + 1) + (sg (fun k => mx0 (s (2087 + k))) i.toNat + sg (fun k => mx0 (s (5 + k))) (s 4).toNat))), some (.inl i), j4] [] kd (setr F 129 s) P (QE kd (setr F 129 s) P (aChance s p)) := by
    intro N
    induction N with
    | zero => intro i j4 hp h1 h2 h4; omega
    | succ N ih =>
      intro i j4 hp h1 h2 h4
      have hs := sg_s (f := (fun k => mx0 (s (2087 + k)))) h1
      have b1 := ht i h1 h2
      have b2 := hr (s 4) (by omega) (by omega)
      have b3 := w12 p (by omega) (by omega)
      have b4 := fun q => w6 i h1 q
      have hmx : mx0 (s (2087 + i)) = if 0 < s (2087 + i) then s (2087 + i) else 0 := rfl
      refine R_iload_n fX8_chance_64 rfl ?_
      refine R_aload_n fX8_chance_65 rfl ?_
      refine R_getP 0 fX8_chance_66 hM.1 (by omega) rfl rfl rfl hM.2.2.2.2.2.2.2.2.1 ?_
      refine R_bipush fX8_chance_69 ?_
      refine R_iaload fX8_chance_71 hM.2.1 (by omega) ?_
      rw [setr_eq]
      refine R_icmp_ge fX8_chance_72 rfl (fun h72 => ?_) (fun h72 => ?_)
      · refine R_iconst fX8_chance_111 ?_
        refine R_istore_n fX8_chance_112 rfl ?_
        refine R_iconst fX8_chance_113 ?_
        refine R_istore fX8_chance_114 rfl ?_
        have hi : i = s 25 := by omega
        subst hi
        exact lp3 5 0 1 hp (by omega) (by omega) (Or.inr rfl) ⟨fun _ q a b => by omega, fun _ => rfl⟩ (by omega)
      · refine R_iload_n fX8_chance_75 rfl ?_
        refine R_aload_n fX8_chance_76 rfl ?_
        refine R_getP 0 fX8_chance_77 hM.1 (by omega) rfl rfl rfl hM.2.2.2.2.2.2.2.2.1 ?_
        refine R_sipush fX8_chance_80 ?_
        refine R_iload_n fX8_chance_83 rfl ?_
        refine R_iadd fX8_chance_84 (by omega) ?_
        refine R_iaload fX8_chance_85 hM.2.1 (by omega) ?_
        rw [setr_eq]
        refine R_if_le fX8_chance_86 rfl (fun h86 => ?_) (fun h86 => ?_)
        · refine R_iconst fX8_chance_102 ?_
          refine R_iadd fX8_chance_103 (by omega) ?_
          refine R_istore_n fX8_chance_104 rfl ?_
          refine R_iinc fX8_chance_105 rfl (by omega) ?_
          refine R_goto fX8_chance_108 rfl ?_
          first
          | rw [if_pos (by omega)] at hmx
          | rw [if_neg (by omega)] at hmx
          have h := ih (i + 1) j4 hp (by omega) (by omega) (by omega)
          rw [hs, hmx] at h
          refine (Eq.mp (congrArg (fun z => Rn (d - 1) _ _ [_, _, some (.inl z), _, _] [] kd _ P _) ?_) h)
          omega
        · refine R_aload_n fX8_chance_89 rfl ?_
          refine R_getP 0 fX8_chance_90 hM.1 (by omega) rfl rfl rfl hM.2.2.2.2.2.2.2.2.1 ?_
          refine R_sipush fX8_chance_93 ?_
          refine R_iload_n fX8_chance_96 rfl ?_
          refine R_iadd fX8_chance_97 (by omega) ?_
          refine R_iaload fX8_chance_98 hM.2.1 (by omega) ?_
          rw [setr_eq]
          refine R_goto fX8_chance_99 rfl ?_
          refine R_iadd fX8_chance_103 (by omega) ?_
          refine R_istore_n fX8_chance_104 rfl ?_
          refine R_iinc fX8_chance_105 rfl (by omega) ?_
          refine R_goto fX8_chance_108 rfl ?_
          first
          | rw [if_pos (by omega)] at hmx
          | rw [if_neg (by omega)] at hmx
          have h := ih (i + 1) j4 hp (by omega) (by omega) (by omega)
          rw [hs, hmx] at h
          refine (Eq.mp (congrArg (fun z => Rn (d - 1) _ _ [_, _, some (.inl z), _, _] [] kd _ P _) ?_) h)
          omega
  have lp1 : ∀ (N : Nat) (i : Int) (j4 : Option AV), (0 ≤ p ∧ p < s 0) → 0 ≤ i → i ≤ s 4 → s 4 - i < N → Rn (d - 1) mX8_chance 20 [some (.inr (some 128)), some (.inl p), some (.inl (s (126 + 6 * p + 1) + sg (fun k => mx0 (s (5 + k))) i.toNat)), some (.inl i), j4] [] kd (setr F 129 s) P (QE kd (setr F 129 s) P (aChance s p)) := by
    intro N
    induction N with
    | zero => intro i j4 hp h1 h2 h4; omega
    | succ N ih =>
      intro i j4 hp h1 h2 h4
      have hs := sg_s (f := (fun k => mx0 (s (5 + k)))) h1
      have b2 := hr i h1 h2
      have b3 := w12 p (by omega) (by omega)
      have b4 := fun q => w5 i h1 q
      have hmx : mx0 (s (5 + i)) = if 0 < s (5 + i) then s (5 + i) else 0 := rfl
      refine R_iload_n fX8_chance_20 rfl ?_
      refine R_aload_n fX8_chance_21 rfl ?_
      refine R_getP 0 fX8_chance_22 hM.1 (by omega) rfl rfl rfl hM.2.2.2.2.2.2.2.2.1 ?_
      refine R_iconst fX8_chance_25 ?_
      refine R_iaload fX8_chance_26 hM.2.1 (by omega) ?_
      rw [setr_eq]
      refine R_icmp_ge fX8_chance_27 rfl (fun h27 => ?_) (fun h27 => ?_)
      · refine R_iconst fX8_chance_62 ?_
        refine R_istore_n fX8_chance_63 rfl ?_
        have hi : i = s 4 := by omega
        subst hi
        have h := lp2 30 0 j4 hp (by omega) (by omega) (by omega)
        rw [show sg (fun k => mx0 (s (2087 + k))) (0 : Int).toNat + sg (fun k => mx0 (s (5 + k))) (s 4).toNat = sg (fun k => mx0 (s (5 + k))) (s 4).toNat from Int.zero_add _] at h
        exact h
      · refine R_iload_n fX8_chance_30 rfl ?_
        refine R_aload_n fX8_chance_31 rfl ?_
        refine R_getP 0 fX8_chance_32 hM.1 (by omega) rfl rfl rfl hM.2.2.2.2.2.2.2.2.1 ?_
        refine R_iconst fX8_chance_35 ?_
        refine R_iload_n fX8_chance_36 rfl ?_
        refine R_iadd fX8_chance_37 (by omega) ?_
        refine R_iaload fX8_chance_38 hM.2.1 (by omega) ?_
        rw [setr_eq]
        refine R_if_le fX8_chance_39 rfl (fun h39 => ?_) (fun h39 => ?_)
        · refine R_iconst fX8_chance_53 ?_
          refine R_iadd fX8_chance_54 (by omega) ?_
          refine R_istore_n fX8_chance_55 rfl ?_
          refine R_iinc fX8_chance_56 rfl (by omega) ?_
          refine R_goto fX8_chance_59 rfl ?_
          first
          | rw [if_pos (by omega)] at hmx
          | rw [if_neg (by omega)] at hmx
          have h := ih (i + 1) j4 hp (by omega) (by omega) (by omega)
          rw [hs, hmx] at h
          refine (Eq.mp (congrArg (fun z => Rn (d - 1) _ _ [_, _, some (.inl z), _, _] [] kd _ P _) ?_) h)
          omega
        · refine R_aload_n fX8_chance_42 rfl ?_
          refine R_getP 0 fX8_chance_43 hM.1 (by omega) rfl rfl rfl hM.2.2.2.2.2.2.2.2.1 ?_
          refine R_iconst fX8_chance_46 ?_
          refine R_iload_n fX8_chance_47 rfl ?_
          refine R_iadd fX8_chance_48 (by omega) ?_
          refine R_iaload fX8_chance_49 hM.2.1 (by omega) ?_
          rw [setr_eq]
          refine R_goto fX8_chance_50 rfl ?_
          refine R_iadd fX8_chance_54 (by omega) ?_
          refine R_istore_n fX8_chance_55 rfl ?_
          refine R_iinc fX8_chance_56 rfl (by omega) ?_
          refine R_goto fX8_chance_59 rfl ?_
          first
          | rw [if_pos (by omega)] at hmx
          | rw [if_neg (by omega)] at hmx
          have h := ih (i + 1) j4 hp (by omega) (by omega) (by omega)
          rw [hs, hmx] at h
          refine (Eq.mp (congrArg (fun z => Rn (d - 1) _ _ [_, _, some (.inl z), _, _] [] kd _ P _) ?_) h)
          omega
  refine R_aload_n fX8_chance_0 rfl ?_
  refine R_iload_n fX8_chance_1 rfl ?_
  refine R_callE fX8_chance_2 rfl rfl pX8_isPlayer rfl ⟨Nat.le_of_ble_eq_true rfl, rcv_v rfl (by omega) hM.1⟩ (sp_misPlayer (by omega) hM) ?_
  refine R_if_ne fX8_chance_5 rfl (fun h5 => ?_) (fun h5 => ?_)
  · have hp : 0 ≤ p ∧ p < s 0 := by
      by_cases z : 0 ≤ p ∧ p < s 0
      · exact z
      · rw [if_neg z] at h5; omega
    refine R_aload_n fX8_chance_11 rfl ?_
    refine R_iload_n fX8_chance_12 rfl ?_
    refine R_iconst fX8_chance_13 ?_
    refine R_callE fX8_chance_14 rfl rfl pX8_of rfl ⟨Nat.le_of_ble_eq_true rfl, rcv_v rfl (by omega) hM.1⟩ (sp_mof (by omega) hM (by omega) (by omega)) ?_
    refine R_istore_n fX8_chance_17 rfl ?_
    refine R_iconst fX8_chance_18 ?_
    refine R_istore_n fX8_chance_19 rfl ?_
    have h := lp1 30 0 none hp (by omega) (by omega) (by omega)
    rw [show s (126 + 6 * p + 1) + sg (fun k => mx0 (s (5 + k))) (0 : Int).toNat = s (126 + 6 * p + 1) from Int.add_zero _] at h
    exact h
  · refine R_ldc fX8_chance_8 ?_
    refine R_ireturn fX8_chance_10 rfl ?_
    simp only [QE]
    unfold aChance
    rw [if_pos (fun z => by rw [if_pos z] at h5; omega)]
