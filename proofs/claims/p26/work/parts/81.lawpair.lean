/-! ## the law's own game beside the class's: LK its rows, LR what they hold, PQ what holds of the pairs -/
def LK (kd : KL) : Prop := kd[128]? = some (0, 11) ∧ kd[129]? = some (0, 20) ∧ kd[130]? = some (0, 40) ∧ kd[131]? = some (0, 24) ∧ kd[132]? = some (0, 48) ∧ kd[133]? = some (0, 48) ∧ kd[134]? = some (30, 64) ∧ kd[3]? = some (9, 8)
/-- a pair as one number -/
def LQ (f : Int → Int) (s : Int → Int) : Prop := ∀ i, 0 ≤ i → i < s 150 → f i = s (151 + 4 * i) + 256 * s (151 + 4 * i + 1) + 65536 * s (151 + 4 * i + 2) + 16777216 * s (151 + 4 * i + 3)
def LR (F : FM) (s : Int → Int) : Prop :=
  (F 128 0 = s 0 ∧ F 128 1 = s 1 ∧ F 128 2 = s 2 ∧ F 128 3 = s 3 ∧ F 128 4 = s 4 ∧ F 128 5 = s 25 ∧ F 128 6 = s 26 ∧ F 128 7 = s 27 ∧ F 128 8 = s 28 ∧ F 128 9 = s 29 ∧ F 128 10 = s 150) ∧
  (∀ k, 0 ≤ k → k < s 4 → F 129 k = s (5 + k)) ∧ (∀ k, 0 ≤ k → k < s 25 → F 130 k = s (2087 + k)) ∧
  (∀ p i, 0 ≤ p → p < s 0 → 0 ≤ i → i < 6 → F 131 (6 * p + i) = s (126 + 6 * p + i)) ∧
  (∀ k i, 0 ≤ k → k < s 29 → 0 ≤ i → i < 4 → F 132 (4 * k + i) = s (30 + 8 * k + i)) ∧
  (∀ k i, 0 ≤ k → k < s 29 → 0 ≤ i → i < s 0 → F 133 (4 * k + i) = s (34 + 8 * k + i)) ∧ LQ (F 134) s
theorem LR_fr {F F' : FM} {s : Int → Int} (h : LR F s) (hF : ∀ k, 128 ≤ k → F' k = F k) : LR F' s := by
  unfold LR at *
  rw [hF 128 (by omega), hF 129 (by omega), hF 130 (by omega), hF 131 (by omega), hF 132 (by omega), hF 133 (by omega), hF 134 (by omega)]
  exact h
def PQ (C : Int) (t : Int → Int) : Prop := (0 ≤ t 150) ∧ ∀ i, 0 ≤ i → i < t 150 → (0 ≤ t (151 + 4 * i) ∧ t (151 + 4 * i) < 4) ∧ (0 ≤ t (151 + 4 * i + 1) ∧ t (151 + 4 * i + 1) ≤ 120) ∧ (0 ≤ t (151 + 4 * i + 2) ∧ t (151 + 4 * i + 2) ≤ C) ∧ (0 ≤ t (151 + 4 * i + 3) ∧ t (151 + 4 * i + 3) ≤ C)
theorem bt_8 (v : Int) : bt v 8 = v / 256 % 256 := rfl
theorem bt_16 (v : Int) : bt v 16 = v / 65536 % 256 := rfl
theorem bt_24 (v : Int) : bt v 24 = v / 16777216 % 256 := rfl
theorem bt_v {a b c w : Int} (ha : 0 ≤ a ∧ a < 256) (hb : 0 ≤ b ∧ b < 256) (hc : 0 ≤ c ∧ c < 256) (hw : 0 ≤ w ∧ w < 120) : bt (a + 256 * b + 65536 * c + 16777216 * w) 0 = a ∧ bt (a + 256 * b + 65536 * c + 16777216 * w) 8 = b ∧ bt (a + 256 * b + 65536 * c + 16777216 * w) 16 = c ∧ bt (a + 256 * b + 65536 * c + 16777216 * w) 24 = w := by
  rw [bt_0, bt_8, bt_16, bt_24]
  omega
theorem LQ_bt {f t : Int → Int} {C i : Int} (h : LQ f t) (hp : PQ C t) (hC : C < 118) (i0 : 0 ≤ i) (i1 : i < t 150) : 0 ≤ f i ∧ f i < 2000000000 ∧ bt (f i) 0 = t (151 + 4 * i) ∧ bt (f i) 8 = t (151 + 4 * i + 1) ∧ bt (f i) 16 = t (151 + 4 * i + 2) ∧ bt (f i) 24 = t (151 + 4 * i + 3) := by
  have e := h i i0 i1
  have q := hp.2 i i0 i1
  have b := bt_v (a := t (151 + 4 * i)) (b := t (151 + 4 * i + 1)) (c := t (151 + 4 * i + 2)) (w := t (151 + 4 * i + 3)) (by omega) (by omega) (by omega) (by omega)
  rw [← e] at b
  refine ⟨by omega, by omega, b⟩
theorem ixS_is {t : Int → Int} {p b k : Int} (h0 : 0 ≤ k) (h1 : k ≤ t 150) (hm : ∀ i, 0 ≤ i → i < k → ¬ (t (151 + 4 * i) = p ∧ t (151 + 4 * i + 1) = b)) (hk : k = t 150 ∨ (t (151 + 4 * k) = p ∧ t (151 + 4 * k + 1) = b)) : ixS t p b = k := by
  have a1 := ixS_in (t := t) (p := p) (b := b) (by omega)
  rcases (by omega : ixS t p b < k ∨ ixS t p b = k ∨ k < ixS t p b) with h | h | h
  · exact absurd (ixS_hit (by omega) (by omega)) (hm _ a1.1 h)
  · exact h
  · rcases hk with z | z
    · omega
    · exact absurd z (ixS_miss h0 h)
theorem LQ_note {f f' t : Int → Int} {C p b won : Int} (h : LQ f t) (hq : PQ C t) (hC : C < 120) (hw : won = 0 ∨ won = 1) (hk : f' (ixS t p b) = p + 256 * b + 65536 * ((if ixS t p b = t 150 then 0 else t (151 + 4 * ixS t p b + 2)) + 1) + 16777216 * ((if ixS t p b = t 150 then 0 else t (151 + 4 * ixS t p b + 3)) + won)) (ho : ∀ i, 0 ≤ i → i < t 150 → i ≠ ixS t p b → f' i = f i) : LQ f' (notesS t p b won) := by
  have hx := ixS_in (p := p) (b := b) hq.1
  intro i i0 i1
  rw [nS_150 hx.1] at i1
  by_cases hi : i = ixS t p b
  · have hb : ixS t p b ≠ t 150 → (0 ≤ t (151 + 4 * i + 2) ∧ t (151 + 4 * i + 2) ≤ C) ∧ (0 ≤ t (151 + 4 * i + 3) ∧ t (151 + 4 * i + 3) ≤ C) := fun z => (hq.2 i i0 (by omega)).2.2
    rw [nS_0 hi, nS_1 hi, nS_2 hi, nS_3 hi, wr_id (by unfold inb; split <;> omega), wr_id (by unfold inb; split <;> omega), hi]
    exact hk
  · have i2 : i < t 150 := by split at i1 <;> omega
    rw [nS_o (by omega) (by omega), nS_o (by omega) (by omega), nS_o (by omega) (by omega), nS_o (by omega) (by omega), ho i i0 i2 hi]
    exact h i i0 i2
theorem sp_pair {d : Nat} {kd : KL} {F : FM} {P : PM} {t : Int → Int} {C p b won : Int} (hd : 1 ≤ d) (kg : kd[128]? = some (0, 11)) (kq : kd[134]? = some (30, 64)) (hg : F 128 10 = t 150) (hL : LQ (F 134) t) (hq : PQ C t) (hC : C < 118) (h63 : t 150 ≤ 63) (hp : 0 ≤ p ∧ p < 4) (hb : 0 ≤ b ∧ b ≤ 120) (hw : won = 0 ∨ won = 1) : Sp d 95 [.inr (some 128), .inr (some 134), .inl p, .inl b, .inl won] kd F P (QN kd P (fun F' => LQ (F' 134) (notesS t p b won) ∧ F' 128 10 = notesS t p b won 150 ∧ (∀ j, j ≠ 10 → F' 128 j = F 128 j) ∧ ∀ k, k ≠ 128 → k ≠ 134 → F' k = F k)) := by
  refine Sp_of (me := mL_pair) (by omega) pL_pair ⟨rfl, Nat.le_of_ble_eq_true rfl⟩ ?_
  have q0 := hq.1
  have fin : ∀ (i : Int) (G : FM), 0 ≤ i → i ≤ t 150 → ixS t p b = i → 0 ≤ G 134 i ∧ G 134 i < 2000000000 → G 134 i = (if i = t 150 then p + 256 * b else F 134 i) → (∀ j, j ≠ i → G 134 j = F 134 j) → G 128 10 = (if i = t 150 then t 150 + 1 else t 150) → (∀ j, j ≠ 10 → G 128 j = F 128 j) → (∀ k, k ≠ 128 → k ≠ 134 → G k = F k) → Rn (d - 1) mL_pair 79 [some (.inr (some 128)), some (.inr (some 134)), some (.inl p), some (.inl b), some (.inl won), some (.inl i)] [] kd G P (QN kd P (fun F' => LQ (F' 134) (notesS t p b won) ∧ F' 128 10 = notesS t p b won 150 ∧ (∀ j, j ≠ 10 → F' 128 j = F 128 j) ∧ ∀ k, k ≠ 128 → k ≠ 134 → F' k = F k)) := by
    intro i G h0 h1 hx hv he ho g1 g2 g3
    refine R_aload_n fL_pair_79 rfl ?_
    refine R_iload fL_pair_80 rfl ?_
    refine R_ladd fL_pair_82 kq (by decide) (by omega) rfl ?_
    refine R_return fL_pair_102 rfl ?_
    refine ⟨_, rfl, LQ_note hL hq (by omega) hw ?_ (fun j j0 j1 j2 => ?_), ?_, fun j hj => ?_, fun k hk hk2 => ?_⟩
    · rw [hx, stt_eq, he]
      by_cases hi : i = t 150
      · rw [if_pos hi, if_pos hi, if_pos hi]
        rcases hw with z | z <;> rw [z] <;> simp <;> omega
      · have e := hL i h0 (by omega)
        have e2 := ixS_hit (t := t) (p := p) (b := b) q0 (by omega)
        rw [hx] at e2
        rw [if_neg hi, if_neg hi, if_neg hi, e, e2.1, e2.2]
        rcases hw with z | z <;> rw [z] <;> simp <;> omega
    · rw [stt_j _ _ (by omega)]
      exact ho j (by omega)
    · rw [stt_k _ _ _ _ (by decide), nS_150 (by omega), hx]
      exact g1
    · rw [stt_k _ _ _ _ (by decide)]
      exact g2 j hj
    · rw [stt_kr _ _ _ hk2]
      exact g3 k hk hk2
  have lp : ∀ (N : Nat) (i : Int), 0 ≤ i → i ≤ t 150 → (∀ j, 0 ≤ j → j < i → ¬ (t (151 + 4 * j) = p ∧ t (151 + 4 * j + 1) = b)) → t 150 - i < N → Rn (d - 1) mL_pair 3 [some (.inr (some 128)), some (.inr (some 134)), some (.inl p), some (.inl b), some (.inl won), some (.inl i)] [] kd F P (QN kd P (fun F' => LQ (F' 134) (notesS t p b won) ∧ F' 128 10 = notesS t p b won 150 ∧ (∀ j, j ≠ 10 → F' 128 j = F 128 j) ∧ ∀ k, k ≠ 128 → k ≠ 134 → F' k = F k)) := by
    intro N
    induction N with
    | zero => intro i h0 h1 h2 h5; omega
    | succ N ih =>
      intro i h0 h1 h2 h5
      refine R_iload fL_pair_3 rfl ?_
      refine R_aload_n fL_pair_5 rfl ?_
      refine R_bipush fL_pair_6 ?_
      refine R_iaload fL_pair_8 kg (by omega) ?_
      refine R_icmp_ge fL_pair_9 rfl (fun h9 => ?_) (fun h9 => ?_)
      · have hit : i = t 150 := by omega
        have hx := ixS_is (p := p) (b := b) h0 h1 h2 (Or.inl hit)
        refine R_iload fL_pair_49 rfl ?_
        refine R_aload_n fL_pair_51 rfl ?_
        refine R_bipush fL_pair_52 ?_
        refine R_iaload fL_pair_54 kg (by omega) ?_
        refine R_icmp_ne fL_pair_55 rfl (fun h55 => absurd h55 (fun z => z (by rw [hg]; exact hit))) (fun h55 => ?_)
        refine R_aload_n fL_pair_58 rfl ?_
        refine R_iload fL_pair_59 rfl ?_
        refine R_iload_n fL_pair_61 rfl ?_
        refine R_lst fL_pair_62 kq (by decide) (by omega) rfl ?_
        refine R_aload_n fL_pair_71 rfl ?_
        refine R_bipush fL_pair_72 ?_
        refine R_dup2 fL_pair_74 ?_
        refine R_iaload fL_pair_75 kg (by omega) ?_
        rw [stt_k _ _ _ _ (by decide), hg]
        refine R_iconst fL_pair_76 ?_
        refine R_iadd fL_pair_77 (by omega) ?_
        refine R_iastore fL_pair_78 kg (by decide) (by omega) ?_
        refine fin i _ h0 h1 hx ?_ ?_ (fun j hj => ?_) ?_ (fun j hj => ?_) (fun k hk hk2 => ?_)
        · rw [stt_k _ _ _ _ (by decide), stt_eq]; omega
        · rw [stt_k _ _ _ _ (by decide), stt_eq, if_pos hit]
        · rw [stt_k _ _ _ _ (by decide), stt_j _ _ hj]
        · rw [stt_eq, if_pos hit]
        · rw [stt_j _ _ hj, stt_k _ _ _ _ (by decide)]
        · rw [stt_kr _ _ _ hk, stt_kr _ _ _ hk2]
      · rw [hg] at h9
        have lb := LQ_bt hL hq (by omega) h0 (show i < t 150 by omega)
        have qb := hq.2 i h0 (by omega)
        refine R_aload_n fL_pair_12 rfl ?_
        refine R_iload fL_pair_13 rfl ?_
        refine R_lcm1 fL_pair_15 kq (by decide) (by omega) rfl ?_
        refine R_if_ne fL_pair_23 rfl (fun h23 => ?_) (fun h23 => ?_)
        · have hm : ¬ (t (151 + 4 * i) = p ∧ t (151 + 4 * i + 1) = b) := by
            intro z
            rw [← lb.2.2.1, ← lb.2.2.2.1] at z
            first | exact h23 (cmpL_0.mpr z.1) | exact h40 (cmpL_0.mpr z.2)
          refine R_iinc fL_pair_43 rfl (by omega) ?_
          refine R_goto fL_pair_46 rfl ?_
          refine ih _ (by omega) (by omega) (fun j j0 j1 => ?_) (by omega)
          by_cases hj : j = i
          · rw [hj]; exact hm
          · exact h2 j j0 (by omega)
        · have h23' := lb.2.2.1.symm.trans (cmpL_0.mp h23)
          refine R_aload_n fL_pair_26 rfl ?_
          refine R_iload fL_pair_27 rfl ?_
          refine R_lcm2 fL_pair_29 kq (by decide) (by omega) rfl ?_
          refine R_if_eq fL_pair_40 rfl (fun h40 => ?_) (fun h40 => ?_)
          · have h40' := lb.2.2.2.1.symm.trans (cmpL_0.mp h40)
            have hx := ixS_is (p := p) (b := b) h0 h1 h2 (Or.inr ⟨h23', h40'⟩)
            refine R_iload fL_pair_49 rfl ?_
            refine R_aload_n fL_pair_51 rfl ?_
            refine R_bipush fL_pair_52 ?_
            refine R_iaload fL_pair_54 kg (by omega) ?_
            refine R_icmp_ne fL_pair_55 rfl (fun h55 => ?_) (fun h55 => absurd h55 (by rw [hg]; omega))
            refine fin i _ h0 h1 hx ?_ ?_ (fun j hj => rfl) ?_ (fun j hj => rfl) (fun k hk hk2 => rfl)
            · omega
            · rw [if_neg (by omega)]
            · rw [if_neg (by omega)]; exact hg
          · have hm : ¬ (t (151 + 4 * i) = p ∧ t (151 + 4 * i + 1) = b) := by
              intro z
              rw [← lb.2.2.1, ← lb.2.2.2.1] at z
              first | exact h23 (cmpL_0.mpr z.1) | exact h40 (cmpL_0.mpr z.2)
            refine R_iinc fL_pair_43 rfl (by omega) ?_
            refine R_goto fL_pair_46 rfl ?_
            refine ih _ (by omega) (by omega) (fun j j0 j1 => ?_) (by omega)
            by_cases hj : j = i
            · rw [hj]; exact hm
            · exact h2 j j0 (by omega)
  refine R_iconst fL_pair_0 ?_
  refine R_istore fL_pair_1 rfl ?_
  exact lp ((t 150).toNat + 1) 0 (by omega) (by omega) (fun j j0 j1 => by omega) (by omega)
