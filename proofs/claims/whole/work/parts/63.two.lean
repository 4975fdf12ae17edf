theorem ow_b {s : Int → Int} (hw : WF s) {p x y : Int} (hp : p = 0 ∨ p = 1) (hx : 0 ≤ x ∧ x ≤ s (126 + 6 * p)) (hy : 0 ≤ y ∧ y ≤ 120) : 0 ≤ ow s p x y ∧ ow s p x y ≤ 900 := by
  have h1 := py_b hw (x := x) (y := y) hx.1
  have h2 := py_b hw (x := y) (y := x) hy.1
  have h3 := hw.2.2.2.1 p (by omega) (by omega)
  have h4 := sg_bound (f := fun p => s (126 + 6 * p)) (a := 0) (b := 120) (n := (s 0).toNat) (fun i h0 h1 => ⟨(hw.2.2.2.1 i h0 (by have := hw.1; omega)).1, (hw.2.2.2.1 i h0 (by have := hw.1; omega)).2.1⟩)
  have h5 := hw.2.2.1
  have h0 := hw.1
  unfold ow
  by_cases z : s 28 = 1 ∧ x < y
  · rw [if_pos z]; omega
  · rw [if_neg z]; omega
theorem hT_hO {s : Int → Int} {p : Int} : hT s p 1 = hO (tabS s + s 5) (s (126 + 6 * (1 - p))) := by
  funext x
  unfold hT hO
  rw [show gT s p 1 x = gn (tabS s + s 5) x from funext fun y => by unfold gT; rw [if_pos (Or.inl (by omega)), Int.add_zero]]
set_option maxHeartbeats 2000000 in
theorem sp_mholdsTwo {d : Nat} {kd : KL} {F : FM} {P : PM} {s : Int → Int} {p own oth ahd : Int} (hd : 4 ≤ d) (hM : shM kd P) (h126 : F 129 = s) (hw : WF s) (h4 : 1 ≤ s 4) (hp : p = 0 ∨ p = 1) (ho : own = s (126 + 6 * p)) (ht : oth = s (126 + 6 * (1 - p))) (ha : -18000000 ≤ ahd ∧ ahd ≤ 18000000) : Sp d 120 [.inr (some 128), .inl own, .inl oth, .inl ahd] kd F P (QV kd P (fun r F' => r = ahd + mxP (hT s p 2) (own + 1).toNat ∧ F' 128 15 = abP (hT s p 2) (own + 1).toNat ∧ HOf F F')) := by
  refine Sp_of (me := mX8_holdsTwo) (by omega) pX8_holdsTwo ⟨rfl, Nat.le_of_ble_eq_true rfl⟩ ?_
  have hst := stake_b hw h4
  have hpo := hw.2.2.2.1 p (by omega) (by omega)
  have hpt := hw.2.2.2.1 (1 - p) (by omega) (by omega)
  have hr6 : 1 < s 4 → -9 ≤ s 6 ∧ s 6 ≤ 20 := fun z => hw.2.2.2.2.2.1 1 (by omega) z
  have hpot : 0 ≤ s 1 ∧ s 1 ≤ 120 := by
    have h4 := sg_bound (f := fun p => s (126 + 6 * p)) (a := 0) (b := 120) (n := (s 0).toNat) (fun i h0 h1 => ⟨(hw.2.2.2.1 i h0 (by have := hw.1; omega)).1, (hw.2.2.2.1 i h0 (by have := hw.1; omega)).2.1⟩)
    have h5 := hw.2.2.1
    have h0 := hw.1
    omega
  have hon : 0 ≤ s 25 ∧ s 25 ≤ 20 := by have := hw.2.1; omega
  have htl := hw.2.2.2.2.2.2.1
  have inr : ∀ (N : Nat) (x y wst best wth : Int) (j9 : Option AV) (G : FM), (0 ≤ x ∧ x ≤ own) → 0 ≤ y → y ≤ oth + 1 → (1 ≤ y → wst = ahd + mnP (gT s p 2 x) y.toNat) → G 129 = s → HOf F G → (∀ (j9' : Option AV) (G' : FM), G' 129 = s → HOf F G' → Rn (d - 1) mX8_holdsTwo 120 [some (.inr (some 128)), some (.inl own), some (.inl oth), some (.inl ahd), some (.inl best), some (.inl wth), some (.inl x), some (.inl (ahd + hT s p 2 x)), some (.inl (oth + 1)), j9'] [] kd G' P (QV kd P (fun r F' => r = ahd + mxP (hT s p 2) (own + 1).toNat ∧ F' 128 15 = abP (hT s p 2) (own + 1).toNat ∧ HOf F F'))) → oth + 1 - y < N → Rn (d - 1) mX8_holdsTwo 32 [some (.inr (some 128)), some (.inl own), some (.inl oth), some (.inl ahd), some (.inl best), some (.inl wth), some (.inl x), some (.inl wst), some (.inl y), j9] [] kd G P (QV kd P (fun r F' => r = ahd + mxP (hT s p 2) (own + 1).toNat ∧ F' 128 15 = abP (hT s p 2) (own + 1).toNat ∧ HOf F F')) := by
    intro N
    induction N with
    | zero => intro x y wst best wth j9 G hx h0 h1 h2 g126 go K h8; omega
    | succ N ih =>
      intro x y wst best wth j9 G hx h0 h1 h2 g126 go K h8
      have hgb := gT_b hw h4 (p := p) (e := 2) (x := x) (y := y)
      refine R_iload fX8_holdsTwo_32 rfl ?_
      refine R_iload_n fX8_holdsTwo_34 rfl ?_
      refine R_icmp_gt fX8_holdsTwo_35 rfl (fun h35 => ?_) (fun h35 => ?_)
      · have hy : y = oth + 1 := by omega
        subst hy
        rw [show wst = ahd + hT s p 2 x by rw [h2 (by omega)]; unfold hT; rw [ht]]
        exact K _ G g126 go
      · refine R_aload_n fX8_holdsTwo_38 rfl ?_
        refine R_iload_n fX8_holdsTwo_39 rfl ?_
        refine R_iload_n fX8_holdsTwo_40 rfl ?_
        refine R_iload_n fX8_holdsTwo_41 rfl ?_
        refine R_aload_n fX8_holdsTwo_42 rfl ?_
        refine R_getP 0 fX8_holdsTwo_43 hM.1 (by omega) rfl rfl rfl hM.2.2.2.2.2.2.2.2.1 ?_
        refine R_iconst fX8_holdsTwo_46 ?_
        refine R_iaload fX8_holdsTwo_47 hM.2.1 (by omega) ?_
        rw [g126]
        refine R_aload_n fX8_holdsTwo_48 rfl ?_
        rw [setr_me g126]
        refine R_callE fX8_holdsTwo_49 rfl rfl pX8_onTable rfl ⟨Nat.le_of_ble_eq_true rfl, rcv_v rfl (by omega) hM.1⟩ (sp_monTable (by omega) hM hon htl) ?_
        rw [← setr_me g126]
        refine R_aload_n fX8_holdsTwo_52 rfl ?_
        refine R_getP 0 fX8_holdsTwo_53 hM.1 (by omega) rfl rfl rfl hM.2.2.2.2.2.2.2.2.1 ?_
        refine R_iconst fX8_holdsTwo_56 ?_
        refine R_iaload fX8_holdsTwo_57 hM.2.1 (by omega) ?_
        rw [g126]
        refine R_iadd fX8_holdsTwo_58 (by omega) ?_
        refine R_iload fX8_holdsTwo_59 rfl ?_
        refine R_iload fX8_holdsTwo_61 rfl ?_
        refine R_callN fX8_holdsTwo_63 rfl rfl pX8_tries rfl ⟨Nat.le_of_ble_eq_true rfl, rcv_v rfl (by omega) hM.1⟩ (sp_mtries (by omega) hM g126 hw (by omega) (by omega) (by omega) (by omega) (by omega) (by omega) (by omega)) (fun F1 q => ?_)
        obtain ⟨q1, q2, q3, q4, q5, q6⟩ := q
        have f126 : F1 129 = s := by rw [q6.2 129 (by omega)]; exact g126
        have w1 := ow_b hw (p := p) (x := x) (y := y) hp (by omega) (by omega)
        have w2 := ow_b hw (p := 1 - p) (x := y) (y := x) (by omega) (by omega) (by omega)
        have w3 := gn_b (S := tabS s + s 5) (x := x) (y := y) (c := 400) (by omega)
        have w4 : -400 ≤ (if x = y then tabS s + s 5 else 0) ∧ (if x = y then tabS s + s 5 else 0) ≤ 400 := by split <;> omega
        have e1 : F1 128 10 = ow s p x y := by rw [q1, ho]; rfl
        have e2 : F1 128 11 = ow s (1 - p) y x := by rw [q2, ht]; rfl
        clear q1 q2
        refine R_aload_n fX8_holdsTwo_66 rfl ?_
        refine R_aload_n fX8_holdsTwo_67 rfl ?_
        refine R_getI 10 fX8_holdsTwo_68 hM.1 (by omega) rfl rfl rfl ?_
        rw [e1]
        refine R_aload_n fX8_holdsTwo_71 rfl ?_
        refine R_getI 11 fX8_holdsTwo_72 hM.1 (by omega) rfl rfl rfl ?_
        rw [e2]
        refine R_aload_n fX8_holdsTwo_75 rfl ?_
        refine R_getI 12 fX8_holdsTwo_76 hM.1 (by omega) rfl rfl rfl ?_
        rw [q3]
        refine R_aload_n fX8_holdsTwo_79 rfl ?_
        refine R_getI 13 fX8_holdsTwo_80 hM.1 (by omega) rfl rfl rfl ?_
        refine R_aload_n fX8_holdsTwo_83 rfl ?_
        refine R_getI 14 fX8_holdsTwo_84 hM.1 (by omega) rfl rfl rfl ?_
        rw [q5]
        refine R_iconst fX8_holdsTwo_87 ?_
        refine R_callV fX8_holdsTwo_88 rfl rfl pX8_holdsOne rfl ⟨Nat.le_of_ble_eq_true rfl, rcv_v rfl (by omega) hM.1⟩ (sp_mholdsOne (by omega) hM f126 hw (by omega) (by omega) (by omega) (by omega) (by omega) (by omega)) (fun r2 F2 z => ?_)
        obtain ⟨z1, z2, z3⟩ := z
        have g2 : F2 129 = s := by rw [z3.2 129 (by omega)]; exact f126
        have o2 : HOf F F2 := HOf_tr (HOf_TR go q6) z3
        have hr2 : r2 = ahd + gT s p 2 x y := by
          unfold gT
          by_cases l2 : s 4 < 2
          · rw [if_pos (Or.inr l2), (z1 (by omega)).1]; omega
          · have l6 := hr6 (by omega)
            rw [if_neg (by omega), (z2 (by omega)).1, show (5 : Int) + 1 = 6 from rfl, last_mm (by omega) (by omega) (by omega)]; omega
        clear z1 z2 z3 w1 w2 w3 w4
        refine R_istore fX8_holdsTwo_91 rfl ?_
        refine R_iload fX8_holdsTwo_93 rfl ?_
        refine R_if_eq fX8_holdsTwo_95 rfl (fun h95 => ?_) (fun h95 => ?_)
        · refine R_iload fX8_holdsTwo_105 rfl ?_
          refine R_goto fX8_holdsTwo_107 rfl ?_
          refine R_istore fX8_holdsTwo_112 rfl ?_
          refine R_iinc fX8_holdsTwo_114 rfl (by omega) ?_
          refine R_goto fX8_holdsTwo_117 rfl ?_
          have hm := mnP_s (g := gT s p 2 x) (i := y) (by omega)
          have hm0 : y = 0 → mnP (gT s p 2 x) y.toNat = 1000000 := fun z => by rw [z]; rfl
          first
          | (rw [if_pos (by omega)] at hm
             exact ih _ _ _ _ _ _ _ hx (by omega) (by omega) (fun _ => by omega) g2 o2 K (by omega))
          | (rw [if_neg (by omega)] at hm
             exact ih _ _ _ _ _ _ _ hx (by omega) (by omega) (fun _ => by omega) g2 o2 K (by omega))
        · refine R_iload fX8_holdsTwo_98 rfl ?_
          refine R_iload fX8_holdsTwo_100 rfl ?_
          refine R_icmp_ge fX8_holdsTwo_102 rfl (fun h102 => ?_) (fun h102 => ?_)
          · refine R_iload fX8_holdsTwo_110 rfl ?_
            refine R_istore fX8_holdsTwo_112 rfl ?_
            refine R_iinc fX8_holdsTwo_114 rfl (by omega) ?_
            refine R_goto fX8_holdsTwo_117 rfl ?_
            have hm := mnP_s (g := gT s p 2 x) (i := y) (by omega)
            have hm0 : y = 0 → mnP (gT s p 2 x) y.toNat = 1000000 := fun z => by rw [z]; rfl
            first
            | (rw [if_pos (by omega)] at hm
               exact ih _ _ _ _ _ _ _ hx (by omega) (by omega) (fun _ => by omega) g2 o2 K (by omega))
            | (rw [if_neg (by omega)] at hm
               exact ih _ _ _ _ _ _ _ hx (by omega) (by omega) (fun _ => by omega) g2 o2 K (by omega))
          · refine R_iload fX8_holdsTwo_105 rfl ?_
            refine R_goto fX8_holdsTwo_107 rfl ?_
            refine R_istore fX8_holdsTwo_112 rfl ?_
            refine R_iinc fX8_holdsTwo_114 rfl (by omega) ?_
            refine R_goto fX8_holdsTwo_117 rfl ?_
            have hm := mnP_s (g := gT s p 2 x) (i := y) (by omega)
            have hm0 : y = 0 → mnP (gT s p 2 x) y.toNat = 1000000 := fun z => by rw [z]; rfl
            first
            | (rw [if_pos (by omega)] at hm
               exact ih _ _ _ _ _ _ _ hx (by omega) (by omega) (fun _ => by omega) g2 o2 K (by omega))
            | (rw [if_neg (by omega)] at hm
               exact ih _ _ _ _ _ _ _ hx (by omega) (by omega) (fun _ => by omega) g2 o2 K (by omega))
  have otr : ∀ (N : Nat) (x best wth : Int) (j7 j8 j9 : Option AV) (G : FM), 0 ≤ x → x ≤ own + 1 → (x = 0 → wth = -1) → (1 ≤ x → best = ahd + mxP (hT s p 2) x.toNat ∧ wth = abP (hT s p 2) x.toNat) → G 129 = s → HOf F G → own + 1 - x < N → Rn (d - 1) mX8_holdsTwo 20 [some (.inr (some 128)), some (.inl own), some (.inl oth), some (.inl ahd), some (.inl best), some (.inl wth), some (.inl x), j7, j8, j9] [] kd G P (QV kd P (fun r F' => r = ahd + mxP (hT s p 2) (own + 1).toNat ∧ F' 128 15 = abP (hT s p 2) (own + 1).toNat ∧ HOf F F')) := by
    intro N
    induction N with
    | zero => intro x best wth j7 j8 j9 G h0 h1 h2 h3 g126 go h8; omega
    | succ N ih =>
      intro x best wth j7 j8 j9 G h0 h1 h2 h3 g126 go h8
      have hob := hT_b hw h4 (p := p) (e := 2) (x := x) (by omega)
      have hms := mxP_s (g := hT s p 2) (i := x) h0
      have has := abP_s (g := hT s p 2) (i := x) h0
      have hm0 : x = 0 → mxP (hT s p 2) x.toNat = -1000000 := fun z => by rw [z]; rfl
      have hai := (abP_in (h := hT s p 2) (n := x.toNat)).1
      refine R_iload fX8_holdsTwo_20 rfl ?_
      refine R_iload_n fX8_holdsTwo_22 rfl ?_
      refine R_icmp_gt fX8_holdsTwo_23 rfl (fun h23 => ?_) (fun h23 => ?_)
      · refine R_aload_n fX8_holdsTwo_146 rfl ?_
        refine R_iload fX8_holdsTwo_147 rfl ?_
        refine R_putI 15 fX8_holdsTwo_149 hM.1 (by omega) rfl rfl rfl ?_
        refine R_iload fX8_holdsTwo_152 rfl ?_
        refine R_ireturn fX8_holdsTwo_154 rfl ?_
        have hx : x = own + 1 := by omega
        subst hx
        obtain ⟨y1, y2⟩ := h3 (by omega)
        exact ⟨_, _, rfl, y1, by rw [stt_eq]; exact y2, HOf_st go⟩
      · refine R_iconst fX8_holdsTwo_26 ?_
        refine R_istore fX8_holdsTwo_27 rfl ?_
        refine R_iconst fX8_holdsTwo_29 ?_
        refine R_istore fX8_holdsTwo_30 rfl ?_
        refine inr 2000 x 0 0 best wth _ G (by omega) (by omega) (by omega) (fun z => by omega) g126 go (fun j9' G' a15 c15 => ?_) (by omega)
        refine R_iload fX8_holdsTwo_120 rfl ?_
        refine R_if_lt fX8_holdsTwo_122 rfl (fun h122 => ?_) (fun h122 => ?_)
        · refine R_iload fX8_holdsTwo_132 rfl ?_
          refine R_istore fX8_holdsTwo_134 rfl ?_
          refine R_iload fX8_holdsTwo_136 rfl ?_
          refine R_istore fX8_holdsTwo_138 rfl ?_
          refine R_iinc fX8_holdsTwo_140 rfl (by omega) ?_
          refine R_goto fX8_holdsTwo_143 rfl ?_
          first
          | (rw [if_pos (by omega)] at hms has
             exact ih _ _ _ _ _ _ _ (by omega) (by omega) (fun z => by omega) (fun _ => ⟨by omega, by omega⟩) a15 c15 (by omega))
          | (rw [if_neg (by omega)] at hms has
             exact ih _ _ _ _ _ _ _ (by omega) (by omega) (fun z => by omega) (fun _ => ⟨by omega, by omega⟩) a15 c15 (by omega))
        · refine R_iload fX8_holdsTwo_125 rfl ?_
          refine R_iload fX8_holdsTwo_127 rfl ?_
          refine R_icmp_le fX8_holdsTwo_129 rfl (fun h129 => ?_) (fun h129 => ?_)
          · refine R_iinc fX8_holdsTwo_140 rfl (by omega) ?_
            refine R_goto fX8_holdsTwo_143 rfl ?_
            first
            | (rw [if_pos (by omega)] at hms has
               exact ih _ _ _ _ _ _ _ (by omega) (by omega) (fun z => by omega) (fun _ => ⟨by omega, by omega⟩) a15 c15 (by omega))
            | (rw [if_neg (by omega)] at hms has
               exact ih _ _ _ _ _ _ _ (by omega) (by omega) (fun z => by omega) (fun _ => ⟨by omega, by omega⟩) a15 c15 (by omega))
          · refine R_iload fX8_holdsTwo_132 rfl ?_
            refine R_istore fX8_holdsTwo_134 rfl ?_
            refine R_iload fX8_holdsTwo_136 rfl ?_
            refine R_istore fX8_holdsTwo_138 rfl ?_
            refine R_iinc fX8_holdsTwo_140 rfl (by omega) ?_
            refine R_goto fX8_holdsTwo_143 rfl ?_
            first
            | (rw [if_pos (by omega)] at hms has
               exact ih _ _ _ _ _ _ _ (by omega) (by omega) (fun z => by omega) (fun _ => ⟨by omega, by omega⟩) a15 c15 (by omega))
            | (rw [if_neg (by omega)] at hms has
               exact ih _ _ _ _ _ _ _ (by omega) (by omega) (fun z => by omega) (fun _ => ⟨by omega, by omega⟩) a15 c15 (by omega))
  refine R_aload_n fX8_holdsTwo_0 rfl ?_
  refine R_getP 0 fX8_holdsTwo_1 hM.1 (by omega) rfl rfl rfl hM.2.2.2.2.2.2.2.2.1 ?_
  refine R_iconst fX8_holdsTwo_4 ?_
  refine R_iaload fX8_holdsTwo_5 hM.2.1 (by omega) ?_
  rw [h126]
  refine R_if_ne fX8_holdsTwo_6 rfl (fun h6 => ?_) (fun h6 => absurd h6 (by omega))
  refine R_iconst fX8_holdsTwo_11 ?_
  refine R_istore fX8_holdsTwo_12 rfl ?_
  refine R_iconst fX8_holdsTwo_14 ?_
  refine R_istore fX8_holdsTwo_15 rfl ?_
  refine R_iconst fX8_holdsTwo_17 ?_
  refine R_istore fX8_holdsTwo_18 rfl ?_
  exact otr 2000 0 0 (-1) _ _ _ F (by omega) (by omega) (fun _ => rfl) (fun z => by omega) h126 ⟨fun _ _ => rfl, fun _ _ => rfl⟩ (by omega)
