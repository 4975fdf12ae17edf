theorem mnP_ge {g : Int → Int} {v : Int} (hv : v ≤ 1000000) : ∀ {n : Nat}, (∀ i : Int, 0 ≤ i → i < n → v ≤ g i) → v ≤ mnP g n
  | 0, _ => hv
  | n + 1, h => by
    have h1 := mnP_ge (g := g) hv (n := n) (fun i a b => h i a (by omega))
    have h2 := h n (by omega) (by omega)
    show v ≤ if g (n : Int) < mnP g n then g (n : Int) else mnP g n
    split <;> omega
theorem mn_eq {g : Int → Int} {v y : Int} {n : Nat} (hv : v ≤ 1000000) (h : ∀ i : Int, 0 ≤ i → i < n → v ≤ g i) (h0 : 0 ≤ y) (h1 : y < n) (h2 : g y = v) : mnP g n = v := by
  have h3 := mnP_ge hv h
  have h4 := mnP_le (g := g) h0 h1
  omega
theorem mxP_ge {g : Int → Int} : ∀ {n : Nat} {i : Int}, 0 ≤ i → i < n → g i ≤ mxP g n
  | 0, i, h0, h1 => by omega
  | n + 1, i, h0, h1 => by
    show g i ≤ if mxP g n < g (n : Int) then g (n : Int) else mxP g n
    by_cases z : i = n
    · rw [z]; split <;> omega
    · have := mxP_ge (g := g) (n := n) (i := i) h0 (by omega)
      split <;> omega
theorem mx_eq {g : Int → Int} {v y : Int} {n : Nat} (hv : -1000000 ≤ v) (h : ∀ i : Int, 0 ≤ i → i < n → g i ≤ v) (h0 : 0 ≤ y) (h1 : y < n) (h2 : g y = v) : mxP g n = v := by
  have h3 := (mxP_b (g := g) hv h).2
  have h4 := mxP_ge (g := g) h0 h1
  omega
theorem gn_b {S x y c : Int} (h : -c ≤ S ∧ S ≤ c) : -c ≤ gn S x y ∧ gn S x y ≤ c := by
  unfold gn
  split
  · omega
  · split <;> omega
theorem gn_gt {S x y : Int} (h : y < x) : gn S x y = S := by unfold gn; rw [if_pos h]
theorem gn_lt {S x y : Int} (h : x < y) : gn S x y = -S := by unfold gn; rw [if_neg (by omega), if_pos h]
theorem gn_eq {S x y : Int} (h : x = y) : gn S x y = 0 := by unfold gn; rw [if_neg (by omega), if_neg (by omega)]
/-- what an open bid brings in the last round -/
def hO (S b : Int) : Int → Int := fun x => mnP (gn S x) (b + 1).toNat
theorem hO_b {S b x c : Int} (h : -c ≤ S ∧ S ≤ c) (hb : 0 ≤ b) (hc : c ≤ 1000000) : -c ≤ hO S b x ∧ hO S b x ≤ c := by
  have h1 := mnP_ge (g := gn S x) (v := -c) (n := (b + 1).toNat) (by omega) (fun i _ _ => (gn_b h).1)
  have h2 := mnP_le (g := gn S x) (n := (b + 1).toNat) (i := 0) (by omega) (by omega)
  have h3 := (gn_b (S := S) (x := x) (y := 0) h).2
  show -c ≤ mnP _ _ ∧ mnP _ _ ≤ c
  omega
theorem hO_le {S b x y : Int} (h0 : 0 ≤ y) (h1 : y ≤ b) : hO S b x ≤ gn S x y := mnP_le (g := gn S x) h0 (by omega)
theorem last_mm {S a b : Int} (hS : -5000 ≤ S ∧ S ≤ 5000) (ha : 0 ≤ a) (hb : 0 ≤ b) : mxP (hO S b) (a + 1).toNat = lastG S a b := by
  unfold lastG
  by_cases h1 : S ≤ 0
  · rw [if_pos (Or.inl h1)]
    refine mx_eq (y := 0) (by omega) (fun x x0 x1 => ?_) (by omega) (by omega) ?_
    · have h2 := hO_le (S := S) (b := b) (x := x) (y := 0) (by omega) hb
      by_cases z : x = 0
      · rw [gn_eq z] at h2; omega
      · rw [gn_gt (by omega)] at h2; omega
    · exact mn_eq (y := 0) (by omega) (fun y y0 y1 => by
        by_cases z : y = 0
        · rw [gn_eq z.symm]; omega
        · rw [gn_lt (by omega)]; omega) (by omega) (by omega) (gn_eq rfl)
  · by_cases h2 : a = b
    · rw [if_pos (Or.inr h2)]
      subst h2
      refine mx_eq (y := a) (by omega) (fun x x0 x1 => ?_) (by omega) (by omega) ?_
      · have h2 := hO_le (S := S) (b := a) (x := x) (y := x) x0 (by omega)
        rw [gn_eq rfl] at h2; exact h2
      · exact mn_eq (y := a) (by omega) (fun y y0 y1 => by
          by_cases z : a = y
          · rw [gn_eq z]; omega
          · rw [gn_gt (by omega)]; omega) (by omega) (by omega) (gn_eq rfl)
    · rw [if_neg (by omega)]
      by_cases h3 : b < a
      · rw [if_pos h3]
        refine mx_eq (y := b + 1) (by omega) (fun x x0 x1 => ?_) (by omega) (by omega) ?_
        · exact (hO_b (c := S) (by omega) hb (by omega)).2
        · exact mn_eq (y := 0) (by omega) (fun y y0 y1 => by rw [gn_gt (by omega)]; omega) (by omega) (by omega) (gn_gt (by omega))
      · rw [if_neg h3]
        refine mx_eq (y := 0) (by omega) (fun x x0 x1 => ?_) (by omega) (by omega) ?_
        · have h2 := hO_le (S := S) (b := b) (x := x) (y := x + 1) (by omega) (by omega)
          rw [gn_lt (by omega)] at h2; exact h2
        · exact mn_eq (y := 1) (by omega) (fun y y0 y1 => by
            by_cases z : y = 0
            · rw [gn_eq z.symm]; omega
            · rw [gn_lt (by omega)]; omega) (by omega) (by omega) (gn_lt (by omega))
def HOf (F F' : FM) : Prop := (∀ j, (j < 10 ∨ 15 < j) → F' 128 j = F 128 j) ∧ ∀ k, k ≠ 128 → F' k = F k
theorem HOf_TR {F G H : FM} (h : HOf F G) (h2 : TRf G H) : HOf F H := ⟨fun i hi => by rw [h2.1 i (by omega)]; exact h.1 i hi, fun k hk => by rw [h2.2 k hk]; exact h.2 k hk⟩
theorem HOf_tr {F G H : FM} (h : HOf F G) (h2 : HOf G H) : HOf F H := ⟨fun i hi => by rw [h2.1 i hi]; exact h.1 i hi, fun k hk => by rw [h2.2 k hk]; exact h.2 k hk⟩
theorem HOf_st {F G : FM} {v : Int} (h : HOf F G) : HOf F (stt G 128 15 v) := ⟨fun i hi => by rw [stt_j _ _ (by omega)]; exact h.1 i hi, fun k hk => by rw [stt_kr _ _ _ hk]; exact h.2 k hk⟩
set_option maxHeartbeats 2000000 in
theorem sp_mholdsOne {d : Nat} {kd : KL} {F : FM} {P : PM} {s : Int → Int} {own oth ahd pot tab nx : Int} (hd : 3 ≤ d) (hM : shM kd P) (h126 : F 129 = s) (hw : WF s) (ho : 0 ≤ own ∧ own ≤ 1000) (ht : 0 ≤ oth ∧ oth ≤ 999) (ha : -19000000 ≤ ahd ∧ ahd ≤ 19000000) (hp : 0 ≤ pot ∧ pot ≤ 1000) (hb : -1000 ≤ tab ∧ tab ≤ 1000) (hnx : 0 ≤ nx ∧ nx ≤ 1) : Sp d 119 [.inr (some 128), .inl own, .inl oth, .inl ahd, .inl pot, .inl tab, .inl nx] kd F P (QV kd P (fun r F' => (s 4 ≤ nx → r = ahd ∧ F' = F) ∧ (nx < s 4 → r = ahd + mxP (hO (tab + s (5 + nx)) oth) (own + 1).toNat ∧ F' 128 15 = abP (hO (tab + s (5 + nx)) oth) (own + 1).toNat) ∧ HOf F F')) := by
  refine Sp_of (me := mX8_holdsOne) (by omega) pX8_holdsOne ⟨rfl, Nat.le_of_ble_eq_true rfl⟩ ?_
  have hrow := hw.2.2.2.2.2.1 nx hnx.1
  obtain ⟨T, hT⟩ : ∃ T, T = tab + s (5 + nx) := ⟨_, rfl⟩
  rw [← hT]
  have inr : ∀ (N : Nat) (x y wst best : Int) (G : FM), nx < s 4 → (0 ≤ x ∧ x ≤ own) → 0 ≤ y → y ≤ oth + 1 → (1 ≤ y → wst = ahd + mnP (gn T x) y.toNat) → G 129 = s → HOf F G → (∀ G' : FM, G' 129 = s → G' 128 15 = G 128 15 → HOf F G' → Rn (d - 1) mX8_holdsOne 98 [some (.inr (some 128)), some (.inl own), some (.inl oth), some (.inl ahd), some (.inl pot), some (.inl tab), some (.inl nx), some (.inl best), some (.inl x), some (.inl (ahd + hO T oth x)), some (.inl (oth + 1))] [] kd G' P (QV kd P (fun r F' => (s 4 ≤ nx → r = ahd ∧ F' = F) ∧ (nx < s 4 → r = ahd + mxP (hO T oth) (own + 1).toNat ∧ F' 128 15 = abP (hO T oth) (own + 1).toNat) ∧ HOf F F'))) → oth + 1 - y < N → Rn (d - 1) mX8_holdsOne 36 [some (.inr (some 128)), some (.inl own), some (.inl oth), some (.inl ahd), some (.inl pot), some (.inl tab), some (.inl nx), some (.inl best), some (.inl x), some (.inl wst), some (.inl y)] [] kd G P (QV kd P (fun r F' => (s 4 ≤ nx → r = ahd ∧ F' = F) ∧ (nx < s 4 → r = ahd + mxP (hO T oth) (own + 1).toNat ∧ F' 128 15 = abP (hO T oth) (own + 1).toNat) ∧ HOf F F')) := by
    intro N
    induction N with
    | zero => intro x y wst best G h4 hx h0 h1 h2 g126 go K h8; omega
    | succ N ih =>
      intro x y wst best G h4 hx h0 h1 h2 g126 go K h8
      have hrw := hrow h4
      have hgb := gn_b (S := T) (x := x) (y := y) (c := 2000) (by omega)
      refine R_iload fX8_holdsOne_36 rfl ?_
      refine R_iload_n fX8_holdsOne_38 rfl ?_
      refine R_icmp_gt fX8_holdsOne_39 rfl (fun h39 => ?_) (fun h39 => ?_)
      · have hy : y = oth + 1 := by omega
        subst hy
        rw [show wst = ahd + hO T oth x from h2 (by omega)]
        exact K G g126 rfl go
      · refine R_aload_n fX8_holdsOne_42 rfl ?_
        refine R_iload_n fX8_holdsOne_43 rfl ?_
        refine R_iload_n fX8_holdsOne_44 rfl ?_
        refine R_iload_n fX8_holdsOne_45 rfl ?_
        refine R_iload fX8_holdsOne_46 rfl ?_
        refine R_iload fX8_holdsOne_48 rfl ?_
        refine R_aload_n fX8_holdsOne_50 rfl ?_
        refine R_getP 0 fX8_holdsOne_51 hM.1 (by omega) rfl rfl rfl hM.2.2.2.2.2.2.2.2.1 ?_
        refine R_iconst fX8_holdsOne_54 ?_
        refine R_iload fX8_holdsOne_55 rfl ?_
        refine R_iadd fX8_holdsOne_57 (by omega) ?_
        refine R_iaload fX8_holdsOne_58 hM.2.1 (by omega) ?_
        rw [g126]
        refine R_iadd fX8_holdsOne_59 (by omega) ?_
        rw [← hT]
        refine R_iload fX8_holdsOne_60 rfl ?_
        refine R_iload fX8_holdsOne_62 rfl ?_
        refine R_callN fX8_holdsOne_64 rfl rfl pX8_tries rfl ⟨Nat.le_of_ble_eq_true rfl, rcv_v rfl (by omega) hM.1⟩ (sp_mtries (by omega) hM g126 hw ho (by omega) (by omega) hp (by omega) (by omega) (by omega)) (fun F1 q => ?_)
        obtain ⟨q1, q2, q3, q4, q5, q6⟩ := q
        clear q1 q2 q4 q5
        refine R_iload fX8_holdsOne_67 rfl ?_
        refine R_if_eq fX8_holdsOne_69 rfl (fun h69 => ?_) (fun h69 => ?_)
        · refine R_aload_n fX8_holdsOne_81 rfl ?_
          refine R_getI 12 fX8_holdsOne_82 hM.1 (by omega) rfl rfl rfl ?_
          rw [q3]
          refine R_goto fX8_holdsOne_85 rfl ?_
          refine R_istore fX8_holdsOne_90 rfl ?_
          refine R_iinc fX8_holdsOne_92 rfl (by omega) ?_
          refine R_goto fX8_holdsOne_95 rfl ?_
          have hm := mnP_s (g := gn T x) (i := y) (by omega)
          have hm0 : y = 0 → mnP (gn T x) y.toNat = 1000000 := fun z => by rw [z]; rfl
          have f15 : F1 128 15 = G 128 15 := q6.1 15 (by omega)
          have f126 : F1 129 = s := by rw [q6.2 129 (by omega)]; exact g126
          first
          | (rw [if_pos (by omega)] at hm
             exact ih _ _ _ _ _ h4 hx (by omega) (by omega) (fun _ => by omega) f126 (HOf_TR go q6) (fun G' a b c => K G' a (b.trans f15) c) (by omega))
          | (rw [if_neg (by omega)] at hm
             exact ih _ _ _ _ _ h4 hx (by omega) (by omega) (fun _ => by omega) f126 (HOf_TR go q6) (fun G' a b c => K G' a (b.trans f15) c) (by omega))
        · refine R_aload_n fX8_holdsOne_72 rfl ?_
          refine R_getI 12 fX8_holdsOne_73 hM.1 (by omega) rfl rfl rfl ?_
          rw [q3]
          refine R_iload fX8_holdsOne_76 rfl ?_
          refine R_icmp_ge fX8_holdsOne_78 rfl (fun h78 => ?_) (fun h78 => ?_)
          · refine R_iload fX8_holdsOne_88 rfl ?_
            refine R_istore fX8_holdsOne_90 rfl ?_
            refine R_iinc fX8_holdsOne_92 rfl (by omega) ?_
            refine R_goto fX8_holdsOne_95 rfl ?_
            have hm := mnP_s (g := gn T x) (i := y) (by omega)
            have hm0 : y = 0 → mnP (gn T x) y.toNat = 1000000 := fun z => by rw [z]; rfl
            have f15 : F1 128 15 = G 128 15 := q6.1 15 (by omega)
            have f126 : F1 129 = s := by rw [q6.2 129 (by omega)]; exact g126
            first
            | (rw [if_pos (by omega)] at hm
               exact ih _ _ _ _ _ h4 hx (by omega) (by omega) (fun _ => by omega) f126 (HOf_TR go q6) (fun G' a b c => K G' a (b.trans f15) c) (by omega))
            | (rw [if_neg (by omega)] at hm
               exact ih _ _ _ _ _ h4 hx (by omega) (by omega) (fun _ => by omega) f126 (HOf_TR go q6) (fun G' a b c => K G' a (b.trans f15) c) (by omega))
          · refine R_aload_n fX8_holdsOne_81 rfl ?_
            refine R_getI 12 fX8_holdsOne_82 hM.1 (by omega) rfl rfl rfl ?_
            rw [q3]
            refine R_goto fX8_holdsOne_85 rfl ?_
            refine R_istore fX8_holdsOne_90 rfl ?_
            refine R_iinc fX8_holdsOne_92 rfl (by omega) ?_
            refine R_goto fX8_holdsOne_95 rfl ?_
            have hm := mnP_s (g := gn T x) (i := y) (by omega)
            have hm0 : y = 0 → mnP (gn T x) y.toNat = 1000000 := fun z => by rw [z]; rfl
            have f15 : F1 128 15 = G 128 15 := q6.1 15 (by omega)
            have f126 : F1 129 = s := by rw [q6.2 129 (by omega)]; exact g126
            first
            | (rw [if_pos (by omega)] at hm
               exact ih _ _ _ _ _ h4 hx (by omega) (by omega) (fun _ => by omega) f126 (HOf_TR go q6) (fun G' a b c => K G' a (b.trans f15) c) (by omega))
            | (rw [if_neg (by omega)] at hm
               exact ih _ _ _ _ _ h4 hx (by omega) (by omega) (fun _ => by omega) f126 (HOf_TR go q6) (fun G' a b c => K G' a (b.trans f15) c) (by omega))
  have otr : ∀ (N : Nat) (x best : Int) (j9 j10 : Option AV) (G : FM), nx < s 4 → 0 ≤ x → x ≤ own + 1 → (x = 0 → G 128 15 = -1) → (1 ≤ x → best = ahd + mxP (hO T oth) x.toNat ∧ G 128 15 = abP (hO T oth) x.toNat) → G 129 = s → HOf F G → own + 1 - x < N → Rn (d - 1) mX8_holdsOne 24 [some (.inr (some 128)), some (.inl own), some (.inl oth), some (.inl ahd), some (.inl pot), some (.inl tab), some (.inl nx), some (.inl best), some (.inl x), j9, j10] [] kd G P (QV kd P (fun r F' => (s 4 ≤ nx → r = ahd ∧ F' = F) ∧ (nx < s 4 → r = ahd + mxP (hO T oth) (own + 1).toNat ∧ F' 128 15 = abP (hO T oth) (own + 1).toNat) ∧ HOf F F')) := by
    intro N
    induction N with
    | zero => intro x best j9 j10 G h4 h0 h1 h2 h3 g126 go h8; omega
    | succ N ih =>
      intro x best j9 j10 G h4 h0 h1 h2 h3 g126 go h8
      have hrw := hrow h4
      have hob := hO_b (S := T) (b := oth) (x := x) (c := 2000) (by omega) (by omega) (by omega)
      have hms := mxP_s (g := hO T oth) (i := x) h0
      have has := abP_s (g := hO T oth) (i := x) h0
      have hm0 : x = 0 → mxP (hO T oth) x.toNat = -1000000 := fun z => by rw [z]; rfl
      have hai := (abP_in (h := hO T oth) (n := x.toNat)).1
      refine R_iload fX8_holdsOne_24 rfl ?_
      refine R_iload_n fX8_holdsOne_26 rfl ?_
      refine R_icmp_gt fX8_holdsOne_27 rfl (fun h27 => ?_) (fun h27 => ?_)
      · refine R_iload fX8_holdsOne_128 rfl ?_
        refine R_ireturn fX8_holdsOne_130 rfl ?_
        have hx : x = own + 1 := by omega
        subst hx
        obtain ⟨y1, y2⟩ := h3 (by omega)
        exact ⟨_, _, rfl, fun z => absurd h4 (by omega), fun _ => ⟨y1, y2⟩, go⟩
      · refine R_iconst fX8_holdsOne_30 ?_
        refine R_istore fX8_holdsOne_31 rfl ?_
        refine R_iconst fX8_holdsOne_33 ?_
        refine R_istore fX8_holdsOne_34 rfl ?_
        refine inr 2000 x 0 0 best G h4 (by omega) (by omega) (by omega) (fun z => by omega) g126 go (fun G' a15 b15 c15 => ?_) (by omega)
        refine R_aload_n fX8_holdsOne_98 rfl ?_
        refine R_getI 15 fX8_holdsOne_99 hM.1 (by omega) rfl rfl rfl ?_
        rw [b15]
        refine R_if_lt fX8_holdsOne_102 rfl (fun h102 => ?_) (fun h102 => ?_)
        · refine R_iload fX8_holdsOne_112 rfl ?_
          refine R_istore fX8_holdsOne_114 rfl ?_
          refine R_aload_n fX8_holdsOne_116 rfl ?_
          refine R_iload fX8_holdsOne_117 rfl ?_
          refine R_putI 15 fX8_holdsOne_119 hM.1 (by omega) rfl rfl rfl ?_
          refine R_iinc fX8_holdsOne_122 rfl (by omega) ?_
          refine R_goto fX8_holdsOne_125 rfl ?_
          first
          | (rw [if_pos (by omega)] at hms has
             exact ih _ _ _ _ _ h4 (by omega) (by omega) (fun z => by omega) (fun _ => ⟨by omega, by rw [stt_eq]; exact has.symm⟩) (by rw [stt_kr _ _ _ (by omega)]; exact a15) (HOf_st c15) (by omega))
          | (rw [if_neg (by omega)] at hms has
             exact ih _ _ _ _ _ h4 (by omega) (by omega) (fun z => by omega) (fun _ => ⟨by omega, by omega⟩) a15 c15 (by omega))
        · refine R_iload fX8_holdsOne_105 rfl ?_
          refine R_iload fX8_holdsOne_107 rfl ?_
          refine R_icmp_le fX8_holdsOne_109 rfl (fun h109 => ?_) (fun h109 => ?_)
          · refine R_iinc fX8_holdsOne_122 rfl (by omega) ?_
            refine R_goto fX8_holdsOne_125 rfl ?_
            first
            | (rw [if_pos (by omega)] at hms has
               exact ih _ _ _ _ _ h4 (by omega) (by omega) (fun z => by omega) (fun _ => ⟨by omega, by rw [stt_eq]; exact has.symm⟩) (by rw [stt_kr _ _ _ (by omega)]; exact a15) (HOf_st c15) (by omega))
            | (rw [if_neg (by omega)] at hms has
               exact ih _ _ _ _ _ h4 (by omega) (by omega) (fun z => by omega) (fun _ => ⟨by omega, by omega⟩) a15 c15 (by omega))
          · refine R_iload fX8_holdsOne_112 rfl ?_
            refine R_istore fX8_holdsOne_114 rfl ?_
            refine R_aload_n fX8_holdsOne_116 rfl ?_
            refine R_iload fX8_holdsOne_117 rfl ?_
            refine R_putI 15 fX8_holdsOne_119 hM.1 (by omega) rfl rfl rfl ?_
            refine R_iinc fX8_holdsOne_122 rfl (by omega) ?_
            refine R_goto fX8_holdsOne_125 rfl ?_
            first
            | (rw [if_pos (by omega)] at hms has
               exact ih _ _ _ _ _ h4 (by omega) (by omega) (fun z => by omega) (fun _ => ⟨by omega, by rw [stt_eq]; exact has.symm⟩) (by rw [stt_kr _ _ _ (by omega)]; exact a15) (HOf_st c15) (by omega))
            | (rw [if_neg (by omega)] at hms has
               exact ih _ _ _ _ _ h4 (by omega) (by omega) (fun z => by omega) (fun _ => ⟨by omega, by omega⟩) a15 c15 (by omega))
  refine R_iload fX8_holdsOne_0 rfl ?_
  refine R_aload_n fX8_holdsOne_2 rfl ?_
  refine R_getP 0 fX8_holdsOne_3 hM.1 (by omega) rfl rfl rfl hM.2.2.2.2.2.2.2.2.1 ?_
  refine R_iconst fX8_holdsOne_6 ?_
  refine R_iaload fX8_holdsOne_7 hM.2.1 (by omega) ?_
  rw [h126]
  refine R_icmp_lt fX8_holdsOne_8 rfl (fun h8 => ?_) (fun h8 => ?_)
  · refine R_iconst fX8_holdsOne_13 ?_
    refine R_istore fX8_holdsOne_14 rfl ?_
    refine R_aload_n fX8_holdsOne_16 rfl ?_
    refine R_iconst fX8_holdsOne_17 ?_
    refine R_putI 15 fX8_holdsOne_18 hM.1 (by omega) rfl rfl rfl ?_
    refine R_iconst fX8_holdsOne_21 ?_
    refine R_istore fX8_holdsOne_22 rfl ?_
    exact otr 2000 0 0 _ _ _ (by omega) (by omega) (by omega) (fun _ => stt_eq _ _ _ _) (fun z => by omega) (by rw [stt_kr _ _ _ (by omega)]; exact h126) (HOf_st ⟨fun _ _ => rfl, fun _ _ => rfl⟩) (by omega)
  · refine R_iload_n fX8_holdsOne_11 rfl ?_
    refine R_ireturn fX8_holdsOne_12 rfl ?_
    exact ⟨_, _, rfl, fun _ => ⟨rfl, rfl⟩, fun z => absurd z (by omega), ⟨fun _ _ => rfl, fun _ _ => rfl⟩⟩
