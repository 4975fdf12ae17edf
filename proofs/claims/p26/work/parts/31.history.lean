/-! ## the history -/
theorem stp_eq (P : PM) (k : Nat) (j : Int) (v : Option Nat) : stp_ P k j v k j = v := by unfold stp_; rw [if_pos ⟨rfl, rfl⟩]
theorem stp_k (P : PM) {k a : Nat} (j b : Int) (v : Option Nat) (h : a ≠ k) : stp_ P k j v a b = P a b := by unfold stp_; rw [if_neg (fun z => h z.1)]
theorem stp_kr (P : PM) {k a : Nat} (j : Int) (v : Option Nat) (h : a ≠ k) : stp_ P k j v a = P a := funext fun b => stp_k P j b v h
theorem stp_j (P : PM) {k a : Nat} {j b : Int} (v : Option Nat) (h : b ≠ j) : stp_ P k j v a b = P a b := by unfold stp_; rw [if_neg (fun z => h z.2)]
/-- answers that are rows; pointers may change -/
def QP (kd : KL) (post : Nat → FM → PM → Prop) : RS → Prop := fun rs => ∃ v F' P', rs = (some (.inr (some v)), kd, F', P') ∧ post v F' P'
def QI (kd : KL) (post : Int → FM → PM → Prop) : RS → Prop := fun rs => ∃ v F' P', rs = (some (.inl v), kd, F', P') ∧ post v F' P'
theorem QI_of {kd : KL} {P : PM} {post : Int → FM → Prop} {post' : Int → FM → PM → Prop} (h : ∀ v F', post v F' → post' v F' P) : ∀ rs, QV kd P post rs → QI kd post' rs := fun rs q => by
  obtain ⟨v, F', e, hq⟩ := q
  exact ⟨v, F', P, e, h v F' hq⟩
section CALLRULES2
variable {d : Nat} {me : ME} {pc : Nat} {L : LV} {S : List AV} {kd : KL} {F : FM} {P : PM} {Q : RS → Prop} {ri : RI} {ins : Instr} {len i : Nat} {ce : ME} {as S' : List AV}
theorem R_callP {post : Nat → FM → PM → Prop} (h : ftc pc (me_ci me) = some (pc, ins, len, ri)) (hf : isFin ins = false) (hc : cal ri ins = some i) (hp : pg i = some ce) (hs : spl (nar ce) S = some (as, S')) (hb : S'.length ≤ 8 ∧ rcv ce kd as = true) (hS : Sp d i as kd F P (QP kd post)) (k : ∀ v F' P', post v F' P' → Rn d me (pc + 3) L (.inr (some v) :: S') kd F' P' Q) : Rn d me pc L S kd F P Q :=
  R_call h hf hc hp hs hb hS (fun r kd1 F1 P1 hq => by obtain ⟨v, F', P', e, hp⟩ := hq; cases e; exact k v F1 P1 hp)
theorem R_callI {post : Int → FM → PM → Prop} (h : ftc pc (me_ci me) = some (pc, ins, len, ri)) (hf : isFin ins = false) (hc : cal ri ins = some i) (hp : pg i = some ce) (hs : spl (nar ce) S = some (as, S')) (hb : S'.length ≤ 8 ∧ rcv ce kd as = true) (hS : Sp d i as kd F P (QI kd post)) (k : ∀ v F' P', post v F' P' → Rn d me (pc + 3) L (.inl v :: S') kd F' P' Q) : Rn d me pc L S kd F P Q :=
  R_call h hf hc hp hs hb hS (fun r kd1 F1 P1 hq => by obtain ⟨v, F', P', e, hp⟩ := hq; cases e; exact k v F1 P1 hp)
end CALLRULES2
/-- the history at H, its places at A, holding the rows of h -/
def shH (kd : KL) (P : PM) (H A : Nat) : Prop := 3 ≤ H ∧ 3 ≤ A ∧ A ≠ H ∧ kd[H]? = some (3, 2) ∧ kd[A]? = some (1, 4) ∧ P H 0 = some A
theorem sp_histAdd {d : Nat} {kd : KL} {F : FM} {P : PM} {H A B : Nat} {h : Int → Nat} (hd : 1 ≤ d) (hH : shH kd P H A) (hh : ∀ j, 0 ≤ j → j < 4 → P A j = some (h j) ∧ 3 ≤ h j ∧ kd[h j]? = some (7, 17)) (hn : 0 ≤ F H 1 ∧ F H 1 ≤ 4) (hB : 3 ≤ B ∧ kd[B]? = some (7, 17)) : Sp d 8 [.inr (some H), .inr (some B)] kd F P (QP kd (fun v F' P' => if F H 1 < 4 then v = h (F H 1) ∧ F' = stt F H 1 (F H 1 + 1) ∧ P' = stp_ P A (F H 1) (some B) else v = h 0 ∧ F' = F ∧ (∀ j, 0 ≤ j → j < 3 → P' A j = some (h (j + 1))) ∧ P' A 3 = some B ∧ ∀ k, k ≠ A → P' k = P k)) := by
  refine Sp_of (me := mX1_add) (by omega) pX1_add ⟨rfl, Nat.le_of_ble_eq_true rfl⟩ ?_
  have lp : ∀ (N : Nat) (i : Int) (P1 : PM), 4 ≤ F H 1 → 1 ≤ i → i ≤ 4 → (∀ j, 0 ≤ j → j < i - 1 → P1 A j = some (h (j + 1))) → (∀ j, i ≤ j → P1 A j = P A j) → (∀ k, k ≠ A → P1 k = P k) → 4 - i < N → Rn (d - 1) mX1_add 49 [some (.inr (some H)), some (.inr (some B)), some (.inr (some (h 0))), some (.inl i)] [] kd F P1 (QP kd (fun v F' P' => if F H 1 < 4 then v = h (F H 1) ∧ F' = stt F H 1 (F H 1 + 1) ∧ P' = stp_ P A (F H 1) (some B) else v = h 0 ∧ F' = F ∧ (∀ j, 0 ≤ j → j < 3 → P' A j = some (h (j + 1))) ∧ P' A 3 = some B ∧ ∀ k, k ≠ A → P' k = P k)) := by
    intro N
    induction N with
    | zero => intro i P1 hF h0 h1 h2 h3 h4 h5; omega
    | succ N ih =>
      intro i P1 hF h0 h1 h2 h3 h4 h5
      have e0 : P1 H 0 = some A := by rw [h4 H (fun z => hH.2.2.1 z.symm)]; exact hH.2.2.2.2.2
      refine R_iload_n fX1_add_49 rfl ?_
      refine R_iconst fX1_add_50 ?_
      refine R_icmp_ge fX1_add_51 rfl (fun h51 => ?_) (fun h51 => ?_)
      · refine R_aload_n fX1_add_74 rfl ?_
        refine R_getP 0 fX1_add_75 hH.2.2.2.1 hH.1 rfl rfl rfl e0 ?_
        refine R_iconst fX1_add_78 ?_
        refine R_aload_n fX1_add_79 rfl ?_
        refine R_aastore fX1_add_80 hH.2.2.2.2.1 hH.2.1 (by omega) ⟨hB.1, hB.2⟩ ?_
        refine R_aload_n fX1_add_81 rfl ?_
        refine R_areturn fX1_add_82 rfl ?_
        have hi : i = 4 := by omega
        subst hi
        refine ⟨_, _, _, rfl, ?_⟩
        dsimp only
        rw [if_neg (by omega)]
        refine ⟨rfl, rfl, fun j j0 j1 => ?_, stp_eq _ _ _ _, fun k hk => ?_⟩
        · rw [stp_j _ _ (by omega)]; exact h2 j j0 (by omega)
        · rw [stp_kr _ _ _ hk]; exact h4 k hk
      · refine R_aload_n fX1_add_54 rfl ?_
        refine R_getP 0 fX1_add_55 hH.2.2.2.1 hH.1 rfl rfl rfl e0 ?_
        refine R_iload_n fX1_add_58 rfl ?_
        refine R_iconst fX1_add_59 ?_
        refine R_isub fX1_add_60 (by omega) ?_
        refine R_aload_n fX1_add_61 rfl ?_
        refine R_getP 0 fX1_add_62 hH.2.2.2.1 hH.1 rfl rfl rfl e0 ?_
        refine R_iload_n fX1_add_65 rfl ?_
        refine R_aaload fX1_add_66 hH.2.2.2.2.1 hH.2.1 (by omega) ((h3 i (by omega)).trans (hh i (by omega) (by omega)).1) ?_
        refine R_aastore fX1_add_67 hH.2.2.2.2.1 hH.2.1 (by omega) ⟨(hh i (by omega) (by omega)).2.1, (hh i (by omega) (by omega)).2.2⟩ ?_
        refine R_iinc fX1_add_68 rfl (by omega) ?_
        refine R_goto fX1_add_71 rfl ?_
        refine ih _ _ hF (by omega) (by omega) (fun j j0 j1 => ?_) (fun j j0 => ?_) (fun k hk => ?_) (by omega)
        · by_cases hj : j = i - 1
          · rw [hj, stp_eq, show i - 1 + 1 = i by omega]
          · rw [stp_j _ _ hj]; exact h2 j j0 (by omega)
        · rw [stp_j _ _ (by omega)]; exact h3 j (by omega)
        · rw [stp_kr _ _ _ hk]; exact h4 k hk
  refine R_aload_n fX1_add_0 rfl ?_
  refine R_getI 1 fX1_add_1 hH.2.2.2.1 hH.1 rfl rfl rfl ?_
  refine R_iconst fX1_add_4 ?_
  refine R_icmp_ge fX1_add_5 rfl (fun h5 => ?_) (fun h5 => ?_)
  · refine R_aload_n fX1_add_40 rfl ?_
    refine R_getP 0 fX1_add_41 hH.2.2.2.1 hH.1 rfl rfl rfl hH.2.2.2.2.2 ?_
    refine R_iconst fX1_add_44 ?_
    refine R_aaload fX1_add_45 hH.2.2.2.2.1 hH.2.1 (by omega) (hh 0 (by omega) (by omega)).1 ?_
    refine R_astore_n fX1_add_46 rfl ?_
    refine R_iconst fX1_add_47 ?_
    refine R_istore_n fX1_add_48 rfl ?_
    exact lp 5 1 P (by omega) (by omega) (by omega) (fun j a b => by omega) (fun _ _ => rfl) (fun _ _ => rfl) (by omega)
  · refine R_aload_n fX1_add_8 rfl ?_
    refine R_getP 0 fX1_add_9 hH.2.2.2.1 hH.1 rfl rfl rfl hH.2.2.2.2.2 ?_
    refine R_aload_n fX1_add_12 rfl ?_
    refine R_getI 1 fX1_add_13 hH.2.2.2.1 hH.1 rfl rfl rfl ?_
    refine R_aaload fX1_add_16 hH.2.2.2.2.1 hH.2.1 (by omega) (hh (F H 1) (by omega) (by omega)).1 ?_
    refine R_astore_n fX1_add_17 rfl ?_
    refine R_aload_n fX1_add_18 rfl ?_
    refine R_getP 0 fX1_add_19 hH.2.2.2.1 hH.1 rfl rfl rfl hH.2.2.2.2.2 ?_
    refine R_aload_n fX1_add_22 rfl ?_
    refine R_getI 1 fX1_add_23 hH.2.2.2.1 hH.1 rfl rfl rfl ?_
    refine R_aload_n fX1_add_26 rfl ?_
    refine R_aastore fX1_add_27 hH.2.2.2.2.1 hH.2.1 (by omega) ⟨hB.1, hB.2⟩ ?_
    refine R_aload_n fX1_add_28 rfl ?_
    refine R_dup fX1_add_29 ?_
    refine R_getI 1 fX1_add_30 hH.2.2.2.1 hH.1 rfl rfl rfl ?_
    refine R_iconst fX1_add_33 ?_
    refine R_iadd fX1_add_34 (by omega) ?_
    refine R_putI 1 fX1_add_35 hH.2.2.2.1 hH.1 rfl rfl rfl ?_
    refine R_aload_n fX1_add_38 rfl ?_
    refine R_areturn fX1_add_39 rfl ?_
    refine ⟨_, _, _, rfl, ?_⟩
    dsimp only
    rw [if_pos (by omega)]
    exact ⟨rfl, rfl, rfl⟩
