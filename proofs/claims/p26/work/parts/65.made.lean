/-! ## what is made: lists of cells that grow -/
theorem ap_new {kd l : KL} {n j : Nat} (h : kd.length = n) : (kd ++ l)[n + j]? = l[j]? := by
  subst h
  rw [List.getElem?_append_right (by omega), Nat.add_sub_cancel_left]
theorem ap_old {kd l : KL} {j : Nat} (h : j < kd.length) : (kd ++ l)[j]? = kd[j]? := List.getElem?_append_left h
theorem clF_eq (F : FM) (k : Nat) : clF F k k = fun _ => 0 := by funext b; unfold clF; rw [if_pos rfl]
theorem clF_ne (F : FM) {k a : Nat} (h : a ≠ k) : clF F k a = F a := by funext b; unfold clF; rw [if_neg h]
theorem clP_eq (P : PM) (k : Nat) (j : Int) : clP P k k j = none := by unfold clP; rw [if_pos rfl]
theorem clP_ne (P : PM) {k a : Nat} (h : a ≠ k) : clP P k a = P a := by funext b; unfold clP; rw [if_neg h]
section NEWRULES
variable {d : Nat} {me : ME} {pc : Nat} {L : LV} {S : List AV} {kd l l' : KL} {F : FM} {P : PM} {Q : RS → Prop} {ri : RI}
theorem R_newA {n : Int} {q : Nat} (h : ftc pc (me_ci me) = some (pc, .newarray .int, 2, ri)) (hb : 0 ≤ n ∧ n ≤ 100000) (hq : kd.length + l.length = q) (hl : l ++ [(0, n.toNat)] = l') (kk : Rn d me (pc + 2) L (.inr (some q) :: S) (kd ++ l') (clF F q) P Q) : Rn d me pc L (.inl n :: S) (kd ++ l) F P Q := by
  refine R_newarray h hb ?_
  rw [List.length_append, List.append_assoc, hq, hl]
  exact kk
theorem R_newO {ci n w q : Nat} {x : Int} {idx : Nat} (h : ftc pc (me_ci me) = some (pc, .new idx, 3, (ci, n, w, x))) (hq : kd.length + l.length = q) (hl : l ++ [(ci + 2, n)] = l') (kk : Rn d me (pc + 3) L (.inr (some q) :: S) (kd ++ l') (clF F q) (clP P q) Q) : Rn d me pc L S (kd ++ l) F P Q := by
  refine R_new h ?_
  rw [List.length_append, List.append_assoc, hq, hl]
  exact kk
theorem R_newP {n : Int} {idx q : Nat} (h : ftc pc (me_ci me) = some (pc, .anewarray idx, 3, ri)) (hb : 0 ≤ n ∧ n ≤ 100000) (hq : kd.length + l.length = q) (hl : l ++ [(1, n.toNat)] = l') (kk : Rn d me (pc + 3) L (.inr (some q) :: S) (kd ++ l') F (clP P q) Q) : Rn d me pc L (.inl n :: S) (kd ++ l) F P Q := by
  refine R_anewarray h hb ?_
  rw [List.length_append, List.append_assoc, hq, hl]
  exact kk
theorem R_newA1 {n : Int} {q : Nat} (h : ftc pc (me_ci me) = some (pc, .newarray .int, 2, ri)) (hb : 0 ≤ n ∧ n ≤ 100000) (hq : kd.length = q) (hl : [(0, n.toNat)] = l') (kk : Rn d me (pc + 2) L (.inr (some q) :: S) (kd ++ l') (clF F q) P Q) : Rn d me pc L (.inl n :: S) kd F P Q := by
  subst hq hl
  exact R_newarray h hb kk
theorem R_newO1 {ci n w q : Nat} {x : Int} {idx : Nat} (h : ftc pc (me_ci me) = some (pc, .new idx, 3, (ci, n, w, x))) (hq : kd.length = q) (hl : [(ci + 2, n)] = l') (kk : Rn d me (pc + 3) L (.inr (some q) :: S) (kd ++ l') (clF F q) (clP P q) Q) : Rn d me pc L S kd F P Q := by
  subst hq hl
  exact R_new h kk
theorem R_newP1 {n : Int} {idx q : Nat} (h : ftc pc (me_ci me) = some (pc, .anewarray idx, 3, ri)) (hb : 0 ≤ n ∧ n ≤ 100000) (hq : kd.length = q) (hl : [(1, n.toNat)] = l') (kk : Rn d me (pc + 3) L (.inr (some q) :: S) (kd ++ l') F (clP P q) Q) : Rn d me pc L (.inl n :: S) kd F P Q := by
  subst hq hl
  exact R_anewarray h hb kk
/-- a call whose answer is none and whose cells may grow -/
theorem R_callG {ins : Instr} {len i : Nat} {ce : ME} {as S' : List AV} {post : KL → FM → PM → Prop} (h : ftc pc (me_ci me) = some (pc, ins, len, ri)) (hf : isFin ins = false) (hc : cal ri ins = some i) (hp : pg i = some ce) (hs : spl (nar ce) S = some (as, S')) (hb : S'.length ≤ 8 ∧ rcv ce kd as = true) (hS : Sp d i as kd F P (fun rs => ∃ kd' F' P', rs = (none, kd', F', P') ∧ post kd' F' P')) (k : ∀ kd' F' P', post kd' F' P' → Rn d me (pc + 3) L S' kd' F' P' Q) : Rn d me pc L S kd F P Q :=
  R_call h hf hc hp hs hb hS (fun r kd1 F1 P1 hq => by obtain ⟨kd', F', P', e, hp⟩ := hq; cases e; exact k _ _ _ hp)
end NEWRULES
theorem nil_ap {kd : KL} : kd = kd ++ [] := (List.append_nil kd).symm
def QG (post : KL → FM → PM → Prop) : RS → Prop := fun rs => ∃ kd' F' P', rs = (none, kd', F', P') ∧ post kd' F' P'
/-- nothing but the rows from B on -/
def LT (B : Nat) (F F' : FM) (P P' : PM) : Prop := ∀ k, k < B → F' k = F k ∧ P' k = P k
theorem LT_rfl {B : Nat} {F : FM} {P : PM} : LT B F F P P := fun _ _ => ⟨rfl, rfl⟩
theorem LT_tr {B C : Nat} {F F' F'' : FM} {P P' P'' : PM} (h : LT B F F' P P') (h2 : LT C F' F'' P' P'') (hc : B ≤ C) : LT B F F'' P P'' := fun k hk => ⟨by rw [(h2 k (by omega)).1, (h k hk).1], by rw [(h2 k (by omega)).2, (h k hk).2]⟩
theorem LT_clF {B q : Nat} {F F' : FM} {P P' : PM} (h : LT B F F' P P') (hq : B ≤ q) : LT B F (clF F' q) P P' := fun k hk => ⟨by rw [clF_ne _ (by omega)]; exact (h k hk).1, (h k hk).2⟩
theorem LT_clP {B q : Nat} {F F' : FM} {P P' : PM} (h : LT B F F' P P') (hq : B ≤ q) : LT B F F' P (clP P' q) := fun k hk => ⟨(h k hk).1, by rw [clP_ne _ (by omega)]; exact (h k hk).2⟩
theorem LT_sp {B q : Nat} {F F' : FM} {P P' : PM} {j : Int} {v : Option Nat} (h : LT B F F' P P') (hq : B ≤ q) : LT B F F' P (stp_ P' q j v) := fun k hk => ⟨(h k hk).1, by rw [stp_kr _ _ _ (by omega)]; exact (h k hk).2⟩
theorem LT_st {B q : Nat} {F F' : FM} {P P' : PM} {j v : Int} (h : LT B F F' P P') (hq : B ≤ q) : LT B F (stt F' q j v) P P' := fun k hk => ⟨by rw [stt_kr _ _ _ (by omega)]; exact (h k hk).1, (h k hk).2⟩
theorem LT_cp {B q a : Nat} {F F' : FM} {P P' : PM} {sp dp n : Int} (h : LT B F F' P P') (hq : B ≤ q) : LT B F (cpF F' a sp q dp n) P P' := fun k hk => ⟨by rw [cpF_kr _ (by omega)]; exact (h k hk).1, (h k hk).2⟩
theorem sp_iLog {d : Nat} {kd : KL} {F : FM} {P : PM} {B : Nat} (hd : 2 ≤ d) (h3 : 3 ≤ B) (hk : kd[B]? = some (6, 3)) (hl : kd.length = B + 1) : Sp d 22 [.inr (some B)] kd F P (QG (fun kd' F' P' => kd' = kd ++ [(0, 96)] ∧ F' = (clF F (B + 1)) ∧ P' = (stp_ P B 0 (some (B + 1))))) := by
  refine Sp_of (me := mX4_init) (by omega) pX4_init ⟨rfl, Nat.le_of_ble_eq_true rfl⟩ ?_
  refine R_aload_n fX4_init_0 rfl ?_
  refine R_objinit fX4_init_1 (by omega) ?_
  refine R_aload_n fX4_init_4 rfl ?_
  refine R_bipush fX4_init_5 ?_
  refine R_newA1 fX4_init_7 (by decide) (q := B + 1) (by rw [hl]) (l' := [(0, 96)]) rfl ?_
  refine R_putP 0 fX4_init_9 ((ap_old (by omega)).trans hk) h3 rfl rfl rfl ?_
  refine R_return fX4_init_12 rfl ?_
  exact ⟨_, _, _, rfl, rfl, rfl, rfl⟩
theorem sp_iPairs {d : Nat} {kd : KL} {F : FM} {P : PM} {B : Nat} (hd : 2 ≤ d) (h3 : 3 ≤ B) (hk : kd[B]? = some (5, 5)) (hl : kd.length = B + 1) : Sp d 16 [.inr (some B)] kd F P (QG (fun kd' F' P' => kd' = kd ++ [(0, 484), (0, 484), (0, 484), (0, 484)] ∧ F' = (clF (clF (clF (clF F (B + 1)) (B + 2)) (B + 3)) (B + 4)) ∧ P' = (stp_ (stp_ (stp_ (stp_ P B 0 (some (B + 1))) B 1 (some (B + 2))) B 2 (some (B + 3))) B 3 (some (B + 4))))) := by
  refine Sp_of (me := mX3_init) (by omega) pX3_init ⟨rfl, Nat.le_of_ble_eq_true rfl⟩ ?_
  refine R_aload_n fX3_init_0 rfl ?_
  refine R_objinit fX3_init_1 (by omega) ?_
  refine R_aload_n fX3_init_4 rfl ?_
  refine R_sipush fX3_init_5 ?_
  refine R_newA1 fX3_init_8 (by decide) (q := B + 1) (by rw [hl]) (l' := [(0, 484)]) rfl ?_
  refine R_putP 0 fX3_init_10 ((ap_old (by omega)).trans hk) h3 rfl rfl rfl ?_
  refine R_aload_n fX3_init_13 rfl ?_
  refine R_sipush fX3_init_14 ?_
  refine R_newA fX3_init_17 (by decide) (q := B + 2) (by rw [hl]; rfl) (l' := [(0, 484), (0, 484)]) rfl ?_
  refine R_putP 1 fX3_init_19 ((ap_old (by omega)).trans hk) h3 rfl rfl rfl ?_
  refine R_aload_n fX3_init_22 rfl ?_
  refine R_sipush fX3_init_23 ?_
  refine R_newA fX3_init_26 (by decide) (q := B + 3) (by rw [hl]; rfl) (l' := [(0, 484), (0, 484), (0, 484)]) rfl ?_
  refine R_putP 2 fX3_init_28 ((ap_old (by omega)).trans hk) h3 rfl rfl rfl ?_
  refine R_aload_n fX3_init_31 rfl ?_
  refine R_sipush fX3_init_32 ?_
  refine R_newA fX3_init_35 (by decide) (q := B + 4) (by rw [hl]; rfl) (l' := [(0, 484), (0, 484), (0, 484), (0, 484)]) rfl ?_
  refine R_putP 3 fX3_init_37 ((ap_old (by omega)).trans hk) h3 rfl rfl rfl ?_
  refine R_return fX3_init_40 rfl ?_
  exact ⟨_, _, _, rfl, rfl, rfl, rfl⟩
theorem sp_iOut {d : Nat} {kd : KL} {F : FM} {P : PM} {B : Nat} (hd : 2 ≤ d) (h3 : 3 ≤ B) (hk : kd[B]? = some (4, 6)) (hl : kd.length = B + 1) : Sp d 10 [.inr (some B)] kd F P (QG (fun kd' F' P' => kd' = kd ++ [(0, 4), (0, 4)] ∧ F' = (clF (clF F (B + 1)) (B + 2)) ∧ P' = (stp_ (stp_ P B 4 (some (B + 1))) B 5 (some (B + 2))))) := by
  refine Sp_of (me := mX2_init) (by omega) pX2_init ⟨rfl, Nat.le_of_ble_eq_true rfl⟩ ?_
  refine R_aload_n fX2_init_0 rfl ?_
  refine R_objinit fX2_init_1 (by omega) ?_
  refine R_aload_n fX2_init_4 rfl ?_
  refine R_iconst fX2_init_5 ?_
  refine R_newA1 fX2_init_6 (by decide) (q := B + 1) (by rw [hl]) (l' := [(0, 4)]) rfl ?_
  refine R_putP 4 fX2_init_8 ((ap_old (by omega)).trans hk) h3 rfl rfl rfl ?_
  refine R_aload_n fX2_init_11 rfl ?_
  refine R_iconst fX2_init_12 ?_
  refine R_newA fX2_init_13 (by decide) (q := B + 2) (by rw [hl]; rfl) (l' := [(0, 4), (0, 4)]) rfl ?_
  refine R_putP 5 fX2_init_15 ((ap_old (by omega)).trans hk) h3 rfl rfl rfl ?_
  refine R_return fX2_init_18 rfl ?_
  exact ⟨_, _, _, rfl, rfl, rfl, rfl⟩
theorem sp_iText {d : Nat} {kd : KL} {F : FM} {P : PM} {B : Nat} (hd : 2 ≤ d) (h3 : 3 ≤ B) (hk : kd[B]? = some (8, 10)) (hl : kd.length = B + 1) : Sp d 48 [.inr (some B)] kd F P (QG (fun kd' F' P' => kd' = kd ++ [(0, 60)] ∧ F' = (clF F (B + 1)) ∧ P' = (stp_ P B 0 (some (B + 1))))) := by
  refine Sp_of (me := mX6_init) (by omega) pX6_init ⟨rfl, Nat.le_of_ble_eq_true rfl⟩ ?_
  refine R_aload_n fX6_init_0 rfl ?_
  refine R_objinit fX6_init_1 (by omega) ?_
  refine R_aload_n fX6_init_4 rfl ?_
  refine R_bipush fX6_init_5 ?_
  refine R_newA1 fX6_init_7 (by decide) (q := B + 1) (by rw [hl]) (l' := [(0, 60)]) rfl ?_
  refine R_putP 0 fX6_init_9 ((ap_old (by omega)).trans hk) h3 rfl rfl rfl ?_
  refine R_return fX6_init_12 rfl ?_
  exact ⟨_, _, _, rfl, rfl, rfl, rfl⟩
