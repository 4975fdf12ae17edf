/-! RUNS of the interpreter, backwards: Rn (from a place within a method), Sp (a whole call) -/
def Rn (d : Nat) (me : ME) (pc : Nat) (L : LV) (S : List AV) (kd : KL) (F : FM) (P : PM) (Q : RS → Prop) : Prop :=
  ∃ rs, Q rs ∧ ∃ N, ∀ n c, N ≤ n → N ≤ c → go pg d (lvl pg d c) me n pc L S kd F P = some rs
def Sp (d i : Nat) (as : List AV) (kd : KL) (F : FM) (P : PM) (Q : RS → Prop) : Prop :=
  ∃ rs, Q rs ∧ ∃ N, ∀ c, N ≤ c → lvl pg d c i as kd F P = some rs
section RULES
variable {d : Nat} {me : ME} {pc : Nat} {L : LV} {S : List AV} {kd : KL} {F : FM} {P : PM} {Q : RS → Prop} {ri : RI}
theorem Rn.mono {Q' : RS → Prop} (h : Rn d me pc L S kd F P Q) (hq : ∀ rs, Q rs → Q' rs) : Rn d me pc L S kd F P Q' := by
  obtain ⟨rs, h1, h2⟩ := h
  exact ⟨rs, hq rs h1, h2⟩
theorem Sp.mono {i : Nat} {as : List AV} {Q' : RS → Prop} (h : Sp d i as kd F P Q) (hq : ∀ rs, Q rs → Q' rs) : Sp d i as kd F P Q' := by
  obtain ⟨rs, h1, h2⟩ := h
  exact ⟨rs, hq rs h1, h2⟩
theorem R_stp {ins : Instr} {len pc' : Nat} {L' : LV} {S' : List AV} {kd' : KL} {F' : FM} {P' : PM} (h : ftc pc (me_ci me) = some (pc, ins, len, ri)) (hf : isFin ins = false) (hc : cal ri ins = none) (hs : stp d pc len ri ins L S kd F P = some (pc', L', S', kd', F', P')) (k : Rn d me pc' L' S' kd' F' P' Q) : Rn d me pc L S kd F P Q := by
  obtain ⟨rs, hq, N, hN⟩ := k
  refine ⟨rs, hq, N + 1, fun n c hn hc' => ?_⟩
  obtain ⟨n, rfl⟩ : ∃ m, n = m + 1 := ⟨n - 1, by omega⟩
  unfold go
  rw [h]
  dsimp only
  rw [hf, hc]
  dsimp only
  rw [hs]
  exact hN n c (by omega) (by omega)
theorem R_fin {ins : Instr} {len : Nat} {r : Option AV} (h : ftc pc (me_ci me) = some (pc, ins, len, ri)) (hf : isFin ins = true) (hr : fin (me_rt me) ins S = some r) (hq : Q (r, kd, F, P)) : Rn d me pc L S kd F P Q := by
  refine ⟨_, hq, 1, fun n c hn hc' => ?_⟩
  obtain ⟨n, rfl⟩ : ∃ m, n = m + 1 := ⟨n - 1, by omega⟩
  unfold go
  rw [h]
  dsimp only
  rw [if_pos hf, hr]
theorem R_call {ins : Instr} {len i : Nat} {ce : ME} {as S' : List AV} {Qc : RS → Prop} (h : ftc pc (me_ci me) = some (pc, ins, len, ri)) (hf : isFin ins = false) (hc : cal ri ins = some i) (hp : pg i = some ce) (hs : spl (nar ce) S = some (as, S')) (hb : S'.length ≤ 8 ∧ rcv ce kd as = true) (hS : Sp d i as kd F P Qc) (k : ∀ (r : Option AV) (kd1 : KL) (F1 : FM) (P1 : PM), Qc (r, kd1, F1, P1) → Rn d me (pc + 3) L (psh r S') kd1 F1 P1 Q) : Rn d me pc L S kd F P Q := by
  obtain ⟨⟨r, kd1, F1, P1⟩, hq, N, hN⟩ := hS
  obtain ⟨rs, hq2, N2, hN2⟩ := k r kd1 F1 P1 hq
  refine ⟨rs, hq2, N + N2 + 1, fun n c hn hc' => ?_⟩
  obtain ⟨n, rfl⟩ : ∃ m, n = m + 1 := ⟨n - 1, by omega⟩
  unfold go
  rw [h]
  dsimp only
  rw [hf, hc]
  dsimp only
  rw [hp]
  dsimp only
  rw [hs]
  dsimp only
  rw [if_pos hb, hN c (by omega)]
  exact hN2 n c (by omega) (by omega)
theorem Sp_of {i : Nat} {as : List AV} (hd : 1 ≤ d) (hp : pg i = some me) (hl : as.length = nar me ∧ as.length ≤ me_ml me) (k : Rn (d - 1) me 0 (as.map some ++ List.replicate (me_ml me - as.length) none) [] kd F P Q) : Sp d i as kd F P Q := by
  obtain ⟨d, rfl⟩ : ∃ e, d = e + 1 := ⟨d - 1, by omega⟩
  rw [Nat.add_sub_cancel] at k
  obtain ⟨rs, hq, N, hN⟩ := k
  refine ⟨rs, hq, N, fun c hc => ?_⟩
  unfold lvl
  rw [hp]
  dsimp only
  rw [if_pos hl]
  exact hN c c hc hc
theorem R_iconst {n : Int} (h : ftc pc (me_ci me) = some (pc, .iconst n, 1, ri)) (k : Rn d me (pc + 1) L (.inl n :: S) kd F P Q) : Rn d me pc L S kd F P Q := R_stp h rfl rfl rfl k
theorem R_bipush {n : Int} (h : ftc pc (me_ci me) = some (pc, .bipush n, 2, ri)) (k : Rn d me (pc + 2) L (.inl n :: S) kd F P Q) : Rn d me pc L S kd F P Q := R_stp h rfl rfl rfl k
theorem R_sipush {n : Int} (h : ftc pc (me_ci me) = some (pc, .sipush n, 3, ri)) (k : Rn d me (pc + 3) L (.inl n :: S) kd F P Q) : Rn d me pc L S kd F P Q := R_stp h rfl rfl rfl k
theorem R_ldc {n a b : Nat} {v : Int} {i : Nat} (h : ftc pc (me_ci me) = some (pc, .ldc i, 2, (n, a, b, v))) (k : Rn d me (pc + 2) L (.inl v :: S) kd F P Q) : Rn d me pc L S kd F P Q := R_stp h rfl rfl rfl k
theorem R_iload {i : Nat} {v : AV} (h : ftc pc (me_ci me) = some (pc, .iload i, 2, ri)) (hl : ldI L i = some v) (k : Rn d me (pc + 2) L (v :: S) kd F P Q) : Rn d me pc L S kd F P Q := R_stp h rfl rfl (by show s_load _ _ (ldI L i) _ _ _ _ _ = _; rw [hl]; rfl) k
theorem R_iload_n {i : Fin 4} {v : AV} (h : ftc pc (me_ci me) = some (pc, .iload_n i, 1, ri)) (hl : ldI L i.val = some v) (k : Rn d me (pc + 1) L (v :: S) kd F P Q) : Rn d me pc L S kd F P Q := R_stp h rfl rfl (by show s_load _ _ (ldI L i.val) _ _ _ _ _ = _; rw [hl]; rfl) k
theorem R_aload {i : Nat} {v : AV} (h : ftc pc (me_ci me) = some (pc, .aload i, 2, ri)) (hl : ldA L i = some v) (k : Rn d me (pc + 2) L (v :: S) kd F P Q) : Rn d me pc L S kd F P Q := R_stp h rfl rfl (by show s_load _ _ (ldA L i) _ _ _ _ _ = _; rw [hl]; rfl) k
theorem R_aload_n {i : Fin 4} {v : AV} (h : ftc pc (me_ci me) = some (pc, .aload_n i, 1, ri)) (hl : ldA L i.val = some v) (k : Rn d me (pc + 1) L (v :: S) kd F P Q) : Rn d me pc L S kd F P Q := R_stp h rfl rfl (by show s_load _ _ (ldA L i.val) _ _ _ _ _ = _; rw [hl]; rfl) k
theorem R_istore {i : Nat} {v : Int} (h : ftc pc (me_ci me) = some (pc, .istore i, 2, ri)) (hi : Nat.blt i L.length = true) (k : Rn d me (pc + 2) (L.set i (some (.inl v))) S kd F P Q) : Rn d me pc L (.inl v :: S) kd F P Q := R_stp h rfl rfl (by show (if i < L.length then _ else _) = _; rw [if_pos (Nat.blt_eq.mp hi)]) k
theorem R_istore_n {i : Fin 4} {v : Int} (h : ftc pc (me_ci me) = some (pc, .istore_n i, 1, ri)) (hi : Nat.blt i.val L.length = true) (k : Rn d me (pc + 1) (L.set i.val (some (.inl v))) S kd F P Q) : Rn d me pc L (.inl v :: S) kd F P Q := R_stp h rfl rfl (by show (if i.val < L.length then _ else _) = _; rw [if_pos (Nat.blt_eq.mp hi)]) k
theorem R_astore {i v : Nat} (h : ftc pc (me_ci me) = some (pc, .astore i, 2, ri)) (hi : Nat.blt i L.length = true) (k : Rn d me (pc + 2) (L.set i (some (.inr (some v)))) S kd F P Q) : Rn d me pc L (.inr (some v) :: S) kd F P Q := R_stp h rfl rfl (by show (if i < L.length then _ else _) = _; rw [if_pos (Nat.blt_eq.mp hi)]) k
theorem R_astore_n {i : Fin 4} {v : Nat} (h : ftc pc (me_ci me) = some (pc, .astore_n i, 1, ri)) (hi : Nat.blt i.val L.length = true) (k : Rn d me (pc + 1) (L.set i.val (some (.inr (some v)))) S kd F P Q) : Rn d me pc L (.inr (some v) :: S) kd F P Q := R_stp h rfl rfl (by show (if i.val < L.length then _ else _) = _; rw [if_pos (Nat.blt_eq.mp hi)]) k
theorem R_iincV {i : Nat} {n x v : Int} (h : ftc pc (me_ci me) = some (pc, .iinc i n, 3, ri)) (hl : L[i]? = some (some (.inl x))) (hv : wr (x + n) = v) (k : Rn d me (pc + 3) (L.set i (some (.inl v))) S kd F P Q) : Rn d me pc L S kd F P Q := R_stp h rfl rfl (by show s_iinc _ _ _ _ _ _ _ _ _ = _; unfold s_iinc; rw [hl]) (by subst hv; exact k)
theorem R_iinc {i : Nat} {n x : Int} (h : ftc pc (me_ci me) = some (pc, .iinc i n, 3, ri)) (hl : L[i]? = some (some (.inl x))) (hb : -2147483648 ≤ x + n ∧ x + n < 2147483648) (k : Rn d me (pc + 3) (L.set i (some (.inl (x + n)))) S kd F P Q) : Rn d me pc L S kd F P Q := R_iincV h hl (wr_id hb) k
theorem R_iaddV {x y v : Int} (h : ftc pc (me_ci me) = some (pc, .iadd, 1, ri)) (hv : wr (x + y) = v) (k : Rn d me (pc + 1) L (.inl v :: S) kd F P Q) : Rn d me pc L (.inl y :: .inl x :: S) kd F P Q := by subst hv; exact R_stp h rfl rfl rfl k
theorem R_iadd {x y : Int} (h : ftc pc (me_ci me) = some (pc, .iadd, 1, ri)) (hb : -2147483648 ≤ x + y ∧ x + y < 2147483648) (k : Rn d me (pc + 1) L (.inl (x + y) :: S) kd F P Q) : Rn d me pc L (.inl y :: .inl x :: S) kd F P Q := R_iaddV h (wr_id hb) k
theorem R_isubV {x y v : Int} (h : ftc pc (me_ci me) = some (pc, .isub, 1, ri)) (hv : wr (x - y) = v) (k : Rn d me (pc + 1) L (.inl v :: S) kd F P Q) : Rn d me pc L (.inl y :: .inl x :: S) kd F P Q := by subst hv; exact R_stp h rfl rfl rfl k
theorem R_isub {x y : Int} (h : ftc pc (me_ci me) = some (pc, .isub, 1, ri)) (hb : -2147483648 ≤ x - y ∧ x - y < 2147483648) (k : Rn d me (pc + 1) L (.inl (x - y) :: S) kd F P Q) : Rn d me pc L (.inl y :: .inl x :: S) kd F P Q := R_isubV h (wr_id hb) k
theorem R_imulV {x y v : Int} (h : ftc pc (me_ci me) = some (pc, .imul, 1, ri)) (hv : wr (x * y) = v) (k : Rn d me (pc + 1) L (.inl v :: S) kd F P Q) : Rn d me pc L (.inl y :: .inl x :: S) kd F P Q := by subst hv; exact R_stp h rfl rfl rfl k
theorem R_imul {x y : Int} (h : ftc pc (me_ci me) = some (pc, .imul, 1, ri)) (hb : -2147483648 ≤ x * y ∧ x * y < 2147483648) (k : Rn d me (pc + 1) L (.inl (x * y) :: S) kd F P Q) : Rn d me pc L (.inl y :: .inl x :: S) kd F P Q := R_imulV h (wr_id hb) k
theorem R_iand {x y : Int} (h : ftc pc (me_ci me) = some (pc, .iand, 1, ri)) (k : Rn d me (pc + 1) L (.inl (i32 x &&& i32 y).toInt :: S) kd F P Q) : Rn d me pc L (.inl y :: .inl x :: S) kd F P Q := R_stp h rfl rfl rfl k
theorem R_idivV {x y v : Int} (h : ftc pc (me_ci me) = some (pc, .idiv, 1, ri)) (h0 : y ≠ 0) (hv : wr (Int.tdiv x y) = v) (k : Rn d me (pc + 1) L (.inl v :: S) kd F P Q) : Rn d me pc L (.inl y :: .inl x :: S) kd F P Q := by subst hv; exact R_stp h rfl rfl (by show (if y = 0 then _ else _) = _; rw [if_neg h0]) k
theorem R_iremV {x y v : Int} (h : ftc pc (me_ci me) = some (pc, .irem, 1, ri)) (h0 : y ≠ 0) (hv : wr (x - Int.tdiv x y * y) = v) (k : Rn d me (pc + 1) L (.inl v :: S) kd F P Q) : Rn d me pc L (.inl y :: .inl x :: S) kd F P Q := by subst hv; exact R_stp h rfl rfl (by show (if y = 0 then _ else _) = _; rw [if_neg h0]) k
theorem R_ineg {x : Int} (h : ftc pc (me_ci me) = some (pc, .ineg, 1, ri)) (hb : -2147483648 ≤ -x ∧ -x < 2147483648) (k : Rn d me (pc + 1) L (.inl (-x) :: S) kd F P Q) : Rn d me pc L (.inl x :: S) kd F P Q := R_stp h rfl rfl (by unfold stp; dsimp only; unfold s_neg; dsimp only; rw [wr_id hb]) k
theorem R_dup {v : AV} (h : ftc pc (me_ci me) = some (pc, .dup, 1, ri)) (k : Rn d me (pc + 1) L (v :: v :: S) kd F P Q) : Rn d me pc L (v :: S) kd F P Q := R_stp h rfl rfl rfl k
theorem R_dup2 {v w : AV} (h : ftc pc (me_ci me) = some (pc, .dup2, 1, (0, 0, 0, 0))) (k : Rn d me (pc + 1) L (v :: w :: v :: w :: S) kd F P Q) : Rn d me pc L (v :: w :: S) kd F P Q := R_stp h rfl rfl rfl k
theorem R_pop {v : AV} (h : ftc pc (me_ci me) = some (pc, .pop, 1, ri)) (k : Rn d me (pc + 1) L S kd F P Q) : Rn d me pc L (v :: S) kd F P Q := R_stp h rfl rfl rfl k
theorem R_goto {off : Int} {t : Nat} (h : ftc pc (me_ci me) = some (pc, .goto off, 3, ri)) (ht : brn pc off = some t) (k : Rn d me t L S kd F P Q) : Rn d me pc L S kd F P Q := R_stp h rfl rfl (by show s_goto (brn pc off) _ _ _ _ _ = _; rw [ht]; rfl) k
theorem R_icmp {c : Jvm.ClassFile.Cond} {off : Int} {t : Nat} {x y : Int} (h : ftc pc (me_ci me) = some (pc, .if_icmp c off, 3, ri)) (ht : brn pc off = some t) (kt : cmpc c x y = true → Rn d me t L S kd F P Q) (kf : cmpc c x y = false → Rn d me (pc + 3) L S kd F P Q) : Rn d me pc L (.inl y :: .inl x :: S) kd F P Q := by
  refine R_stp (pc' := if cmpc c x y = true then t else pc + 3) (L' := L) (S' := S) (kd' := kd) (F' := F) (P' := P) h rfl rfl (by show s_icmp _ _ (brn pc off) _ _ _ _ _ = _; rw [ht]; rfl) ?_
  cases hc : cmpc c x y
  · exact kf hc
  · exact kt hc
theorem R_ifc {c : Jvm.ClassFile.Cond} {off : Int} {t : Nat} {x : Int} (h : ftc pc (me_ci me) = some (pc, .ifCond c off, 3, ri)) (ht : brn pc off = some t) (kt : cmpc c x 0 = true → Rn d me t L S kd F P Q) (kf : cmpc c x 0 = false → Rn d me (pc + 3) L S kd F P Q) : Rn d me pc L (.inl x :: S) kd F P Q := by
  refine R_stp (pc' := if cmpc c x 0 = true then t else pc + 3) (L' := L) (S' := S) (kd' := kd) (F' := F) (P' := P) h rfl rfl (by show s_ifc _ _ (brn pc off) _ _ _ _ _ = _; rw [ht]; rfl) ?_
  cases hc : cmpc c x 0
  · exact kf hc
  · exact kt hc
theorem R_icmp_eq {off : Int} {t : Nat} {x y : Int} (h : ftc pc (me_ci me) = some (pc, .if_icmp .eq off, 3, ri)) (ht : brn pc off = some t) (kt : x = y → Rn d me t L S kd F P Q) (kf : x ≠ y → Rn d me (pc + 3) L S kd F P Q) : Rn d me pc L (.inl y :: .inl x :: S) kd F P Q := R_icmp h ht (fun q => kt (of_decide_eq_true q)) (fun q => kf (of_decide_eq_false q))
theorem R_icmp_ne {off : Int} {t : Nat} {x y : Int} (h : ftc pc (me_ci me) = some (pc, .if_icmp .ne off, 3, ri)) (ht : brn pc off = some t) (kt : x ≠ y → Rn d me t L S kd F P Q) (kf : x = y → Rn d me (pc + 3) L S kd F P Q) : Rn d me pc L (.inl y :: .inl x :: S) kd F P Q := R_icmp h ht (fun q => kt (of_decide_eq_true q)) (fun q => kf (Decidable.not_not.mp (of_decide_eq_false q)))
theorem R_icmp_lt {off : Int} {t : Nat} {x y : Int} (h : ftc pc (me_ci me) = some (pc, .if_icmp .lt off, 3, ri)) (ht : brn pc off = some t) (kt : x < y → Rn d me t L S kd F P Q) (kf : y ≤ x → Rn d me (pc + 3) L S kd F P Q) : Rn d me pc L (.inl y :: .inl x :: S) kd F P Q := R_icmp h ht (fun q => kt (of_decide_eq_true q)) (fun q => kf (Int.not_lt.mp (of_decide_eq_false q)))
theorem R_icmp_ge {off : Int} {t : Nat} {x y : Int} (h : ftc pc (me_ci me) = some (pc, .if_icmp .ge off, 3, ri)) (ht : brn pc off = some t) (kt : y ≤ x → Rn d me t L S kd F P Q) (kf : x < y → Rn d me (pc + 3) L S kd F P Q) : Rn d me pc L (.inl y :: .inl x :: S) kd F P Q := R_icmp h ht (fun q => kt (of_decide_eq_true q)) (fun q => kf (Int.not_le.mp (of_decide_eq_false q)))
theorem R_icmp_gt {off : Int} {t : Nat} {x y : Int} (h : ftc pc (me_ci me) = some (pc, .if_icmp .gt off, 3, ri)) (ht : brn pc off = some t) (kt : y < x → Rn d me t L S kd F P Q) (kf : x ≤ y → Rn d me (pc + 3) L S kd F P Q) : Rn d me pc L (.inl y :: .inl x :: S) kd F P Q := R_icmp h ht (fun q => kt (of_decide_eq_true q)) (fun q => kf (Int.not_lt.mp (of_decide_eq_false q)))
theorem R_icmp_le {off : Int} {t : Nat} {x y : Int} (h : ftc pc (me_ci me) = some (pc, .if_icmp .le off, 3, ri)) (ht : brn pc off = some t) (kt : x ≤ y → Rn d me t L S kd F P Q) (kf : y < x → Rn d me (pc + 3) L S kd F P Q) : Rn d me pc L (.inl y :: .inl x :: S) kd F P Q := R_icmp h ht (fun q => kt (of_decide_eq_true q)) (fun q => kf (Int.not_le.mp (of_decide_eq_false q)))
theorem R_if_eq {off : Int} {t : Nat} {x : Int} (h : ftc pc (me_ci me) = some (pc, .ifCond .eq off, 3, ri)) (ht : brn pc off = some t) (kt : x = 0 → Rn d me t L S kd F P Q) (kf : x ≠ 0 → Rn d me (pc + 3) L S kd F P Q) : Rn d me pc L (.inl x :: S) kd F P Q := R_ifc h ht (fun q => kt (of_decide_eq_true q)) (fun q => kf (of_decide_eq_false q))
theorem R_if_ne {off : Int} {t : Nat} {x : Int} (h : ftc pc (me_ci me) = some (pc, .ifCond .ne off, 3, ri)) (ht : brn pc off = some t) (kt : x ≠ 0 → Rn d me t L S kd F P Q) (kf : x = 0 → Rn d me (pc + 3) L S kd F P Q) : Rn d me pc L (.inl x :: S) kd F P Q := R_ifc h ht (fun q => kt (of_decide_eq_true q)) (fun q => kf (Decidable.not_not.mp (of_decide_eq_false q)))
theorem R_if_lt {off : Int} {t : Nat} {x : Int} (h : ftc pc (me_ci me) = some (pc, .ifCond .lt off, 3, ri)) (ht : brn pc off = some t) (kt : x < 0 → Rn d me t L S kd F P Q) (kf : 0 ≤ x → Rn d me (pc + 3) L S kd F P Q) : Rn d me pc L (.inl x :: S) kd F P Q := R_ifc h ht (fun q => kt (of_decide_eq_true q)) (fun q => kf (Int.not_lt.mp (of_decide_eq_false q)))
theorem R_if_ge {off : Int} {t : Nat} {x : Int} (h : ftc pc (me_ci me) = some (pc, .ifCond .ge off, 3, ri)) (ht : brn pc off = some t) (kt : 0 ≤ x → Rn d me t L S kd F P Q) (kf : x < 0 → Rn d me (pc + 3) L S kd F P Q) : Rn d me pc L (.inl x :: S) kd F P Q := R_ifc h ht (fun q => kt (of_decide_eq_true q)) (fun q => kf (Int.not_le.mp (of_decide_eq_false q)))
theorem R_if_gt {off : Int} {t : Nat} {x : Int} (h : ftc pc (me_ci me) = some (pc, .ifCond .gt off, 3, ri)) (ht : brn pc off = some t) (kt : 0 < x → Rn d me t L S kd F P Q) (kf : x ≤ 0 → Rn d me (pc + 3) L S kd F P Q) : Rn d me pc L (.inl x :: S) kd F P Q := R_ifc h ht (fun q => kt (of_decide_eq_true q)) (fun q => kf (Int.not_lt.mp (of_decide_eq_false q)))
theorem R_if_le {off : Int} {t : Nat} {x : Int} (h : ftc pc (me_ci me) = some (pc, .ifCond .le off, 3, ri)) (ht : brn pc off = some t) (kt : x ≤ 0 → Rn d me t L S kd F P Q) (kf : 0 < x → Rn d me (pc + 3) L S kd F P Q) : Rn d me pc L (.inl x :: S) kd F P Q := R_ifc h ht (fun q => kt (of_decide_eq_true q)) (fun q => kf (Int.not_le.mp (of_decide_eq_false q)))
theorem R_iaload {k n : Nat} {i : Int} (h : ftc pc (me_ci me) = some (pc, .iaload, 1, ri)) (hk : kd[k]? = some (0, n)) (hb : 0 ≤ i ∧ i < n) (kk : Rn d me (pc + 1) L (.inl (F k i) :: S) kd F P Q) : Rn d me pc L (.inl i :: .inr (some k) :: S) kd F P Q := R_stp h rfl rfl (by unfold stp; dsimp only; unfold s_iald; dsimp only; rw [hk]; exact if_pos hb) kk
theorem R_aaload {k n v : Nat} {i : Int} (h : ftc pc (me_ci me) = some (pc, .aaload, 1, ri)) (hk : kd[k]? = some (1, n)) (h3 : 3 ≤ k) (hb : 0 ≤ i ∧ i < n) (hp : P k i = some v) (kk : Rn d me (pc + 1) L (.inr (some v) :: S) kd F P Q) : Rn d me pc L (.inl i :: .inr (some k) :: S) kd F P Q := R_stp h rfl rfl (by unfold stp; dsimp only; unfold s_aald; dsimp only; rw [hk, hp.symm]; exact if_pos ⟨h3, hb⟩) kk
theorem R_iastore {k n : Nat} {i v : Int} (h : ftc pc (me_ci me) = some (pc, .iastore, 1, ri)) (hk : kd[k]? = some (0, n)) (h3 : 3 ≤ k) (hb : 0 ≤ i ∧ i < n) (kk : Rn d me (pc + 1) L S kd (stt F k i v) P Q) : Rn d me pc L (.inl v :: .inl i :: .inr (some k) :: S) kd F P Q := R_stp h rfl rfl (by unfold stp; dsimp only; unfold s_iast; dsimp only; rw [hk]; exact if_pos ⟨h3, hb⟩) kk
theorem R_aastore {k n v : Nat} {i : Int} (h : ftc pc (me_ci me) = some (pc, .aastore, 1, ri)) (hk : kd[k]? = some (1, n)) (h3 : 3 ≤ k) (hb : 0 ≤ i ∧ i < n) (hv : 3 ≤ v ∧ kd[v]? = some (7, 17)) (kk : Rn d me (pc + 1) L S kd F (stp_ P k i (some v)) Q) : Rn d me pc L (.inr (some v) :: .inl i :: .inr (some k) :: S) kd F P Q := R_stp h rfl rfl (by unfold stp; dsimp only; unfold s_aast; dsimp only; rw [hk]; exact if_pos ⟨h3, hb.1, hb.2, hv.1, hv.2⟩) kk
theorem R_arraylength {k n : Nat} (h : ftc pc (me_ci me) = some (pc, .arraylength, 1, ri)) (hk : kd[k]? = some (0, n)) (hn : n < 2147483648) (kk : Rn d me (pc + 1) L (.inl (n : Int) :: S) kd F P Q) : Rn d me pc L (.inr (some k) :: S) kd F P Q := R_stp h rfl rfl (by unfold stp; dsimp only; unfold s_alen; dsimp only; rw [hk]; exact if_pos hn) kk
theorem R_getI {ci j w n k : Nat} {x : Int} {idx : Nat} (jj : Int) (h : ftc pc (me_ci me) = some (pc, .getfield idx, 3, (ci, j, w, x))) (hk : kd[k]? = some (ci + 2, n)) (h3 : 3 ≤ k) (hj : Nat.blt j n = true) (ht : isN (tyOf ci j) = true) (hjj : (j : Int) = jj) (kk : Rn d me (pc + 3) L (.inl (F k jj) :: S) kd F P Q) : Rn d me pc L (.inr (some k) :: S) kd F P Q := by
  subst hjj
  refine R_stp h rfl rfl (by unfold stp; dsimp only; unfold s_getf; dsimp only; rw [hk]; (try dsimp only); rw [if_pos ⟨rfl, Nat.blt_eq.mp hj, h3⟩, if_pos ht]) kk
theorem R_getP {ci j w n k v : Nat} {x : Int} {idx : Nat} (jj : Int) (h : ftc pc (me_ci me) = some (pc, .getfield idx, 3, (ci, j, w, x))) (hk : kd[k]? = some (ci + 2, n)) (h3 : 3 ≤ k) (hj : Nat.blt j n = true) (ht : isN (tyOf ci j) = false) (hjj : (j : Int) = jj) (hp : P k jj = some v) (kk : Rn d me (pc + 3) L (.inr (some v) :: S) kd F P Q) : Rn d me pc L (.inr (some k) :: S) kd F P Q := by
  subst hjj
  refine R_stp h rfl rfl (by unfold stp; dsimp only; unfold s_getf; dsimp only; rw [hk]; (try dsimp only); rw [if_pos ⟨rfl, Nat.blt_eq.mp hj, h3⟩, if_neg (by rw [ht]; decide), hp]) kk
theorem R_putI {ci j w n k : Nat} {x v : Int} {idx : Nat} (jj : Int) (h : ftc pc (me_ci me) = some (pc, .putfield idx, 3, (ci, j, w, x))) (hk : kd[k]? = some (ci + 2, n)) (h3 : 3 ≤ k) (hj : Nat.blt j n = true) (ht : tyOf ci j = .int) (hjj : (j : Int) = jj) (kk : Rn d me (pc + 3) L S kd (stt F k jj v) P Q) : Rn d me pc L (.inl v :: .inr (some k) :: S) kd F P Q := by
  subst hjj
  refine R_stp h rfl rfl (by unfold stp; dsimp only; unfold s_putf; dsimp only; rw [hk]; (try dsimp only); rw [if_pos ⟨rfl, Nat.blt_eq.mp hj, h3, Or.inl ht⟩]) kk
theorem R_putZ {ci j w n k : Nat} {x v : Int} {idx : Nat} (jj : Int) (h : ftc pc (me_ci me) = some (pc, .putfield idx, 3, (ci, j, w, x))) (hk : kd[k]? = some (ci + 2, n)) (h3 : 3 ≤ k) (hj : Nat.blt j n = true) (ht : tyOf ci j = .boolean) (hjj : (j : Int) = jj) (hv : v = 0 ∨ v = 1) (kk : Rn d me (pc + 3) L S kd (stt F k jj v) P Q) : Rn d me pc L (.inl v :: .inr (some k) :: S) kd F P Q := by
  subst hjj
  refine R_stp h rfl rfl (by unfold stp; dsimp only; unfold s_putf; dsimp only; rw [hk]; (try dsimp only); rw [if_pos ⟨rfl, Nat.blt_eq.mp hj, h3, Or.inr ⟨ht, hv⟩⟩]) kk
theorem R_putP {ci j w n k : Nat} {x : Int} {v : Option Nat} {idx : Nat} (jj : Int) (h : ftc pc (me_ci me) = some (pc, .putfield idx, 3, (ci, j, w, x))) (hk : kd[k]? = some (ci + 2, n)) (h3 : 3 ≤ k) (hj : Nat.blt j n = true) (ht : isN (tyOf ci j) = false) (hjj : (j : Int) = jj) (kk : Rn d me (pc + 3) L S kd F (stp_ P k jj v) Q) : Rn d me pc L (.inr v :: .inr (some k) :: S) kd F P Q := by
  subst hjj
  refine R_stp h rfl rfl (by unfold stp; dsimp only; unfold s_putf; dsimp only; rw [hk]; (try dsimp only); rw [if_pos ⟨rfl, Nat.blt_eq.mp hj, h3, ht⟩]) kk
theorem R_new {ci n w : Nat} {x : Int} {idx : Nat} (h : ftc pc (me_ci me) = some (pc, .new idx, 3, (ci, n, w, x))) (kk : Rn d me (pc + 3) L (.inr (some kd.length) :: S) (kd ++ [(ci + 2, n)]) (clF F kd.length) (clP P kd.length) Q) : Rn d me pc L S kd F P Q := R_stp h rfl rfl rfl kk
theorem R_newarray {n : Int} (h : ftc pc (me_ci me) = some (pc, .newarray .int, 2, ri)) (hb : 0 ≤ n ∧ n ≤ 100000) (kk : Rn d me (pc + 2) L (.inr (some kd.length) :: S) (kd ++ [(0, n.toNat)]) (clF F kd.length) P Q) : Rn d me pc L (.inl n :: S) kd F P Q := R_stp h rfl rfl (by unfold stp; dsimp only; rw [if_pos rfl]; unfold s_newa; dsimp only; rw [if_pos hb]) kk
theorem R_anewarray {n : Int} {idx : Nat} (h : ftc pc (me_ci me) = some (pc, .anewarray idx, 3, ri)) (hb : 0 ≤ n ∧ n ≤ 100000) (kk : Rn d me (pc + 3) L (.inr (some kd.length) :: S) (kd ++ [(1, n.toNat)]) F (clP P kd.length) Q) : Rn d me pc L (.inl n :: S) kd F P Q := R_stp h rfl rfl (by unfold stp; dsimp only; unfold s_anew; dsimp only; rw [if_pos hb]) kk
theorem R_getstatic {i a b : Nat} {x : Int} {idx : Nat} (h : ftc pc (me_ci me) = some (pc, .getstatic idx, 3, (i, a, b, x))) (kk : Rn d me (pc + 3) L (.inr (some i) :: S) kd F P Q) : Rn d me pc L S kd F P Q := R_stp h rfl rfl rfl kk
theorem R_copy {a b : Nat} {x : Int} {idx k0 k1 n0 n1 : Nat} {n sp dp : Int} (h : ftc pc (me_ci me) = some (pc, .invokestatic idx, 3, (a, 2, b, x))) (h2 : 2 ≤ d) (hk0 : kd[k0]? = some (0, n0)) (hk1 : kd[k1]? = some (0, n1)) (h3 : 3 ≤ k1) (hb : 0 ≤ n ∧ 0 ≤ sp ∧ 0 ≤ dp ∧ sp + n ≤ n0 ∧ dp + n ≤ n1) (kk : Rn d me (pc + 3) L [] kd (cpF F k0 sp k1 dp n) P Q) : Rn d me pc L [.inl n, .inl dp, .inr (some k1), .inl sp, .inr (some k0)] kd F P Q := R_stp h rfl rfl (by unfold stp; dsimp only; rw [if_pos rfl]; unfold s_copy; dsimp only; rw [hk0, hk1]; exact if_pos ⟨h2, rfl, h3, hb⟩) kk
theorem R_min {a b : Nat} {w x y : Int} {idx : Nat} (h : ftc pc (me_ci me) = some (pc, .invokestatic idx, 3, (a, 4, b, w))) (h2 : 2 ≤ d) (h4 : Nat.ble S.length 4 = true) (kk : Rn d me (pc + 3) L (.inl (if y < x then y else x) :: S) kd F P Q) : Rn d me pc L (.inl y :: .inl x :: S) kd F P Q := R_stp h rfl rfl (by unfold stp; dsimp only; rw [if_neg (by decide), if_pos rfl]; unfold s_mm; dsimp only; rw [if_pos ⟨h2, Nat.le_of_ble_eq_true h4⟩]) kk
theorem R_objinit {a b k : Nat} {x : Int} {idx : Nat} (h : ftc pc (me_ci me) = some (pc, .invokespecial idx, 3, (a, 5, b, x))) (h1 : 1 ≤ d) (kk : Rn d me (pc + 3) L [] kd F P Q) : Rn d me pc L [.inr (some k)] kd F P Q := R_stp h rfl rfl (by unfold stp; dsimp only; rw [if_pos rfl]; unfold s_oini; dsimp only; rw [if_pos ⟨h1, rfl⟩]) kk
theorem R_ireturn {v : Int} (h : ftc pc (me_ci me) = some (pc, .ireturn, 1, ri)) (hr : me_rt me = some .int) (hq : Q (some (.inl v), kd, F, P)) : Rn d me pc L [.inl v] kd F P Q := R_fin h rfl (by rw [hr]; rfl) hq
theorem R_zreturn {v : Int} (h : ftc pc (me_ci me) = some (pc, .ireturn, 1, ri)) (hr : me_rt me = some .boolean) (hv : v = 0 ∨ v = 1) (hq : Q (some (.inl v), kd, F, P)) : Rn d me pc L [.inl v] kd F P Q := R_fin h rfl (by rw [hr]; show (if _ then _ else _) = _; rw [if_pos (Or.inr ⟨rfl, hv⟩)]) hq
theorem R_areturn {v : Option Nat} {n : String} (h : ftc pc (me_ci me) = some (pc, .areturn, 1, ri)) (hr : me_rt me = some (.object n)) (hq : Q (some (.inr v), kd, F, P)) : Rn d me pc L [.inr v] kd F P Q := R_fin h rfl (by rw [hr]; rfl) hq
theorem R_return (h : ftc pc (me_ci me) = some (pc, .return_, 1, ri)) (hr : me_rt me = none) (hq : Q (none, kd, F, P)) : Rn d me pc L [] kd F P Q := R_fin h rfl (by rw [hr]; rfl) hq
theorem R_tab {dflt lo hi x : Int} {offs : Array Int} {len t : Nat} (h : ftc pc (me_ci me) = some (pc, .tableswitch dflt lo hi offs, len, ri)) (hs : s_tab pc dflt lo hi offs L (.inl x :: S) kd F P = some (t, L, S, kd, F, P)) (k : Rn d me t L S kd F P Q) : Rn d me pc L (.inl x :: S) kd F P Q := R_stp h rfl rfl hs k
theorem R_tabD {dflt lo hi x : Int} {offs : Array Int} {len t : Nat} (h : ftc pc (me_ci me) = some (pc, .tableswitch dflt lo hi offs, len, ri)) (hx : ¬ (lo ≤ x ∧ x ≤ hi)) (ht : brn pc dflt = some t) (k : Rn d me t L S kd F P Q) : Rn d me pc L (.inl x :: S) kd F P Q := R_stp h rfl rfl (by show (if _ then _ else s_goto _ _ _ _ _ _) = _; rw [if_neg hx, ht]; rfl) k
theorem R_look {dflt x : Int} {ps : Array (Int × Int)} {len t : Nat} (h : ftc pc (me_ci me) = some (pc, .lookupswitch dflt ps, len, ri)) (hs : s_look pc dflt ps L (.inl x :: S) kd F P = some (t, L, S, kd, F, P)) (k : Rn d me t L S kd F P Q) : Rn d me pc L (.inl x :: S) kd F P Q := R_stp h rfl rfl hs k
end RULES
