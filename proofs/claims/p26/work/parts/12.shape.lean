/-- a state of the class: its cells stand side by side from B on -/
def shS (kd : KL) (P : PM) (B : Nat) : Prop := 3 ≤ B ∧ kd[B]? = some (7, 17) ∧ kd[B + 1]? = some (0, 4) ∧ kd[B + 2]? = some (0, 4) ∧ kd[B + 3]? = some (0, 4) ∧ kd[B + 4]? = some (0, 4) ∧ kd[B + 5]? = some (0, 4) ∧ kd[B + 6]? = some (0, 4) ∧ kd[B + 7]? = some (0, 3) ∧ kd[B + 8]? = some (0, 20) ∧ kd[B + 9]? = some (6, 3) ∧ kd[B + 10]? = some (0, 96) ∧ kd[B + 11]? = some (5, 5) ∧ kd[B + 12]? = some (0, 484) ∧ kd[B + 13]? = some (0, 484) ∧ kd[B + 14]? = some (0, 484) ∧ kd[B + 15]? = some (0, 484) ∧ P B 7 = some (B + 1) ∧ P B 8 = some (B + 2) ∧ P B 9 = some (B + 3) ∧ P B 10 = some (B + 4) ∧ P B 11 = some (B + 5) ∧ P B 12 = some (B + 6) ∧ P B 13 = some (B + 7) ∧ P B 14 = some (B + 8) ∧ P B 15 = some (B + 9) ∧ P B 16 = some (B + 11) ∧ P (B + 9) 0 = some (B + 10) ∧ P (B + 11) 0 = some (B + 12) ∧ P (B + 11) 1 = some (B + 13) ∧ P (B + 11) 2 = some (B + 14) ∧ P (B + 11) 3 = some (B + 15)
theorem shS_h3 {kd : KL} {P : PM} {B : Nat} (h : shS kd P B) : 3 ≤ B := h.1
theorem shS_k0 {kd : KL} {P : PM} {B : Nat} (h : shS kd P B) : kd[B]? = some (7, 17) := h.2.1
theorem shS_k1 {kd : KL} {P : PM} {B : Nat} (h : shS kd P B) : kd[B + 1]? = some (0, 4) := h.2.2.1
theorem shS_k2 {kd : KL} {P : PM} {B : Nat} (h : shS kd P B) : kd[B + 2]? = some (0, 4) := h.2.2.2.1
theorem shS_k3 {kd : KL} {P : PM} {B : Nat} (h : shS kd P B) : kd[B + 3]? = some (0, 4) := h.2.2.2.2.1
theorem shS_k4 {kd : KL} {P : PM} {B : Nat} (h : shS kd P B) : kd[B + 4]? = some (0, 4) := h.2.2.2.2.2.1
theorem shS_k5 {kd : KL} {P : PM} {B : Nat} (h : shS kd P B) : kd[B + 5]? = some (0, 4) := h.2.2.2.2.2.2.1
theorem shS_k6 {kd : KL} {P : PM} {B : Nat} (h : shS kd P B) : kd[B + 6]? = some (0, 4) := h.2.2.2.2.2.2.2.1
theorem shS_k7 {kd : KL} {P : PM} {B : Nat} (h : shS kd P B) : kd[B + 7]? = some (0, 3) := h.2.2.2.2.2.2.2.2.1
theorem shS_k8 {kd : KL} {P : PM} {B : Nat} (h : shS kd P B) : kd[B + 8]? = some (0, 20) := h.2.2.2.2.2.2.2.2.2.1
theorem shS_k9 {kd : KL} {P : PM} {B : Nat} (h : shS kd P B) : kd[B + 9]? = some (6, 3) := h.2.2.2.2.2.2.2.2.2.2.1
theorem shS_k10 {kd : KL} {P : PM} {B : Nat} (h : shS kd P B) : kd[B + 10]? = some (0, 96) := h.2.2.2.2.2.2.2.2.2.2.2.1
theorem shS_k11 {kd : KL} {P : PM} {B : Nat} (h : shS kd P B) : kd[B + 11]? = some (5, 5) := h.2.2.2.2.2.2.2.2.2.2.2.2.1
theorem shS_k12 {kd : KL} {P : PM} {B : Nat} (h : shS kd P B) : kd[B + 12]? = some (0, 484) := h.2.2.2.2.2.2.2.2.2.2.2.2.2.1
theorem shS_k13 {kd : KL} {P : PM} {B : Nat} (h : shS kd P B) : kd[B + 13]? = some (0, 484) := h.2.2.2.2.2.2.2.2.2.2.2.2.2.2.1
theorem shS_k14 {kd : KL} {P : PM} {B : Nat} (h : shS kd P B) : kd[B + 14]? = some (0, 484) := h.2.2.2.2.2.2.2.2.2.2.2.2.2.2.2.1
theorem shS_k15 {kd : KL} {P : PM} {B : Nat} (h : shS kd P B) : kd[B + 15]? = some (0, 484) := h.2.2.2.2.2.2.2.2.2.2.2.2.2.2.2.2.1
theorem shS_p7 {kd : KL} {P : PM} {B : Nat} (h : shS kd P B) : P B 7 = some (B + 1) := h.2.2.2.2.2.2.2.2.2.2.2.2.2.2.2.2.2.1
theorem shS_p8 {kd : KL} {P : PM} {B : Nat} (h : shS kd P B) : P B 8 = some (B + 2) := h.2.2.2.2.2.2.2.2.2.2.2.2.2.2.2.2.2.2.1
theorem shS_p9 {kd : KL} {P : PM} {B : Nat} (h : shS kd P B) : P B 9 = some (B + 3) := h.2.2.2.2.2.2.2.2.2.2.2.2.2.2.2.2.2.2.2.1
theorem shS_p10 {kd : KL} {P : PM} {B : Nat} (h : shS kd P B) : P B 10 = some (B + 4) := h.2.2.2.2.2.2.2.2.2.2.2.2.2.2.2.2.2.2.2.2.1
theorem shS_p11 {kd : KL} {P : PM} {B : Nat} (h : shS kd P B) : P B 11 = some (B + 5) := h.2.2.2.2.2.2.2.2.2.2.2.2.2.2.2.2.2.2.2.2.2.1
theorem shS_p12 {kd : KL} {P : PM} {B : Nat} (h : shS kd P B) : P B 12 = some (B + 6) := h.2.2.2.2.2.2.2.2.2.2.2.2.2.2.2.2.2.2.2.2.2.2.1
theorem shS_p13 {kd : KL} {P : PM} {B : Nat} (h : shS kd P B) : P B 13 = some (B + 7) := h.2.2.2.2.2.2.2.2.2.2.2.2.2.2.2.2.2.2.2.2.2.2.2.1
theorem shS_p14 {kd : KL} {P : PM} {B : Nat} (h : shS kd P B) : P B 14 = some (B + 8) := h.2.2.2.2.2.2.2.2.2.2.2.2.2.2.2.2.2.2.2.2.2.2.2.2.1
theorem shS_p15 {kd : KL} {P : PM} {B : Nat} (h : shS kd P B) : P B 15 = some (B + 9) := h.2.2.2.2.2.2.2.2.2.2.2.2.2.2.2.2.2.2.2.2.2.2.2.2.2.1
theorem shS_p16 {kd : KL} {P : PM} {B : Nat} (h : shS kd P B) : P B 16 = some (B + 11) := h.2.2.2.2.2.2.2.2.2.2.2.2.2.2.2.2.2.2.2.2.2.2.2.2.2.2.1
theorem shS_q0 {kd : KL} {P : PM} {B : Nat} (h : shS kd P B) : P (B + 9) 0 = some (B + 10) := h.2.2.2.2.2.2.2.2.2.2.2.2.2.2.2.2.2.2.2.2.2.2.2.2.2.2.2.1
theorem shS_r0 {kd : KL} {P : PM} {B : Nat} (h : shS kd P B) : P (B + 11) 0 = some (B + 12) := h.2.2.2.2.2.2.2.2.2.2.2.2.2.2.2.2.2.2.2.2.2.2.2.2.2.2.2.2.1
theorem shS_r1 {kd : KL} {P : PM} {B : Nat} (h : shS kd P B) : P (B + 11) 1 = some (B + 13) := h.2.2.2.2.2.2.2.2.2.2.2.2.2.2.2.2.2.2.2.2.2.2.2.2.2.2.2.2.2.1
theorem shS_r2 {kd : KL} {P : PM} {B : Nat} (h : shS kd P B) : P (B + 11) 2 = some (B + 14) := h.2.2.2.2.2.2.2.2.2.2.2.2.2.2.2.2.2.2.2.2.2.2.2.2.2.2.2.2.2.2.1
theorem shS_r3 {kd : KL} {P : PM} {B : Nat} (h : shS kd P B) : P (B + 11) 3 = some (B + 15) := h.2.2.2.2.2.2.2.2.2.2.2.2.2.2.2.2.2.2.2.2.2.2.2.2.2.2.2.2.2.2.2
theorem shS_3 {kd : KL} {P : PM} {B : Nat} (h : shS kd P B) (j : Nat) : 3 ≤ B + j := Nat.le_trans h.1 (Nat.le_add_right B j)
theorem rcv_v {ce : ME} {kd : KL} {k n : Nat} {as : List AV} (hk : me_kd ce = 0) (h3 : 3 ≤ k) (hkd : kd[k]? = some (me_ix ce + 2, n)) : rcv ce kd (.inr (some k) :: as) = true := by
  unfold rcv
  rw [hk]
  show (decide (3 ≤ k) && (match kd[k]? with
      | some (c, _) => decide (c = me_ix ce + 2)
      | none => false)) = true
  rw [hkd]
  simp [h3]
/-- what a call answers, in the three forms that are used -/
def QV (kd : KL) (P : PM) (post : Int → FM → Prop) : RS → Prop := fun rs => ∃ v F', rs = (some (.inl v), kd, F', P) ∧ post v F'
def QN (kd : KL) (P : PM) (post : FM → Prop) : RS → Prop := fun rs => ∃ F', rs = (none, kd, F', P) ∧ post F'
def QE (kd : KL) (F : FM) (P : PM) (v : Int) : RS → Prop := fun rs => rs = (some (.inl v), kd, F, P)
section CALLRULES
variable {d : Nat} {me : ME} {pc : Nat} {L : LV} {S : List AV} {kd : KL} {F : FM} {P : PM} {Q : RS → Prop} {ri : RI} {ins : Instr} {len i : Nat} {ce : ME} {as S' : List AV}
theorem R_callE {v : Int} (h : ftc pc (me_ci me) = some (pc, ins, len, ri)) (hf : isFin ins = false) (hc : cal ri ins = some i) (hp : pg i = some ce) (hs : spl (nar ce) S = some (as, S')) (hb : S'.length ≤ 8 ∧ rcv ce kd as = true) (hS : Sp d i as kd F P (QE kd F P v)) (k : Rn d me (pc + 3) L (.inl v :: S') kd F P Q) : Rn d me pc L S kd F P Q :=
  R_call h hf hc hp hs hb hS (fun r kd1 F1 P1 hq => by cases hq; exact k)
theorem R_callV {post : Int → FM → Prop} (h : ftc pc (me_ci me) = some (pc, ins, len, ri)) (hf : isFin ins = false) (hc : cal ri ins = some i) (hp : pg i = some ce) (hs : spl (nar ce) S = some (as, S')) (hb : S'.length ≤ 8 ∧ rcv ce kd as = true) (hS : Sp d i as kd F P (QV kd P post)) (k : ∀ v F', post v F' → Rn d me (pc + 3) L (.inl v :: S') kd F' P Q) : Rn d me pc L S kd F P Q :=
  R_call h hf hc hp hs hb hS (fun r kd1 F1 P1 hq => by obtain ⟨v, F', e, hp⟩ := hq; cases e; exact k v F1 hp)
theorem R_callN {post : FM → Prop} (h : ftc pc (me_ci me) = some (pc, ins, len, ri)) (hf : isFin ins = false) (hc : cal ri ins = some i) (hp : pg i = some ce) (hs : spl (nar ce) S = some (as, S')) (hb : S'.length ≤ 8 ∧ rcv ce kd as = true) (hS : Sp d i as kd F P (QN kd P post)) (k : ∀ F', post F' → Rn d me (pc + 3) L S' kd F' P Q) : Rn d me pc L S kd F P Q :=
  R_call h hf hc hp hs hb hS (fun r kd1 F1 P1 hq => by obtain ⟨F', e, hp⟩ := hq; cases e; exact k F1 hp)
end CALLRULES
theorem stt_eq (F : FM) (k : Nat) (j v : Int) : stt F k j v k j = v := by unfold stt; rw [if_pos ⟨rfl, rfl⟩]
theorem stt_ne (F : FM) {k a : Nat} {j b : Int} (v : Int) (h : ¬ (a = k ∧ b = j)) : stt F k j v a b = F a b := by unfold stt; rw [if_neg h]
theorem stt_k (F : FM) {k a : Nat} (j b v : Int) (h : a ≠ k) : stt F k j v a b = F a b := by unfold stt; rw [if_neg (fun z => h z.1)]
theorem stt_kr (F : FM) {k a : Nat} (j v : Int) (h : a ≠ k) : stt F k j v a = F a := funext fun b => stt_k F j b v h
theorem stt_j (F : FM) {k a : Nat} {j b : Int} (v : Int) (h : b ≠ j) : stt F k j v a b = F a b := by unfold stt; rw [if_neg (fun z => h z.2)]
/-- 1 or 0 -/
def bI (c : Prop) [Decidable c] : Int := if c then 1 else 0
/-- a sum over 0 .. n - 1 -/
def sg (f : Int → Int) : Nat → Int
  | 0 => 0
  | n + 1 => sg f n + f (n : Int)
theorem sg_congr {f g : Int → Int} : ∀ {n : Nat}, (∀ i : Int, 0 ≤ i → i < n → f i = g i) → sg f n = sg g n
  | 0, _ => rfl
  | n + 1, h => by
    show sg f n + f n = sg g n + g n
    rw [sg_congr (n := n) (fun i h0 h1 => h i h0 (by omega)), h n (by omega) (by omega)]
theorem sg_s {f : Int → Int} {i : Int} (h : 0 ≤ i) : sg f (i + 1).toNat = sg f i.toNat + f i := by
  obtain ⟨n, rfl⟩ : ∃ n : Nat, i = n := ⟨i.toNat, by omega⟩
  rw [show ((n : Int) + 1).toNat = n + 1 by omega, Int.toNat_natCast]
  rfl
