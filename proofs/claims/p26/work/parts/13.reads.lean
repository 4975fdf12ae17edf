/-! THE STATE OF A GAME is the reference's row of numbers s; the class's state at B holds the same (Rel). -/
noncomputable def cI (c : Prop) : Int := @ite Int c (Classical.propDecidable c) 1 0
theorem cI_t {c : Prop} (h : c) : cI c = 1 := by unfold cI; exact if_pos h
theorem cI_f {c : Prop} (h : ¬ c) : cI c = 0 := by unfold cI; exact if_neg h
theorem cI_01 (c : Prop) : cI c = 0 ∨ cI c = 1 := by
  rcases Classical.em c with h | h
  · exact Or.inr (cI_t h)
  · exact Or.inl (cI_f h)
theorem cI_0 {c : Prop} (h : cI c = 0) : ¬ c := fun z => by rw [cI_t z] at h; cases h
theorem cI_1 {c : Prop} (h : cI c ≠ 0) : c := Classical.byContradiction fun z => h (cI_f z)
theorem cI_congr {c d : Prop} (h : c ↔ d) : cI c = cI d := by rw [propext h]
/-- the lots on the table together -/
def tabS (s : Int → Int) : Int := sg (fun k => s (2087 + k)) (s 25).toNat
def Rel (B : Nat) (F : FM) (s : Int → Int) : Prop :=
  F B 0 = s 0 ∧ F B 1 = s 1 ∧ F B 2 = s 2 ∧ F B 3 = s 3 ∧ F B 4 = s 25 ∧ F B 5 = tabS s ∧ F B 6 = s 4 ∧
  (∀ p, 0 ≤ p → p < 4 → F (B + 1) p = s (126 + 6 * p) ∧ F (B + 2) p = s (126 + 6 * p + 1) ∧ F (B + 3) p = s (126 + 6 * p + 2) ∧ F (B + 4) p = s (126 + 6 * p + 3) ∧ F (B + 5) p = s (126 + 6 * p + 4) ∧ F (B + 6) p = s (126 + 6 * p + 5)) ∧
  (∀ k, 0 ≤ k → k < 3 → F (B + 7) k = s (26 + k)) ∧
  (∀ k, 0 ≤ k → k < s 25 → F (B + 8) k = s (2087 + k)) ∧
  (∀ k, 0 ≤ k → k < s 4 → F (B + 8) (s 25 + k) = s (5 + k)) ∧
  F (B + 9) 1 = s 29 ∧ (0 ≤ F (B + 9) 2 ∧ F (B + 9) 2 < 12) ∧ (∀ b j, 0 ≤ b → b < s 29 → 0 ≤ j → j < 8 → F (B + 10) ((F (B + 9) 2 + 12 - b) % 12 * 8 + j) = s (30 + 8 * b + j)) ∧
  F (B + 11) 4 = s 150 ∧ ∀ i, 0 ≤ i → i < s 150 → F (B + 12) i = s (151 + 4 * i) ∧ F (B + 13) i = s (151 + 4 * i + 1) ∧ F (B + 14) i = s (151 + 4 * i + 2) ∧ F (B + 15) i = s (151 + 4 * i + 3)
/-- what holds of every state of a game -/
def WF (s : Int → Int) : Prop :=
  (2 ≤ s 0 ∧ s 0 ≤ 4) ∧ (0 ≤ s 4 ∧ 0 ≤ s 25 ∧ s 4 + s 25 ≤ 20) ∧ (0 ≤ s 1 ∧ s 1 + sg (fun p => s (126 + 6 * p)) (s 0).toNat ≤ 120) ∧
  (∀ p, 0 ≤ p → p < 4 → 0 ≤ s (126 + 6 * p) ∧ s (126 + 6 * p) ≤ 120 ∧ -1 ≤ s (126 + 6 * p + 2) ∧ s (126 + 6 * p + 2) ≤ s (126 + 6 * p)) ∧
  ((0 ≤ s 26 ∧ s 26 ≤ 5) ∧ (0 ≤ s 27 ∧ s 27 ≤ 5) ∧ (0 ≤ s 28 ∧ s 28 ≤ 1)) ∧
  (∀ k, 0 ≤ k → k < s 4 → -9 ≤ s (5 + k) ∧ s (5 + k) ≤ 20) ∧ (∀ k, 0 ≤ k → k < s 25 → -9 ≤ s (2087 + k) ∧ s (2087 + k) ≤ 20) ∧
  (0 ≤ s 29 ∧ s 29 ≤ 12) ∧ (0 ≤ s 150 ∧ s 150 ≤ 484) ∧
  (∀ i, 0 ≤ i → i < s 150 → 0 ≤ s (151 + 4 * i) ∧ s (151 + 4 * i) < 4 ∧ 0 ≤ s (151 + 4 * i + 1) ∧ s (151 + 4 * i + 1) ≤ 120) ∧
  (∀ i j, 0 ≤ i → i < j → j < s 150 → ¬ (s (151 + 4 * i) = s (151 + 4 * j) ∧ s (151 + 4 * i + 1) = s (151 + 4 * j + 1))) ∧
  (0 ≤ s 2 ∧ s 2 ≤ 20000) ∧ (∀ p, 0 ≤ p → p < 4 → -(400 * s 2) ≤ s (126 + 6 * p + 1) ∧ s (126 + 6 * p + 1) ≤ 400 * s 2) ∧ (∀ j, inb (s j))
/-- sums over the players, or over the lots, stay small -/
theorem sg_bound {f : Int → Int} {a b : Int} : ∀ {n : Nat}, (∀ i : Int, 0 ≤ i → i < n → a ≤ f i ∧ f i ≤ b) → a * n ≤ sg f n ∧ sg f n ≤ b * n
  | 0, _ => by simp [sg]
  | n + 1, h => by
    have h1 := sg_bound (n := n) (fun i h0 h1 => h i h0 (by omega))
    have h2 := h n (by omega) (by omega)
    show a * ((n + 1 : Nat) : Int) ≤ sg f n + f n ∧ sg f n + f n ≤ b * ((n + 1 : Nat) : Int)
    rw [Int.natCast_succ, Int.mul_add, Int.mul_add]
    omega
theorem tabS_b {s : Int → Int} (h : WF s) : -180 ≤ tabS s ∧ tabS s ≤ 400 := by
  have h1 := sg_bound (f := fun k => s (2087 + k)) (a := -9) (b := 20) (n := (s 25).toNat) (fun i h0 h1 => h.2.2.2.2.2.2.1 i h0 (by omega))
  have h2 := h.2.1
  unfold tabS
  have h3 : (((s 25).toNat : Nat) : Int) = s 25 := by omega
  rw [h3] at h1
  omega
/-- the winner as things are -/
def ldS (pt co : Int → Int) : Nat → Int
  | 0 => 0
  | 1 => 0
  | n + 2 => if pt (ldS pt co (n + 1)) < pt ((n + 1 : Nat) : Int) ∨ pt (ldS pt co (n + 1)) = pt ((n + 1 : Nat) : Int) ∧ co (ldS pt co (n + 1)) < co ((n + 1 : Nat) : Int) then ((n + 1 : Nat) : Int) else ldS pt co (n + 1)
theorem ldS_s {pt co : Int → Int} {i : Int} (h : 1 ≤ i) : ldS pt co (i + 1).toNat = if pt (ldS pt co i.toNat) < pt i ∨ pt (ldS pt co i.toNat) = pt i ∧ co (ldS pt co i.toNat) < co i then i else ldS pt co i.toNat := by
  obtain ⟨n, rfl⟩ : ∃ n : Nat, i = ((n + 1 : Nat) : Int) := ⟨(i - 1).toNat, by omega⟩
  rw [show (((n + 1 : Nat) : Int) + 1).toNat = n + 2 by omega, Int.toNat_natCast]
  rfl
/-- the most of the others -/
def mxo (f : Int → Int) (p : Int) : Nat → Int
  | 0 => 0
  | n + 1 => if (n : Int) ≠ p ∧ mxo f p n < f (n : Int) then f (n : Int) else mxo f p n
theorem mxo_s {f : Int → Int} {p i : Int} (h : 0 ≤ i) : mxo f p (i + 1).toNat = if i ≠ p ∧ mxo f p i.toNat < f i then f i else mxo f p i.toNat := by
  obtain ⟨n, rfl⟩ : ∃ n : Nat, i = n := ⟨i.toNat, by omega⟩
  rw [show ((n : Int) + 1).toNat = n + 1 by omega, Int.toNat_natCast]
  rfl
theorem sp_hasPlayer {d : Nat} {kd : KL} {F : FM} {P : PM} {B : Nat} {s : Int → Int} {p : Int} (hd : 1 ≤ d) (hS : shS kd P B) (hR : Rel B F s) (hw : WF s) : Sp d 36 [.inr (some B), .inl p] kd F P (QE kd F P (cI (0 ≤ p ∧ p < s 0))) := by
  refine Sp_of (me := mX5_hasPlayer) (by omega) pX5_hasPlayer ⟨rfl, Nat.le_of_ble_eq_true rfl⟩ ?_
  obtain ⟨r0, r1, r2, r3, r4, r5, r6, rp, rse, rt, rl, rg1, rg2, rg, rn, rr⟩ := id hR
  obtain ⟨w0, w1, w2, w3, w4, w5, w6, w7, w8, w9, w10, w11, w12, w13⟩ := id hw
  refine R_iload_n fX5_hasPlayer_0 rfl ?_
  refine R_if_lt fX5_hasPlayer_1 rfl (fun h1 => ?_) (fun h1 => ?_)
  · refine R_iconst fX5_hasPlayer_16 ?_
    refine R_zreturn fX5_hasPlayer_17 rfl (by simp) ?_
    simp only [QE]; (first | rw [cI_t (by omega)] | rw [cI_f (by omega)])
  · refine R_iload_n fX5_hasPlayer_4 rfl ?_
    refine R_aload_n fX5_hasPlayer_5 rfl ?_
    refine R_getI 0 fX5_hasPlayer_6 (shS_k0 hS) (shS_3 hS 0) rfl rfl rfl ?_
    refine R_icmp_ge fX5_hasPlayer_9 rfl (fun h9 => ?_) (fun h9 => ?_)
    · refine R_iconst fX5_hasPlayer_16 ?_
      refine R_zreturn fX5_hasPlayer_17 rfl (by simp) ?_
      simp only [QE]; (first | rw [cI_t (by omega)] | rw [cI_f (by omega)])
    · refine R_iconst fX5_hasPlayer_12 ?_
      refine R_goto fX5_hasPlayer_13 rfl ?_
      refine R_zreturn fX5_hasPlayer_17 rfl (by simp) ?_
      simp only [QE]; (first | rw [cI_t (by omega)] | rw [cI_f (by omega)])
theorem sp_isOver {d : Nat} {kd : KL} {F : FM} {P : PM} {B : Nat} {s : Int → Int} (hd : 1 ≤ d) (hS : shS kd P B) (hR : Rel B F s) (hw : WF s) : Sp d 37 [.inr (some B)] kd F P (QE kd F P (cI (s 4 = 0))) := by
  refine Sp_of (me := mX5_isOver) (by omega) pX5_isOver ⟨rfl, Nat.le_of_ble_eq_true rfl⟩ ?_
  obtain ⟨r0, r1, r2, r3, r4, r5, r6, rp, rse, rt, rl, rg1, rg2, rg, rn, rr⟩ := id hR
  obtain ⟨w0, w1, w2, w3, w4, w5, w6, w7, w8, w9, w10, w11, w12, w13⟩ := id hw
  refine R_aload_n fX5_isOver_0 rfl ?_
  refine R_getI 6 fX5_isOver_1 (shS_k0 hS) (shS_3 hS 0) rfl rfl rfl ?_
  refine R_if_ne fX5_isOver_4 rfl (fun h4 => ?_) (fun h4 => ?_)
  · refine R_iconst fX5_isOver_11 ?_
    refine R_zreturn fX5_isOver_12 rfl (by simp) ?_
    simp only [QE]; (first | rw [cI_t (by omega)] | rw [cI_f (by omega)])
  · refine R_iconst fX5_isOver_7 ?_
    refine R_goto fX5_isOver_8 rfl ?_
    refine R_zreturn fX5_isOver_12 rfl (by simp) ?_
    simp only [QE]; (first | rw [cI_t (by omega)] | rw [cI_f (by omega)])
theorem sp_nextStake {d : Nat} {kd : KL} {F : FM} {P : PM} {B : Nat} {s : Int → Int} (hd : 2 ≤ d) (hS : shS kd P B) (hR : Rel B F s) (hw : WF s) : Sp d 38 [.inr (some B)] kd F P (QE kd F P (if s 4 = 0 then tabS s else tabS s + s 5)) := by
  refine Sp_of (me := mX5_nextStake) (by omega) pX5_nextStake ⟨rfl, Nat.le_of_ble_eq_true rfl⟩ ?_
  obtain ⟨r0, r1, r2, r3, r4, r5, r6, rp, rse, rt, rl, rg1, rg2, rg, rn, rr⟩ := id hR
  obtain ⟨w0, w1, w2, w3, w4, w5, w6, w7, w8, w9, w10, w11, w12, w13⟩ := id hw
  have hb := tabS_b hw
  refine R_aload_n fX5_nextStake_0 rfl ?_
  refine R_callE fX5_nextStake_1 rfl rfl pX5_isOver rfl ⟨Nat.le_of_ble_eq_true rfl, rcv_v rfl (shS_3 hS 0) (shS_k0 hS)⟩ (sp_isOver (by omega) hS hR hw) ?_
  refine R_if_eq fX5_nextStake_4 rfl (fun h4 => ?_) (fun h4 => ?_)
  · have h5 := cI_0 h4
    have hl := rl 0 (by omega) (by omega)
    rw [Int.add_zero, ← r4] at hl
    have hlb := w5 0 (by omega) (by omega)
    rw [Int.add_zero] at hlb hl
    refine R_aload_n fX5_nextStake_14 rfl ?_
    refine R_getI 5 fX5_nextStake_15 (shS_k0 hS) (shS_3 hS 0) rfl rfl rfl ?_
    refine R_aload_n fX5_nextStake_18 rfl ?_
    refine R_getP 14 fX5_nextStake_19 (shS_k0 hS) (shS_3 hS 0) rfl rfl rfl (shS_p14 hS) ?_
    refine R_aload_n fX5_nextStake_22 rfl ?_
    refine R_getI 4 fX5_nextStake_23 (shS_k0 hS) (shS_3 hS 0) rfl rfl rfl ?_
    refine R_iaload fX5_nextStake_26 (shS_k8 hS) (by omega) ?_
    refine R_iaddV fX5_nextStake_27 (wr_id (by unfold inb; rw [hl]; omega)) ?_
    refine R_ireturn fX5_nextStake_28 rfl ?_
    simp only [QE]; first | (rw [if_pos (cI_1 h4), r5]; done) | (rw [if_neg h5, r5, hl])
  · refine R_aload_n fX5_nextStake_7 rfl ?_
    refine R_getI 5 fX5_nextStake_8 (shS_k0 hS) (shS_3 hS 0) rfl rfl rfl ?_
    refine R_goto fX5_nextStake_11 rfl ?_
    refine R_ireturn fX5_nextStake_28 rfl ?_
    simp only [QE]; first | (rw [if_pos (cI_1 h4), r5]; done) | (rw [if_neg h5, r5, hl])
theorem sp_bidCount {d : Nat} {kd : KL} {F : FM} {P : PM} {B : Nat} {s : Int → Int} (hd : 1 ≤ d) (hS : shS kd P B) (hR : Rel B F s) (hw : WF s) : Sp d 39 [.inr (some B)] kd F P (QE kd F P (sg (fun p => if s (126 + 6 * p + 2) = -1 then 0 else 1) (s 0).toNat)) := by
  refine Sp_of (me := mX5_bidCount) (by omega) pX5_bidCount ⟨rfl, Nat.le_of_ble_eq_true rfl⟩ ?_
  obtain ⟨r0, r1, r2, r3, r4, r5, r6, rp, rse, rt, rl, rg1, rg2, rg, rn, rr⟩ := id hR
  obtain ⟨w0, w1, w2, w3, w4, w5, w6, w7, w8, w9, w10, w11, w12, w13⟩ := id hw
  have lp : ∀ (n : Nat) (m i : Int), 0 ≤ i → i ≤ s 0 → m = sg (fun p => if s (126 + 6 * p + 2) = -1 then 0 else 1) i.toNat → 0 ≤ m → m ≤ i → s 0 - i < n → Rn (d - 1) mX5_bidCount 4 [some (.inr (some B)), some (.inl m), some (.inl i)] [] kd F P (QE kd F P (sg (fun p => if s (126 + 6 * p + 2) = -1 then 0 else 1) (s 0).toNat)) := by
    intro n
    induction n with
    | zero => intro m i h0 h1 h2 h3 h4 h5; omega
    | succ n ih =>
      intro m i h0 h1 h2 h3 h4 h5
      refine R_iload_n fX5_bidCount_4 rfl ?_
      refine R_aload_n fX5_bidCount_5 rfl ?_
      refine R_getI 0 fX5_bidCount_6 (shS_k0 hS) (shS_3 hS 0) rfl rfl rfl ?_
      refine R_icmp_ge fX5_bidCount_9 rfl (fun h9 => ?_) (fun h9 => ?_)
      · refine R_iload_n fX5_bidCount_31 rfl ?_
        refine R_ireturn fX5_bidCount_32 rfl ?_
        simp only [QE]; rw [h2, show i = s 0 by omega]
      · have hp := (rp i h0 (by omega)).2.2.1
        refine R_aload_n fX5_bidCount_12 rfl ?_
        refine R_getP 9 fX5_bidCount_13 (shS_k0 hS) (shS_3 hS 0) rfl rfl rfl (shS_p9 hS) ?_
        refine R_iload_n fX5_bidCount_16 rfl ?_
        refine R_iaload fX5_bidCount_17 (shS_k3 hS) (by omega) ?_
        refine R_iconst fX5_bidCount_18 ?_
        refine R_icmp_eq fX5_bidCount_19 rfl (fun h19 => ?_) (fun h19 => ?_)
        · refine R_iinc fX5_bidCount_25 rfl (by omega) ?_
          refine R_goto fX5_bidCount_28 rfl ?_
          refine ih _ _ (by omega) (by omega) ?_ (by omega) (by omega) (by omega)
          rw [sg_s h0, h2]
          rw [hp] at h19
          simp [h19]
        · refine R_iinc fX5_bidCount_22 rfl (by omega) ?_
          refine R_iinc fX5_bidCount_25 rfl (by omega) ?_
          refine R_goto fX5_bidCount_28 rfl ?_
          refine ih _ _ (by omega) (by omega) ?_ (by omega) (by omega) (by omega)
          rw [sg_s h0, h2]
          rw [hp] at h19
          simp [h19]
  refine R_iconst fX5_bidCount_0 ?_
  refine R_istore_n fX5_bidCount_1 rfl ?_
  refine R_iconst fX5_bidCount_2 ?_
  refine R_istore_n fX5_bidCount_3 rfl ?_
  exact lp 5 0 0 (by omega) (by omega) rfl (by omega) (by omega) (by omega)
theorem sp_allCoins {d : Nat} {kd : KL} {F : FM} {P : PM} {B : Nat} {s : Int → Int} (hd : 1 ≤ d) (hS : shS kd P B) (hR : Rel B F s) (hw : WF s) : Sp d 42 [.inr (some B)] kd F P (QE kd F P (s 1 + sg (fun p => s (126 + 6 * p)) (s 0).toNat)) := by
  refine Sp_of (me := mX5_allCoins) (by omega) pX5_allCoins ⟨rfl, Nat.le_of_ble_eq_true rfl⟩ ?_
  obtain ⟨r0, r1, r2, r3, r4, r5, r6, rp, rse, rt, rl, rg1, rg2, rg, rn, rr⟩ := id hR
  obtain ⟨w0, w1, w2, w3, w4, w5, w6, w7, w8, w9, w10, w11, w12, w13⟩ := id hw
  have lp : ∀ (n : Nat) (m i : Int), 0 ≤ i → i ≤ s 0 → m = s 1 + sg (fun p => s (126 + 6 * p)) i.toNat → 0 ≤ m → m ≤ 120 + 120 * i → s 0 - i < n → Rn (d - 1) mX5_allCoins 7 [some (.inr (some B)), some (.inl m), some (.inl i)] [] kd F P (QE kd F P (s 1 + sg (fun p => s (126 + 6 * p)) (s 0).toNat)) := by
    intro n
    induction n with
    | zero => intro m i h0 h1 h2 h3 h4 h5; omega
    | succ n ih =>
      intro m i h0 h1 h2 h3 h4 h5
      refine R_iload_n fX5_allCoins_7 rfl ?_
      refine R_aload_n fX5_allCoins_8 rfl ?_
      refine R_getI 0 fX5_allCoins_9 (shS_k0 hS) (shS_3 hS 0) rfl rfl rfl ?_
      refine R_icmp_ge fX5_allCoins_12 rfl (fun h12 => ?_) (fun h12 => ?_)
      · refine R_iload_n fX5_allCoins_30 rfl ?_
        refine R_ireturn fX5_allCoins_31 rfl ?_
        simp only [QE]; rw [h2, show i = s 0 by omega]
      · have hp := (rp i h0 (by omega)).1
        have hq := w3 i h0 (by omega)
        refine R_iload_n fX5_allCoins_15 rfl ?_
        refine R_aload_n fX5_allCoins_16 rfl ?_
        refine R_getP 7 fX5_allCoins_17 (shS_k0 hS) (shS_3 hS 0) rfl rfl rfl (shS_p7 hS) ?_
        refine R_iload_n fX5_allCoins_20 rfl ?_
        refine R_iaload fX5_allCoins_21 (shS_k1 hS) (by omega) ?_
        refine R_iadd fX5_allCoins_22 (by omega) ?_
        refine R_istore_n fX5_allCoins_23 rfl ?_
        refine R_iinc fX5_allCoins_24 rfl (by omega) ?_
        refine R_goto fX5_allCoins_27 rfl ?_
        refine ih _ _ (by omega) (by omega) ?_ (by omega) (by omega) (by omega)
        rw [sg_s h0, h2, hp]
        omega
  have hsg := sg_bound (f := (fun p => s (126 + 6 * p))) (a := 0) (b := 120) (n := (s 0).toNat) (fun i h0 h1 => ⟨(w3 i h0 (by omega)).1, (w3 i h0 (by omega)).2.1⟩)
  refine R_aload_n fX5_allCoins_0 rfl ?_
  refine R_getI 1 fX5_allCoins_1 (shS_k0 hS) (shS_3 hS 0) rfl rfl rfl ?_
  refine R_istore_n fX5_allCoins_4 rfl ?_
  refine R_iconst fX5_allCoins_5 ?_
  refine R_istore_n fX5_allCoins_6 rfl ?_
  refine lp 5 (F B 1) 0 (by omega) (by omega) ?_ (by omega) (by omega) (by omega)
  rw [r1]; simp [sg]
