/-! ## the reference: row 128; its game at 129 -/
def setr (F : FM) (k : Nat) (g : Int → Int) : FM := fun a => if a = k then g else F a
theorem setr_eq (F : FM) (k : Nat) (g : Int → Int) : setr F k g k = g := if_pos rfl
theorem setr_ne (F : FM) {k a : Nat} (g : Int → Int) (h : a ≠ k) : setr F k g a = F a := if_neg h
theorem setr_id (F : FM) (k : Nat) : setr F k (F k) = F := funext fun a => by
  unfold setr
  split
  · next h => rw [h]
  · rfl
theorem setr_setr (F : FM) (k : Nat) (g g' : Int → Int) : setr (setr F k g) k g' = setr F k g' := funext fun a => by
  unfold setr
  split <;> rfl
theorem stt_setr (F : FM) (k : Nat) (g : Int → Int) (j v : Int) : stt (setr F k g) k j v = setr F k (up g j v) := funext fun a => funext fun b => by
  unfold stt setr up
  by_cases h : a = k
  · rw [if_pos h]
    by_cases h2 : b = j
    · rw [if_pos ⟨h, h2⟩, if_pos h]
      show v = if b = j then v else g b
      rw [if_pos h2]
    · rw [if_neg (fun z => h2 z.2), if_pos h]
      exact (if_neg h2).symm
  · rw [if_neg (fun z => h z.1), if_neg h, if_neg h]
def shM (kd : KL) (P : PM) : Prop := kd[128]? = some (10, 22) ∧ kd[129]? = some (0, 2107) ∧ kd[130]? = some (0, 8428) ∧ kd[131]? = some (0, 2107) ∧ kd[132]? = some (0, 2107) ∧ kd[133]? = some (0, 2107) ∧ kd[134]? = some (0, 60) ∧ kd[135]? = some (0, 2) ∧ P 128 0 = some 129 ∧ P 128 1 = some 130 ∧ P 128 2 = some 131 ∧ P 128 3 = some 132 ∧ P 128 4 = some 133 ∧ P 128 8 = some 134 ∧ P 128 21 = some 135
/-- what the reference's own steps need of its row -/
def W0 (s : Int → Int) : Prop := (2 ≤ s 0 ∧ s 0 ≤ 4) ∧ (0 ≤ s 4 ∧ 0 ≤ s 25 ∧ s 4 + s 25 ≤ 20)
theorem sp_min {d : Nat} {kd : KL} {F : FM} {P : PM} {v a b : Int} (hd : 1 ≤ d) : Sp d 88 [.inl v, .inl a, .inl b] kd F P (QE kd F P (if a ≤ v ∧ v ≤ b then 1 else 0)) := by
  refine Sp_of (me := mX8_in) (by omega) pX8_in ⟨rfl, Nat.le_of_ble_eq_true rfl⟩ ?_
  refine R_iload_n fX8_in_0 rfl ?_
  refine R_iload_n fX8_in_1 rfl ?_
  refine R_icmp_lt fX8_in_2 rfl (fun h2 => ?_) (fun h2 => ?_)
  · refine R_iconst fX8_in_14 ?_
    refine R_zreturn fX8_in_15 rfl (by simp) ?_
    simp only [QE]; (first | rw [if_pos (by omega)] | rw [if_neg (by omega)])
  · refine R_iload_n fX8_in_5 rfl ?_
    refine R_iload_n fX8_in_6 rfl ?_
    refine R_icmp_gt fX8_in_7 rfl (fun h7 => ?_) (fun h7 => ?_)
    · refine R_iconst fX8_in_14 ?_
      refine R_zreturn fX8_in_15 rfl (by simp) ?_
      simp only [QE]; (first | rw [if_pos (by omega)] | rw [if_neg (by omega)])
    · refine R_iconst fX8_in_10 ?_
      refine R_goto fX8_in_11 rfl ?_
      refine R_zreturn fX8_in_15 rfl (by simp) ?_
      simp only [QE]; (first | rw [if_pos (by omega)] | rw [if_neg (by omega)])
theorem sp_mleast {d : Nat} {kd : KL} {F : FM} {P : PM} {a b : Int} (hd : 1 ≤ d) : Sp d 102 [.inl a, .inl b] kd F P (QE kd F P (if a < b then a else b)) := by
  refine Sp_of (me := mX8_least) (by omega) pX8_least ⟨rfl, Nat.le_of_ble_eq_true rfl⟩ ?_
  refine R_iload_n fX8_least_0 rfl ?_
  refine R_iload_n fX8_least_1 rfl ?_
  refine R_icmp_ge fX8_least_2 rfl (fun h2 => ?_) (fun h2 => ?_)
  · refine R_iload_n fX8_least_9 rfl ?_
    refine R_ireturn fX8_least_10 rfl ?_
    simp only [QE]; (first | rw [if_pos (by omega)] | rw [if_neg (by omega)])
  · refine R_iload_n fX8_least_5 rfl ?_
    refine R_goto fX8_least_6 rfl ?_
    refine R_ireturn fX8_least_10 rfl ?_
    simp only [QE]; (first | rw [if_pos (by omega)] | rw [if_neg (by omega)])
theorem sp_misPlayer {d : Nat} {kd : KL} {F : FM} {P : PM} {s : Int → Int} {p : Int} (hd : 1 ≤ d) (hM : shM kd P)  : Sp d 91 [.inr (some 128), .inl p] kd (setr F 129 s) P (QE kd (setr F 129 s) P (if 0 ≤ p ∧ p < s 0 then 1 else 0)) := by
  refine Sp_of (me := mX8_isPlayer) (by omega) pX8_isPlayer ⟨rfl, Nat.le_of_ble_eq_true rfl⟩ ?_
  refine R_iload_n fX8_isPlayer_0 rfl ?_
  refine R_if_lt fX8_isPlayer_1 rfl (fun h1 => ?_) (fun h1 => ?_)
  · refine R_iconst fX8_isPlayer_18 ?_
    refine R_zreturn fX8_isPlayer_19 rfl (by simp) ?_
    simp only [QE]; (first | rw [if_pos (by omega)] | rw [if_neg (by omega)])
  · refine R_iload_n fX8_isPlayer_4 rfl ?_
    refine R_aload_n fX8_isPlayer_5 rfl ?_
    refine R_getP 0 fX8_isPlayer_6 hM.1 (by omega) rfl rfl rfl hM.2.2.2.2.2.2.2.2.1 ?_
    refine R_iconst fX8_isPlayer_9 ?_
    refine R_iaload fX8_isPlayer_10 hM.2.1 (by omega) ?_
    rw [setr_eq]
    refine R_icmp_ge fX8_isPlayer_11 rfl (fun h11 => ?_) (fun h11 => ?_)
    · refine R_iconst fX8_isPlayer_18 ?_
      refine R_zreturn fX8_isPlayer_19 rfl (by simp) ?_
      simp only [QE]; (first | rw [if_pos (by omega)] | rw [if_neg (by omega)])
    · refine R_iconst fX8_isPlayer_14 ?_
      refine R_goto fX8_isPlayer_15 rfl ?_
      refine R_zreturn fX8_isPlayer_19 rfl (by simp) ?_
      simp only [QE]; (first | rw [if_pos (by omega)] | rw [if_neg (by omega)])
theorem sp_mof {d : Nat} {kd : KL} {F : FM} {P : PM} {s : Int → Int} {p w : Int} (hd : 1 ≤ d) (hM : shM kd P) (hp : 0 ≤ p ∧ p < 4) (hw : 0 ≤ w ∧ w < 6) : Sp d 92 [.inr (some 128), .inl p, .inl w] kd (setr F 129 s) P (QE kd (setr F 129 s) P (s (126 + 6 * p + w))) := by
  refine Sp_of (me := mX8_of) (by omega) pX8_of ⟨rfl, Nat.le_of_ble_eq_true rfl⟩ ?_
  refine R_aload_n fX8_of_0 rfl ?_
  refine R_getP 0 fX8_of_1 hM.1 (by omega) rfl rfl rfl hM.2.2.2.2.2.2.2.2.1 ?_
  refine R_bipush fX8_of_4 ?_
  refine R_bipush fX8_of_6 ?_
  refine R_iload_n fX8_of_8 rfl ?_
  refine R_imul fX8_of_9 (by omega) ?_
  refine R_iadd fX8_of_10 (by omega) ?_
  refine R_iload_n fX8_of_11 rfl ?_
  refine R_iadd fX8_of_12 (by omega) ?_
  refine R_iaload fX8_of_13 hM.2.1 (by omega) ?_
  rw [setr_eq]
  refine R_ireturn fX8_of_14 rfl ?_
  rfl
theorem sp_mbids {d : Nat} {kd : KL} {F : FM} {P : PM} {s : Int → Int}  (hd : 2 ≤ d) (hM : shM kd P) (h0 : 0 ≤ s 0 ∧ s 0 ≤ 4) : Sp d 96 [.inr (some 128)] kd (setr F 129 s) P (QE kd (setr F 129 s) P (sg (fun p => if s (126 + 6 * p + 2) < 0 then 0 else 1) (s 0).toNat)) := by
  refine Sp_of (me := mX8_bids) (by omega) pX8_bids ⟨rfl, Nat.le_of_ble_eq_true rfl⟩ ?_
  have lp : ∀ (N : Nat) (i : Int), 0 ≤ i → i ≤ s 0 → (0 ≤ sg (fun p => if s (126 + 6 * p + 2) < 0 then 0 else 1) i.toNat ∧ sg (fun p => if s (126 + 6 * p + 2) < 0 then 0 else 1) i.toNat ≤ i) → s 0 - i < N → Rn (d - 1) mX8_bids 4 [some (.inr (some 128)), some (.inl (sg (fun p => if s (126 + 6 * p + 2) < 0 then 0 else 1) i.toNat)), some (.inl i)] [] kd (setr F 129 s) P (QE kd (setr F 129 s) P (sg (fun p => if s (126 + 6 * p + 2) < 0 then 0 else 1) (s 0).toNat)) := by
    intro N
    induction N with
    | zero => intro i h1 h2 h3 h4; omega
    | succ N ih =>
      intro i h1 h2 h3 h4
      refine R_iload_n fX8_bids_4 rfl ?_
      refine R_aload_n fX8_bids_5 rfl ?_
      refine R_getP 0 fX8_bids_6 hM.1 (by omega) rfl rfl rfl hM.2.2.2.2.2.2.2.2.1 ?_
      refine R_iconst fX8_bids_9 ?_
      refine R_iaload fX8_bids_10 hM.2.1 (by omega) ?_
      rw [setr_eq]
      refine R_icmp_ge fX8_bids_11 rfl (fun h11 => ?_) (fun h11 => ?_)
      · refine R_iload_n fX8_bids_37 rfl ?_
        refine R_ireturn fX8_bids_38 rfl ?_
        simp only [QE]; rw [show i = s 0 by omega]
      · refine R_iload_n fX8_bids_14 rfl ?_
        refine R_aload_n fX8_bids_15 rfl ?_
        refine R_iload_n fX8_bids_16 rfl ?_
        refine R_iconst fX8_bids_17 ?_
        refine R_callE fX8_bids_18 rfl rfl pX8_of rfl ⟨Nat.le_of_ble_eq_true rfl, rcv_v rfl (by omega) hM.1⟩ (sp_mof (by omega) hM ⟨h1, by omega⟩ (by omega)) ?_
        refine R_if_lt fX8_bids_21 rfl (fun h21 => ?_) (fun h21 => ?_)
        · refine R_iconst fX8_bids_28 ?_
          refine R_iadd fX8_bids_29 (by omega) ?_
          refine R_istore_n fX8_bids_30 rfl ?_
          refine R_iinc fX8_bids_31 rfl (by omega) ?_
          refine R_goto fX8_bids_34 rfl ?_
          have hs := sg_s (f := (fun p => if s (126 + 6 * p + 2) < 0 then 0 else 1)) h1
          first | rw [if_pos h21] at hs | rw [if_neg (by omega)] at hs
          rw [← hs]
          exact ih (i + 1) (by omega) (by omega) (by omega) (by omega)
        · refine R_iconst fX8_bids_24 ?_
          refine R_goto fX8_bids_25 rfl ?_
          refine R_iadd fX8_bids_29 (by omega) ?_
          refine R_istore_n fX8_bids_30 rfl ?_
          refine R_iinc fX8_bids_31 rfl (by omega) ?_
          refine R_goto fX8_bids_34 rfl ?_
          have hs := sg_s (f := (fun p => if s (126 + 6 * p + 2) < 0 then 0 else 1)) h1
          first | rw [if_pos h21] at hs | rw [if_neg (by omega)] at hs
          rw [← hs]
          exact ih (i + 1) (by omega) (by omega) (by omega) (by omega)
  refine R_iconst fX8_bids_0 ?_
  refine R_istore_n fX8_bids_1 rfl ?_
  refine R_iconst fX8_bids_2 ?_
  refine R_istore_n fX8_bids_3 rfl ?_
  exact lp 5 0 (by omega) (by omega) ⟨Int.le_refl 0, Int.le_refl 0⟩ (by omega)
theorem sp_monTable {d : Nat} {kd : KL} {F : FM} {P : PM} {s : Int → Int}  (hd : 1 ≤ d) (hM : shM kd P) (h0 : 0 ≤ s 25 ∧ s 25 ≤ 20) (hb : ∀ k, 0 ≤ k → k < s 25 → -9 ≤ s (2087 + k) ∧ s (2087 + k) ≤ 20) : Sp d 98 [.inr (some 128)] kd (setr F 129 s) P (QE kd (setr F 129 s) P (tabS s)) := by
  refine Sp_of (me := mX8_onTable) (by omega) pX8_onTable ⟨rfl, Nat.le_of_ble_eq_true rfl⟩ ?_
  have lp : ∀ (N : Nat) (i : Int), 0 ≤ i → i ≤ s 25 → (-(20 * i) ≤ sg (fun k => s (2087 + k)) i.toNat ∧ sg (fun k => s (2087 + k)) i.toNat ≤ 20 * i) → s 25 - i < N → Rn (d - 1) mX8_onTable 4 [some (.inr (some 128)), some (.inl (sg (fun k => s (2087 + k)) i.toNat)), some (.inl i)] [] kd (setr F 129 s) P (QE kd (setr F 129 s) P (tabS s)) := by
    intro N
    induction N with
    | zero => intro i h1 h2 h3 h4; omega
    | succ N ih =>
      intro i h1 h2 h3 h4
      refine R_iload_n fX8_onTable_4 rfl ?_
      refine R_aload_n fX8_onTable_5 rfl ?_
      refine R_getP 0 fX8_onTable_6 hM.1 (by omega) rfl rfl rfl hM.2.2.2.2.2.2.2.2.1 ?_
      refine R_bipush fX8_onTable_9 ?_
      refine R_iaload fX8_onTable_11 hM.2.1 (by omega) ?_
      rw [setr_eq]
      refine R_icmp_ge fX8_onTable_12 rfl (fun h12 => ?_) (fun h12 => ?_)
      · refine R_iload_n fX8_onTable_34 rfl ?_
        refine R_ireturn fX8_onTable_35 rfl ?_
        simp only [QE]; rw [show i = s 25 by omega]; rfl
      · have hbi := hb i h1 (by omega)
        refine R_iload_n fX8_onTable_15 rfl ?_
        refine R_aload_n fX8_onTable_16 rfl ?_
        refine R_getP 0 fX8_onTable_17 hM.1 (by omega) rfl rfl rfl hM.2.2.2.2.2.2.2.2.1 ?_
        refine R_sipush fX8_onTable_20 ?_
        refine R_iload_n fX8_onTable_23 rfl ?_
        refine R_iadd fX8_onTable_24 (by omega) ?_
        refine R_iaload fX8_onTable_25 hM.2.1 (by omega) ?_
        rw [setr_eq]
        refine R_iadd fX8_onTable_26 (by omega) ?_
        refine R_istore_n fX8_onTable_27 rfl ?_
        refine R_iinc fX8_onTable_28 rfl (by omega) ?_
        refine R_goto fX8_onTable_31 rfl ?_
        have hs := sg_s (f := (fun k => s (2087 + k))) h1
        rw [← hs]
        exact ih (i + 1) (by omega) (by omega) (by omega) (by omega)
  refine R_iconst fX8_onTable_0 ?_
  refine R_istore_n fX8_onTable_1 rfl ?_
  refine R_iconst fX8_onTable_2 ?_
  refine R_istore_n fX8_onTable_3 rfl ?_
  exact lp 30 0 (by omega) (by omega) ⟨Int.le_refl 0, Int.le_refl 0⟩ (by omega)
theorem sp_mgreatest {d : Nat} {kd : KL} {F : FM} {P : PM} {s : Int → Int}  (hd : 2 ≤ d) (hM : shM kd P) (h0 : 0 ≤ s 0 ∧ s 0 ≤ 4) : Sp d 99 [.inr (some 128)] kd (setr F 129 s) P (QE kd (setr F 129 s) P (grF (bdS s) (s 0).toNat)) := by
  refine Sp_of (me := mX8_greatest) (by omega) pX8_greatest ⟨rfl, Nat.le_of_ble_eq_true rfl⟩ ?_
  have lp : ∀ (N : Nat) (i : Int), 0 ≤ i → i ≤ s 0 → s 0 - i < N → Rn (d - 1) mX8_greatest 4 [some (.inr (some 128)), some (.inl (grF (bdS s) i.toNat)), some (.inl i)] [] kd (setr F 129 s) P (QE kd (setr F 129 s) P (grF (bdS s) (s 0).toNat)) := by
    intro N
    induction N with
    | zero => intro i h1 h2 h4; omega
    | succ N ih =>
      intro i h1 h2 h4
      refine R_iload_n fX8_greatest_4 rfl ?_
      refine R_aload_n fX8_greatest_5 rfl ?_
      refine R_getP 0 fX8_greatest_6 hM.1 (by omega) rfl rfl rfl hM.2.2.2.2.2.2.2.2.1 ?_
      refine R_iconst fX8_greatest_9 ?_
      refine R_iaload fX8_greatest_10 hM.2.1 (by omega) ?_
      rw [setr_eq]
      refine R_icmp_ge fX8_greatest_11 rfl (fun h11 => ?_) (fun h11 => ?_)
      · refine R_iload_n fX8_greatest_41 rfl ?_
        refine R_ireturn fX8_greatest_42 rfl ?_
        simp only [QE]; rw [show i = s 0 by omega]
      · refine R_aload_n fX8_greatest_14 rfl ?_
        refine R_iload_n fX8_greatest_15 rfl ?_
        refine R_iconst fX8_greatest_16 ?_
        refine R_callE fX8_greatest_17 rfl rfl pX8_of rfl ⟨Nat.le_of_ble_eq_true rfl, rcv_v rfl (by omega) hM.1⟩ (sp_mof (by omega) hM ⟨h1, by omega⟩ (by omega)) ?_
        refine R_iload_n fX8_greatest_20 rfl ?_
        refine R_icmp_le fX8_greatest_21 rfl (fun h21 => ?_) (fun h21 => ?_)
        · refine R_iload_n fX8_greatest_33 rfl ?_
          refine R_istore_n fX8_greatest_34 rfl ?_
          refine R_iinc fX8_greatest_35 rfl (by omega) ?_
          refine R_goto fX8_greatest_38 rfl ?_
          have hs := grF_s (f := bdS s) h1
          have hb : bdS s i = s (126 + 6 * i + 2) := rfl
          first | (rw [if_pos (by omega)] at hs; rw [← hb, ← hs]) | (rw [if_neg (by omega)] at hs; rw [← hs])
          exact ih (i + 1) (by omega) (by omega) (by omega)
        · refine R_aload_n fX8_greatest_24 rfl ?_
          refine R_iload_n fX8_greatest_25 rfl ?_
          refine R_iconst fX8_greatest_26 ?_
          refine R_callE fX8_greatest_27 rfl rfl pX8_of rfl ⟨Nat.le_of_ble_eq_true rfl, rcv_v rfl (by omega) hM.1⟩ (sp_mof (by omega) hM ⟨h1, by omega⟩ (by omega)) ?_
          refine R_goto fX8_greatest_30 rfl ?_
          refine R_istore_n fX8_greatest_34 rfl ?_
          refine R_iinc fX8_greatest_35 rfl (by omega) ?_
          refine R_goto fX8_greatest_38 rfl ?_
          have hs := grF_s (f := bdS s) h1
          have hb : bdS s i = s (126 + 6 * i + 2) := rfl
          first | (rw [if_pos (by omega)] at hs; rw [← hb, ← hs]) | (rw [if_neg (by omega)] at hs; rw [← hs])
          exact ih (i + 1) (by omega) (by omega) (by omega)
  refine R_iconst fX8_greatest_0 ?_
  refine R_istore_n fX8_greatest_1 rfl ?_
  refine R_iconst fX8_greatest_2 ?_
  refine R_istore_n fX8_greatest_3 rfl ?_
  exact lp 5 0 (by omega) (by omega) (by omega)
theorem sp_mlays {d : Nat} {kd : KL} {F : FM} {P : PM} {s : Int → Int}  (hd : 1 ≤ d) (hM : shM kd P) (h0 : 1 ≤ s 4 ∧ 0 ≤ s 25 ∧ s 4 + s 25 ≤ 20) : Sp d 100 [.inr (some 128)] kd (setr F 129 s) P (QN kd P (fun F' => F' = setr F 129 (laysS s))) := by
  refine Sp_of (me := mX8_lays) (by omega) pX8_lays ⟨rfl, Nat.le_of_ble_eq_true rfl⟩ ?_
  have lp : ∀ (N : Nat) (i : Int), 0 ≤ i → i ≤ s 4 - 1 → s 4 - 1 - i < N → Rn (d - 1) mX8_lays 45 [some (.inr (some 128)), some (.inl i)] [] kd (setr F 129 (fun j => if j = 2087 + s 25 then s 5 else if j = 25 then s 25 + 1 else if j = 4 then s 4 - 1 else if 5 ≤ j ∧ j < 5 + i then s (j + 1) else s j)) P (QN kd P (fun F' => F' = setr F 129 (laysS s))) := by
    intro N
    induction N with
    | zero => intro i h1 h2 h4; omega
    | succ N ih =>
      intro i h1 h2 h4
      generalize hg : (fun j => if j = 2087 + s 25 then s 5 else if j = 25 then s 25 + 1 else if j = 4 then s 4 - 1 else if 5 ≤ j ∧ j < 5 + i then s (j + 1) else s j) = g
      have g4 : g 4 = s 4 - 1 := by rw [← hg]; dsimp only; rw [if_neg (by omega), if_neg (by omega), if_pos rfl]
      refine R_iload_n fX8_lays_45 rfl ?_
      refine R_aload_n fX8_lays_46 rfl ?_
      refine R_getP 0 fX8_lays_47 hM.1 (by omega) rfl rfl rfl hM.2.2.2.2.2.2.2.2.1 ?_
      refine R_iconst fX8_lays_50 ?_
      refine R_iaload fX8_lays_51 hM.2.1 (by omega) ?_
      rw [setr_eq]
      refine R_icmp_ge fX8_lays_52 rfl (fun h52 => ?_) (fun h52 => ?_)
      · refine R_return fX8_lays_79 rfl ?_
        refine ⟨_, rfl, ?_⟩
        rw [← hg, show i = s 4 - 1 by omega]
        unfold laysS
        congr 1
        funext j
        rw [show 5 + (s 4 - 1) = 4 + s 4 by omega]
      · refine R_aload_n fX8_lays_55 rfl ?_
        refine R_getP 0 fX8_lays_56 hM.1 (by omega) rfl rfl rfl hM.2.2.2.2.2.2.2.2.1 ?_
        refine R_iconst fX8_lays_59 ?_
        refine R_iload_n fX8_lays_60 rfl ?_
        refine R_iadd fX8_lays_61 (by omega) ?_
        refine R_aload_n fX8_lays_62 rfl ?_
        refine R_getP 0 fX8_lays_63 hM.1 (by omega) rfl rfl rfl hM.2.2.2.2.2.2.2.2.1 ?_
        refine R_iconst fX8_lays_66 ?_
        refine R_iload_n fX8_lays_67 rfl ?_
        refine R_iadd fX8_lays_68 (by omega) ?_
        refine R_iconst fX8_lays_69 ?_
        refine R_iadd fX8_lays_70 (by omega) ?_
        refine R_iaload fX8_lays_71 hM.2.1 (by omega) ?_
        rw [setr_eq]
        refine R_iastore fX8_lays_72 hM.2.1 (by omega) (by omega) ?_
        rw [stt_setr]
        refine R_iinc fX8_lays_73 rfl (by omega) ?_
        refine R_goto fX8_lays_76 rfl ?_
        have e : up g (5 + i) (g (5 + i + 1)) = (fun j => if j = 2087 + s 25 then s 5 else if j = 25 then s 25 + 1 else if j = 4 then s 4 - 1 else if 5 ≤ j ∧ j < 5 + (i + 1) then s (j + 1) else s j) := by
          rw [← hg]
          funext j
          unfold up
          dsimp only
          by_cases hj : j = 5 + i
          · rw [if_pos hj, if_neg (by omega), if_neg (by omega), if_neg (by omega), if_neg (by omega), if_neg (by omega), if_neg (by omega), if_neg (by omega), if_pos (by omega), hj]
          · rw [if_neg hj]
            by_cases h5 : j = 2087 + s 25
            · rw [if_pos h5, if_pos h5]
            · rw [if_neg h5, if_neg h5]
              by_cases h6 : j = 25
              · rw [if_pos h6, if_pos h6]
              · rw [if_neg h6, if_neg h6]
                by_cases h7 : j = 4
                · rw [if_pos h7, if_pos h7]
                · rw [if_neg h7, if_neg h7]
                  by_cases h8 : 5 ≤ j ∧ j < 5 + i
                  · rw [if_pos h8, if_pos (by omega)]
                  · rw [if_neg h8, if_neg (by omega)]
        rw [e]
        exact ih (i + 1) (by omega) (by omega) (by omega)
  refine R_aload_n fX8_lays_0 rfl ?_
  refine R_getP 0 fX8_lays_1 hM.1 (by omega) rfl rfl rfl hM.2.2.2.2.2.2.2.2.1 ?_
  refine R_sipush fX8_lays_4 ?_
  refine R_aload_n fX8_lays_7 rfl ?_
  refine R_getP 0 fX8_lays_8 hM.1 (by omega) rfl rfl rfl hM.2.2.2.2.2.2.2.2.1 ?_
  refine R_bipush fX8_lays_11 ?_
  refine R_iaload fX8_lays_13 hM.2.1 (by omega) ?_
  rw [setr_eq]
  refine R_iadd fX8_lays_14 (by omega) ?_
  refine R_aload_n fX8_lays_15 rfl ?_
  refine R_getP 0 fX8_lays_16 hM.1 (by omega) rfl rfl rfl hM.2.2.2.2.2.2.2.2.1 ?_
  refine R_iconst fX8_lays_19 ?_
  refine R_iaload fX8_lays_20 hM.2.1 (by omega) ?_
  rw [setr_eq]
  refine R_iastore fX8_lays_21 hM.2.1 (by omega) (by omega) ?_
  rw [stt_setr]
  refine R_aload_n fX8_lays_22 rfl ?_
  refine R_getP 0 fX8_lays_23 hM.1 (by omega) rfl rfl rfl hM.2.2.2.2.2.2.2.2.1 ?_
  refine R_bipush fX8_lays_26 ?_
  refine R_dup2 fX8_lays_28 ?_
  refine R_iaload fX8_lays_29 hM.2.1 (by omega) ?_
  rw [setr_eq]
  refine R_iconst fX8_lays_30 ?_
  refine R_iadd fX8_lays_31 (by rw [up_ne _ _ (by omega)]; omega) ?_
  rw [up_ne _ _ (by omega)]
  refine R_iastore fX8_lays_32 hM.2.1 (by omega) (by omega) ?_
  rw [stt_setr]
  refine R_aload_n fX8_lays_33 rfl ?_
  refine R_getP 0 fX8_lays_34 hM.1 (by omega) rfl rfl rfl hM.2.2.2.2.2.2.2.2.1 ?_
  refine R_iconst fX8_lays_37 ?_
  refine R_dup2 fX8_lays_38 ?_
  refine R_iaload fX8_lays_39 hM.2.1 (by omega) ?_
  rw [setr_eq]
  refine R_iconst fX8_lays_40 ?_
  refine R_isub fX8_lays_41 (by rw [up_ne _ _ (by omega), up_ne _ _ (by omega)]; omega) ?_
  rw [up_ne _ _ (by omega), up_ne _ _ (by omega)]
  refine R_iastore fX8_lays_42 hM.2.1 (by omega) (by omega) ?_
  rw [stt_setr]
  refine R_iconst fX8_lays_43 ?_
  refine R_istore_n fX8_lays_44 rfl ?_
  have e : up (up (up s (2087 + s 25) (s 5)) 25 (s 25 + 1)) 4 (s 4 - 1) = (fun j => if j = 2087 + s 25 then s 5 else if j = 25 then s 25 + 1 else if j = 4 then s 4 - 1 else if 5 ≤ j ∧ j < 5 + 0 then s (j + 1) else s j) := by
    funext j
    unfold up
    by_cases h7 : j = 4
    · rw [if_pos h7, if_neg (by omega), if_neg (by omega), if_pos h7]
    · rw [if_neg h7]
      by_cases h6 : j = 25
      · rw [if_pos h6, if_neg (by omega), if_pos h6]
      · rw [if_neg h6]
        by_cases h5 : j = 2087 + s 25
        · rw [if_pos h5, if_pos h5]
        · rw [if_neg h5, if_neg h5, if_neg h6, if_neg h7, if_neg (by omega)]
  rw [e]
  exact lp 30 0 (by omega) (by omega) (by omega)
theorem sp_mpays {d : Nat} {kd : KL} {F : FM} {P : PM} {s : Int → Int} {p c : Int} (hd : 1 ≤ d) (hM : shM kd P) (hp : 0 ≤ p ∧ p < 4) : Sp d 101 [.inr (some 128), .inl p, .inl c] kd (setr F 129 s) P (QN kd P (fun F' => F' = setr F 129 (paysS s p c))) := by
  refine Sp_of (me := mX8_pays) (by omega) pX8_pays ⟨rfl, Nat.le_of_ble_eq_true rfl⟩ ?_
  refine R_aload_n fX8_pays_0 rfl ?_
  refine R_getP 0 fX8_pays_1 hM.1 (by omega) rfl rfl rfl hM.2.2.2.2.2.2.2.2.1 ?_
  refine R_bipush fX8_pays_4 ?_
  refine R_bipush fX8_pays_6 ?_
  refine R_iload_n fX8_pays_8 rfl ?_
  refine R_imul fX8_pays_9 (by omega) ?_
  refine R_iadd fX8_pays_10 (by omega) ?_
  refine R_iconst fX8_pays_11 ?_
  refine R_iadd fX8_pays_12 (by omega) ?_
  refine R_dup2 fX8_pays_13 ?_
  refine R_iaload fX8_pays_14 hM.2.1 (by omega) ?_
  rw [setr_eq]
  refine R_iload_n fX8_pays_15 rfl ?_
  refine R_isubV fX8_pays_16 (rfl) ?_
  refine R_iastore fX8_pays_17 hM.2.1 (by omega) (by omega) ?_
  rw [stt_setr]
  refine R_aload_n fX8_pays_18 rfl ?_
  refine R_getP 0 fX8_pays_19 hM.1 (by omega) rfl rfl rfl hM.2.2.2.2.2.2.2.2.1 ?_
  refine R_bipush fX8_pays_22 ?_
  refine R_bipush fX8_pays_24 ?_
  refine R_iload_n fX8_pays_26 rfl ?_
  refine R_imul fX8_pays_27 (by omega) ?_
  refine R_iadd fX8_pays_28 (by omega) ?_
  refine R_iconst fX8_pays_29 ?_
  refine R_iadd fX8_pays_30 (by omega) ?_
  refine R_dup2 fX8_pays_31 ?_
  refine R_iaload fX8_pays_32 hM.2.1 (by omega) ?_
  rw [setr_eq]
  refine R_iload_n fX8_pays_33 rfl ?_
  refine R_iaddV fX8_pays_34 (rfl) ?_
  refine R_iastore fX8_pays_35 hM.2.1 (by omega) (by omega) ?_
  rw [stt_setr]
  refine R_aload_n fX8_pays_36 rfl ?_
  refine R_getP 0 fX8_pays_37 hM.1 (by omega) rfl rfl rfl hM.2.2.2.2.2.2.2.2.1 ?_
  refine R_iconst fX8_pays_40 ?_
  refine R_dup2 fX8_pays_41 ?_
  refine R_iaload fX8_pays_42 hM.2.1 (by omega) ?_
  rw [setr_eq]
  refine R_iload_n fX8_pays_43 rfl ?_
  refine R_iaddV fX8_pays_44 (rfl) ?_
  refine R_iastore fX8_pays_45 hM.2.1 (by omega) (by omega) ?_
  rw [stt_setr]
  refine R_return fX8_pays_46 rfl ?_
  refine ⟨_, rfl, ?_⟩
  congr 1
  funext j
  unfold paysS up
  simp only [Int.add_zero]
  by_cases h1 : j = 1
  · subst h1
    rw [if_pos rfl, if_neg (by omega), if_neg (by omega), if_neg (by omega), if_neg (by omega), if_pos rfl]
  · rw [if_neg h1]
    by_cases h2 : j = 126 + 6 * p + 4
    · subst h2
      rw [if_pos rfl, if_neg (by omega), if_neg (by omega), if_pos rfl]
    · rw [if_neg h2]
      by_cases h3 : j = 126 + 6 * p
      · subst h3
        rw [if_pos rfl, if_pos rfl]
      · rw [if_neg h3, if_neg h3, if_neg h2, if_neg h1]
