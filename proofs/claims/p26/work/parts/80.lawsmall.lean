/-! ## the law: rules for its own instructions, its small methods -/
section LAWRULES
variable {d : Nat} {me : ME} {pc : Nat} {L : LV} {S : List AV} {kd : KL} {F : FM} {P : PM} {Q : RS → Prop} {ri : RI}
theorem R_ishr {x y : Int} (h : ftc pc (me_ci me) = some (pc, .ishr, 1, ri)) (k : Rn d me (pc + 1) L (.inl (i32 x >>> (i32 y &&& 31)).toInt :: S) kd F P Q) : Rn d me pc L (.inl y :: .inl x :: S) kd F P Q := R_stp h rfl rfl rfl k
theorem R_ixor {x y : Int} (h : ftc pc (me_ci me) = some (pc, .ixor, 1, ri)) (k : Rn d me (pc + 1) L (.inl (i32 x ^^^ i32 y).toInt :: S) kd F P Q) : Rn d me pc L (.inl y :: .inl x :: S) kd F P Q := R_stp h rfl rfl rfl k
theorem R_newL {n : Int} (h : ftc pc (me_ci me) = some (pc, .newarray .long, 2, ri)) (hb : 0 ≤ n ∧ n ≤ 100000) (kk : Rn d me (pc + 2) L (.inr (some kd.length) :: S) (kd ++ [(30, n.toNat)]) (clF F kd.length) P Q) : Rn d me pc L (.inl n :: S) kd F P Q := R_stp h rfl rfl (by unfold stp; dsimp only; rw [if_neg (by decide), if_pos rfl]; unfold s_newl; dsimp only; rw [if_pos hb]) kk
theorem R_lcm1 {q n : Nat} {k r : Int} (h : ftc pc (me_ci me) = some (pc, .laload, 1, (1, 0, 0, 0))) (hk : kd[q]? = some (30, n)) (h3 : 3 ≤ q) (hb : 0 ≤ k ∧ k < n ∧ 0 ≤ F q k) (hl : ldI L 2 = some (.inl r)) (kk : Rn d me (pc + 8) L (.inl (cmpL (bt (F q k) 0) r) :: S) kd F P Q) : Rn d me pc L (.inl k :: .inr (some q) :: S) kd F P Q := R_stp h rfl rfl (by unfold stp; dsimp only; rw [if_pos rfl]; unfold s_lcm; dsimp only; rw [hl, hk]; exact if_pos ⟨h3, hb⟩) kk
theorem R_lcm2 {q n : Nat} {k r : Int} (h : ftc pc (me_ci me) = some (pc, .laload, 1, (2, 0, 0, 0))) (hk : kd[q]? = some (30, n)) (h3 : 3 ≤ q) (hb : 0 ≤ k ∧ k < n ∧ 0 ≤ F q k) (hl : ldI L 3 = some (.inl r)) (kk : Rn d me (pc + 11) L (.inl (cmpL (bt (F q k) 8) r) :: S) kd F P Q) : Rn d me pc L (.inl k :: .inr (some q) :: S) kd F P Q := R_stp h rfl rfl (by unfold stp; dsimp only; rw [if_neg (by decide), if_pos rfl]; unfold s_lcm; dsimp only; rw [hl, hk]; exact if_pos ⟨h3, hb⟩) kk
theorem R_lbt {q n : Nat} {k : Int} (h : ftc pc (me_ci me) = some (pc, .laload, 1, (3, 0, 0, 0))) (hk : kd[q]? = some (30, n)) (h3 : 3 ≤ q) (hb : 0 ≤ k ∧ k < n ∧ 0 ≤ F q k) (kk : Rn d me (pc + 9) L (.inl (bt (F q k) 16) :: S) kd F P Q) : Rn d me pc L (.inl k :: .inr (some q) :: S) kd F P Q := R_stp h rfl rfl (by unfold stp; dsimp only; rw [if_neg (by decide), if_neg (by decide), if_pos rfl]; unfold s_lbt; dsimp only; rw [hk]; exact if_pos ⟨h3, hb⟩) kk
theorem R_lcr4 {q n : Nat} {k r : Int} (h : ftc pc (me_ci me) = some (pc, .i2l, 1, (4, 0, 0, 0))) (hk : kd[q]? = some (30, n)) (h3 : 3 ≤ q) (hb : 0 ≤ k ∧ k < n ∧ 0 ≤ F q k) (hq : ldA L 4 = some (.inr (some q))) (hl : ldI L 7 = some (.inl k)) (kk : Rn d me (pc + 11) L (.inl (cmpL r (bt (F q k) 0)) :: S) kd F P Q) : Rn d me pc L (.inl r :: S) kd F P Q := R_stp h rfl rfl (by unfold stp; dsimp only; rw [if_pos rfl]; unfold s_lcr; rw [hq, hl]; dsimp only; rw [hk]; exact if_pos ⟨h3, hb⟩) kk
theorem R_lcr5 {q n sh : Nat} {k r : Int} (h : ftc pc (me_ci me) = some (pc, .i2l, 1, (5, sh, 0, 0))) (hk : kd[q]? = some (30, n)) (h3 : 3 ≤ q) (hb : 0 ≤ k ∧ k < n ∧ 0 ≤ F q k) (hq : ldA L 4 = some (.inr (some q))) (hl : ldI L 7 = some (.inl k)) (kk : Rn d me (pc + 14) L (.inl (cmpL r (bt (F q k) sh)) :: S) kd F P Q) : Rn d me pc L (.inl r :: S) kd F P Q := R_stp h rfl rfl (by unfold stp; dsimp only; rw [if_neg (by decide), if_pos rfl]; unfold s_lcr; rw [hq, hl]; dsimp only; rw [hk]; exact if_pos ⟨h3, hb⟩) kk
theorem R_lst {q n : Nat} {k p b : Int} (h : ftc pc (me_ci me) = some (pc, .i2l, 1, (6, 0, 0, 0))) (hk : kd[q]? = some (30, n)) (h3 : 3 ≤ q) (hb : 0 ≤ k ∧ k < n ∧ 0 ≤ p ∧ p < 256 ∧ 0 ≤ b ∧ b < 256) (hl : ldI L 3 = some (.inl b)) (kk : Rn d me (pc + 9) L S kd (stt F q k (p + 256 * b)) P Q) : Rn d me pc L (.inl p :: .inl k :: .inr (some q) :: S) kd F P Q := R_stp h rfl rfl (by unfold stp; dsimp only; rw [if_neg (by decide), if_neg (by decide), if_pos rfl]; unfold s_lst; rw [hl]; dsimp only; rw [hk]; exact if_pos ⟨h3, hb⟩) kk
theorem R_ladd {q n : Nat} {k w : Int} (h : ftc pc (me_ci me) = some (pc, .dup2, 1, (7, 0, 0, 0))) (hk : kd[q]? = some (30, n)) (h3 : 3 ≤ q) (hb : 0 ≤ k ∧ k < n ∧ 0 ≤ F q k ∧ F q k < 2000000000) (hl : ldI L 4 = some (.inl w)) (kk : Rn d me (pc + 20) L S kd (stt F q k (F q k + (65536 + if w = 0 then 0 else 16777216))) P Q) : Rn d me pc L (.inl k :: .inr (some q) :: S) kd F P Q := R_stp h rfl rfl (by unfold stp; dsimp only; rw [if_pos rfl]; unfold s_ladd; rw [hl]; dsimp only; rw [hk]; exact if_pos ⟨h3, hb⟩) kk
end LAWRULES
theorem cmpL_0 {a b : Int} : cmpL a b = 0 ↔ a = b := by
  unfold cmpL
  by_cases h : b < a
  · rw [if_pos h]; omega
  · rw [if_neg h]
    by_cases h2 : a = b
    · rw [if_pos h2]; omega
    · rw [if_neg h2]; omega
theorem and31 (x : Int) : 0 ≤ (i32 x &&& i32 2147483647).toInt ∧ (i32 x &&& i32 2147483647).toInt ≤ 2147483647 := by
  have e : (i32 x &&& i32 2147483647).toBitVec = (i32 x).toBitVec &&& (2147483647#32) := rfl
  have h0 : (i32 x &&& i32 2147483647).toInt = ((i32 x).toBitVec &&& (2147483647#32)).toInt := by rw [← e]; rfl
  rw [h0]
  have h1 : ((i32 x).toBitVec &&& (2147483647#32)).toNat < 2 ^ 31 := by
    rw [BitVec.toNat_and]
    show _ &&& (2147483647 : Nat) < _
    exact Nat.lt_of_le_of_lt Nat.and_le_right (by decide)
  rw [BitVec.toInt_eq_toNat_of_lt (by omega)]
  omega
theorem rem_pos {x n : Int} (hx : 0 ≤ x) (hn : 0 < n) : x - Int.tdiv x n * n = x % n := by
  rw [Int.tdiv_eq_ediv_of_nonneg hx, Int.emod_def, Int.mul_comm]
theorem wr_rem {x n : Int} (hx : 0 ≤ x) (hx2 : x < 2147483648) (hn : 0 < n) : wr (x - Int.tdiv x n * n) = x % n := by
  rw [rem_pos hx hn]
  have h1 := Int.emod_nonneg x (show n ≠ 0 by omega)
  have h3 := Int.mul_nonneg (Int.le_of_lt hn) (Int.ediv_nonneg hx (Int.le_of_lt hn))
  have h2 : x % n ≤ x := by rw [Int.emod_def]; omega
  exact wr_id (by unfold inb; omega)
theorem wr_div {x n : Int} (hx : 0 ≤ x) (hx2 : x < 2147483648) (hn : 0 < n) : wr (Int.tdiv x n) = x / n := by
  rw [Int.tdiv_eq_ediv_of_nonneg hx]
  have h1 := Int.ediv_nonneg hx (Int.le_of_lt hn)
  have h2 : x / n ≤ x := Int.ediv_le_self _ hx
  exact wr_id (by unfold inb; omega)
theorem sp_cell {d : Nat} {kd : KL} {F : FM} {P : PM} {L : Nat} {k : Int} (hd : 1 ≤ d) (hL : kd[0]? = some (0, L)) (hLb : L ≤ 260) (hk : 0 ≤ k ∧ k ≤ 100) (hF : ∀ j, inb (F 0 j)) : ∃ v, inb v ∧ Sp d 90 [.inr (some 0), .inl k] kd F P (QE kd F P v) := by
  refine ⟨if k < L then F 0 k else 40503 * (k + 3), by split; exact hF k; unfold inb; omega, ?_⟩
  refine Sp_of (me := mL_cell) (by omega) pL_cell ⟨rfl, Nat.le_of_ble_eq_true rfl⟩ ?_
  refine R_iload_n fL_cell_0 rfl ?_
  refine R_aload_n fL_cell_1 rfl ?_
  refine R_arraylength fL_cell_2 hL (by omega) ?_
  refine R_icmp_ge fL_cell_3 rfl (fun h3 => ?_) (fun h3 => ?_)
  · refine R_ldc fL_cell_12 ?_
    refine R_iload_n fL_cell_14 rfl ?_
    refine R_iconst fL_cell_15 ?_
    refine R_iadd fL_cell_16 (by omega) ?_
    refine R_imul fL_cell_17 (by omega) ?_
    refine R_ireturn fL_cell_18 rfl ?_
    simp only [QE]; first | (rw [if_pos (by omega)]; done) | (rw [if_neg (by omega)]; done)
  · refine R_aload_n fL_cell_6 rfl ?_
    refine R_iload_n fL_cell_7 rfl ?_
    refine R_iaload fL_cell_8 hL (by omega) ?_
    refine R_goto fL_cell_9 rfl ?_
    refine R_ireturn fL_cell_18 rfl ?_
    simp only [QE]; first | (rw [if_pos (by omega)]; done) | (rw [if_neg (by omega)]; done)
theorem sp_low {d : Nat} {kd : KL} {F : FM} {P : PM} {x n : Int} (hd : 1 ≤ d) (hn : 0 < n) : ∃ v, (0 ≤ v ∧ v < n) ∧ Sp d 91 [.inl x, .inl n] kd F P (QE kd F P v) := by
  have h := and31 x
  refine ⟨(i32 x &&& i32 2147483647).toInt % n, ⟨Int.emod_nonneg _ (by omega), Int.emod_lt_of_pos _ hn⟩, ?_⟩
  refine Sp_of (me := mL_low) (by omega) pL_low ⟨rfl, Nat.le_of_ble_eq_true rfl⟩ ?_
  refine R_iload_n fL_low_0 rfl ?_
  refine R_ldc fL_low_1 ?_
  refine R_iand fL_low_3 ?_
  refine R_iload_n fL_low_4 rfl ?_
  refine R_iremV fL_low_5 (by omega) (wr_rem h.1 (by omega) hn) ?_
  refine R_ireturn fL_low_6 rfl ?_
  simp only [QE]
theorem sp_less {d : Nat} {kd : KL} {F : FM} {P : PM} {a b : Int} (hd : 1 ≤ d) : Sp d 94 [.inl a, .inl b] kd F P (QE kd F P (if b < a then b else a)) := by
  refine Sp_of (me := mL_less) (by omega) pL_less ⟨rfl, Nat.le_of_ble_eq_true rfl⟩ ?_
  refine R_iload_n fL_less_0 rfl ?_
  refine R_iload_n fL_less_1 rfl ?_
  refine R_icmp_le fL_less_2 rfl (fun h2 => ?_) (fun h2 => ?_)
  · refine R_iload_n fL_less_9 rfl ?_
    refine R_ireturn fL_less_10 rfl ?_
    simp only [QE]; first | (rw [if_pos (by omega)]; done) | (rw [if_neg (by omega)]; done)
  · refine R_iload_n fL_less_5 rfl ?_
    refine R_goto fL_less_6 rfl ?_
    refine R_ireturn fL_less_10 rfl ?_
    simp only [QE]; first | (rw [if_pos (by omega)]; done) | (rw [if_neg (by omega)]; done)
theorem sp_sum {d : Nat} {kd : KL} {F : FM} {P : PM} {n : Int} (hd : 1 ≤ d) (kt : kd[130]? = some (0, 40)) (hn : 0 ≤ n ∧ n ≤ 20) (hv : ∀ k, 0 ≤ k → k < n → -9 ≤ F 130 k ∧ F 130 k ≤ 20) : Sp d 92 [.inr (some 130), .inl n] kd F P (QE kd F P (sg (F 130) n.toNat)) := by
  refine Sp_of (me := mL_sum) (by omega) pL_sum ⟨rfl, Nat.le_of_ble_eq_true rfl⟩ ?_
  have lp : ∀ (N : Nat) (m i : Int), 0 ≤ i → i ≤ n → m = sg (F 130) i.toNat → -9 * i ≤ m → m ≤ 20 * i → n - i < N → Rn (d - 1) mL_sum 4 [some (.inr (some 130)), some (.inl n), some (.inl m), some (.inl i)] [] kd F P (QE kd F P (sg (F 130) n.toNat)) := by
    intro N
    induction N with
    | zero => intro m i h0 h1 h2 h3 h4 h5; omega
    | succ N ih =>
      intro m i h0 h1 h2 h3 h4 h5
      refine R_iload_n fL_sum_4 rfl ?_
      refine R_iload_n fL_sum_5 rfl ?_
      refine R_icmp_ge fL_sum_6 rfl (fun h6 => ?_) (fun h6 => ?_)
      · refine R_iload_n fL_sum_21 rfl ?_
        refine R_ireturn fL_sum_22 rfl ?_
        simp only [QE]; rw [h2, show i = n by omega]
      · have hq := hv i h0 (by omega)
        refine R_iload_n fL_sum_9 rfl ?_
        refine R_aload_n fL_sum_10 rfl ?_
        refine R_iload_n fL_sum_11 rfl ?_
        refine R_iaload fL_sum_12 kt (by omega) ?_
        refine R_iadd fL_sum_13 (by omega) ?_
        refine R_istore_n fL_sum_14 rfl ?_
        refine R_iinc fL_sum_15 rfl (by omega) ?_
        refine R_goto fL_sum_18 rfl ?_
        refine ih _ _ (by omega) (by omega) ?_ (by omega) (by omega) (by omega)
        rw [sg_s h0, h2]
  refine R_iconst fL_sum_0 ?_
  refine R_istore_n fL_sum_1 rfl ?_
  refine R_iconst fL_sum_2 ?_
  refine R_istore_n fL_sum_3 rfl ?_
  exact lp (n.toNat + 1) 0 0 (by omega) (by omega) rfl (by omega) (by omega) (by omega)
theorem sp_bids {d : Nat} {kd : KL} {F : FM} {P : PM} {n : Int} (hd : 1 ≤ d) (kg : kd[128]? = some (0, 11)) (kp : kd[131]? = some (0, 24)) (hn : 0 ≤ n ∧ n ≤ 4) (hg : F 128 0 = n) : Sp d 93 [.inr (some 128), .inr (some 131)] kd F P (QE kd F P (sg (fun p => if F 131 (6 * p + 2) < 0 then 0 else 1) n.toNat)) := by
  refine Sp_of (me := mL_bids) (by omega) pL_bids ⟨rfl, Nat.le_of_ble_eq_true rfl⟩ ?_
  have lp : ∀ (N : Nat) (m i : Int), 0 ≤ i → i ≤ n → m = sg (fun p => if F 131 (6 * p + 2) < 0 then 0 else 1) i.toNat → 0 ≤ m → m ≤ i → n - i < N → Rn (d - 1) mL_bids 4 [some (.inr (some 128)), some (.inr (some 131)), some (.inl m), some (.inl i)] [] kd F P (QE kd F P (sg (fun p => if F 131 (6 * p + 2) < 0 then 0 else 1) n.toNat)) := by
    intro N
    induction N with
    | zero => intro m i h0 h1 h2 h3 h4 h5; omega
    | succ N ih =>
      intro m i h0 h1 h2 h3 h4 h5
      refine R_iload_n fL_bids_4 rfl ?_
      refine R_aload_n fL_bids_5 rfl ?_
      refine R_iconst fL_bids_6 ?_
      refine R_iaload fL_bids_7 kg (by omega) ?_
      refine R_icmp_ge fL_bids_8 rfl (fun h8 => ?_) (fun h8 => ?_)
      · refine R_iload_n fL_bids_36 rfl ?_
        refine R_ireturn fL_bids_37 rfl ?_
        simp only [QE]; rw [h2, show i = n by omega]
      · refine R_iload_n fL_bids_11 rfl ?_
        refine R_aload_n fL_bids_12 rfl ?_
        refine R_bipush fL_bids_13 ?_
        refine R_iload_n fL_bids_15 rfl ?_
        refine R_imul fL_bids_16 (by omega) ?_
        refine R_iconst fL_bids_17 ?_
        refine R_iadd fL_bids_18 (by omega) ?_
        refine R_iaload fL_bids_19 kp (by omega) ?_
        refine R_if_ge fL_bids_20 rfl (fun h20 => ?_) (fun h20 => ?_)
        · refine R_iconst fL_bids_27 ?_
          refine R_iadd fL_bids_28 (by omega) ?_
          refine R_istore_n fL_bids_29 rfl ?_
          refine R_iinc fL_bids_30 rfl (by omega) ?_
          refine R_goto fL_bids_33 rfl ?_
          refine ih _ _ (by omega) (by omega) ?_ (by omega) (by omega) (by omega)
          rw [sg_s h0, h2]
          first | (rw [if_pos (by omega)]; done) | (rw [if_neg (by omega)]; done)
        · refine R_iconst fL_bids_23 ?_
          refine R_goto fL_bids_24 rfl ?_
          refine R_iadd fL_bids_28 (by omega) ?_
          refine R_istore_n fL_bids_29 rfl ?_
          refine R_iinc fL_bids_30 rfl (by omega) ?_
          refine R_goto fL_bids_33 rfl ?_
          refine ih _ _ (by omega) (by omega) ?_ (by omega) (by omega) (by omega)
          rw [sg_s h0, h2]
          first | (rw [if_pos (by omega)]; done) | (rw [if_neg (by omega)]; done)
  refine R_iconst fL_bids_0 ?_
  refine R_istore_n fL_bids_1 rfl ?_
  refine R_iconst fL_bids_2 ?_
  refine R_istore_n fL_bids_3 rfl ?_
  exact lp 5 0 0 (by omega) (by omega) rfl (by omega) (by omega) (by omega)
