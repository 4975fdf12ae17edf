/-! ## the class's object beside the law's rows -/
def WD (kd : KL) (F : FM) (P : PM) (s : Int → Int) : Prop := ∃ m σ, CW kd F P s m σ 0 (fun _ => 0) 0 (fun _ => 0) ∧ AW s m σ 0 (fun _ => 0) 0
theorem WD_wf {kd : KL} {F : FM} {P : PM} {s : Int → Int} (h : WD kd F P s) : WF s := by
  obtain ⟨m, σ, -, hA⟩ := h
  exact hA.1
theorem WD_lt {kd : KL} {F F' : FM} {P : PM} {s : Int → Int} (h : WD kd F P s) (hF : ∀ k, k < 128 → F' k = F k) : WD kd F' P s := by
  obtain ⟨m, σ, hW, hA⟩ := h
  refine ⟨m, σ, ?_, hA⟩
  have hm := hA.2.1
  obtain ⟨b, e, h, hX, a1, a2, a3, a4, a5, a6, a7, a8⟩ := hW
  have hb := isB_b hX.2.2.2.2.2.2.2.2.1.1
  refine ⟨b, e, h, hX, Rel_frame a1 (fun k x y => hF k (by omega)), by rw [hF 4 (by omega)]; exact a2, fun j j0 j1 => ?_, by rw [hF 3 (by omega)]; exact a4, fun z => ?_, by rw [hF 86 (by omega)]; exact a6, by rw [hF 87 (by omega)]; exact a7, by rw [hF 2 (by omega)]; exact a8⟩
  · have hj := isB_b (hX.2.2.2.2.2.2.2.2.2.1 j j0 (by omega)).1
    exact Rel_frame (a3 j j0 j1) (fun k x y => hF k (by omega))
  · exact Rel_frame (a5 z) (fun k x y => hF k (by omega))
theorem AW_ch {s s' : Int → Int} {m : Int} {σ : Int → Int → Int} {hs : Int} {sn : Int → Int} {n : Int} (h : AW s m σ hs sn n) (hw : WF s') (a : Int) : AW s' (tm a m) (tσ a m σ s) hs sn n := by
  obtain ⟨w1, w2, w3, w4, w5, w6⟩ := h
  unfold tm tσ
  by_cases ha : a ≤ -1000001
  · rw [if_pos ha, if_pos ha]
    exact ⟨hw, w2, w3, w4, w5, w6⟩
  · rw [if_neg ha, if_neg ha]
    have hp : 0 ≤ pmN m ∧ pmN m ≤ 4 := by unfold pmN; split <;> omega
    have key : ∀ j, 0 ≤ j → j < pmN m → WF (pmS m σ s j) := fun j j0 j1 => by
      unfold pmN at j1
      unfold pmS
      by_cases hc : m < 4
      · rw [if_pos hc] at j1
        rw [if_pos hc]
        by_cases hj : j = m
        · rw [if_pos hj]; exact w1
        · rw [if_neg hj]; exact w3 j j0 (by omega)
      · rw [if_neg hc] at j1
        rw [if_neg hc]
        by_cases hj : j = 3
        · rw [if_pos hj]; exact w1
        · rw [if_neg hj]; exact w3 (j + 1) (by omega) (by omega)
    exact ⟨hw, hp, key, w4, w5, w6⟩
section WCALLS
variable {d : Nat} {kd : KL} {F : FM} {P : PM} {s : Int → Int} {p w v : Int}
theorem w_playerOf (hd : 3 ≤ d) (h : WD kd F P s) : Sp d 66 [.inr (some 3), .inl p, .inl w] kd F P (QI kd (fun r F' P' => r = rPlayerOf s p w ∧ WD kd F' P' s ∧ FR F F' P P')) := by
  obtain ⟨m, σ, hW, hA⟩ := h
  exact (sp_xplayerOf hd hW hA).mono (fun rs q => by obtain ⟨a, b, c, e, q1, q2, q3⟩ := q; exact ⟨a, b, c, e, q1, ⟨m, σ, q2, hA⟩, q3⟩)
theorem w_lotOf (hd : 2 ≤ d) (h : WD kd F P s) : Sp d 67 [.inr (some 3), .inl p, .inl w] kd F P (QI kd (fun r F' P' => r = rLotOf s p w ∧ WD kd F' P' s ∧ FR F F' P P')) := by
  obtain ⟨m, σ, hW, hA⟩ := h
  exact (sp_xlotOf hd hW hA).mono (fun rs q => by obtain ⟨a, b, c, e, q1, q2, q3⟩ := q; exact ⟨a, b, c, e, q1, ⟨m, σ, q2, hA⟩, q3⟩)
theorem w_roundOf (hd : 3 ≤ d) (h : WD kd F P s) : Sp d 68 [.inr (some 3), .inl p, .inl w] kd F P (QI kd (fun r F' P' => r = rRoundOf s p w ∧ WD kd F' P' s ∧ FR F F' P P')) := by
  obtain ⟨m, σ, hW, hA⟩ := h
  exact (sp_xroundOf hd hW hA).mono (fun rs q => by obtain ⟨a, b, c, e, q1, q2, q3⟩ := q; exact ⟨a, b, c, e, q1, ⟨m, σ, q2, hA⟩, q3⟩)
theorem w_record (hd : 2 ≤ d) (h : WD kd F P s) : Sp d 69 [.inr (some 3), .inl p, .inl w] kd F P (QI kd (fun r F' P' => r = rRecord s p w ∧ WD kd F' P' s ∧ FR F F' P P')) := by
  obtain ⟨m, σ, hW, hA⟩ := h
  exact (sp_xrecord hd hW hA).mono (fun rs q => by obtain ⟨a, b, c, e, q1, q2, q3⟩ := q; exact ⟨a, b, c, e, q1, ⟨m, σ, q2, hA⟩, q3⟩)
theorem w_winner (hd : 2 ≤ d) (h : WD kd F P s) : Sp d 71 [.inr (some 3)] kd F P (QI kd (fun r F' P' => r = ldS (fun q => s (126 + 6 * q + 1)) (fun q => s (126 + 6 * q)) (s 0).toNat ∧ WD kd F' P' s ∧ FR F F' P P')) := by
  obtain ⟨m, σ, hW, hA⟩ := h
  exact (sp_xwinner hd hW hA).mono (fun rs q => by obtain ⟨a, b, c, e, q1, q2, q3⟩ := q; exact ⟨a, b, c, e, q1, ⟨m, σ, q2, hA⟩, q3⟩)
theorem w_count (hd : 3 ≤ d) (h : WD kd F P s) (hw : w ≠ 10 ∧ w ≠ 12) : Sp d 70 [.inr (some 3), .inl w] kd F P (QI kd (fun r F' P' => r = (if w = 11 then 0 else rNumber s w) ∧ WD kd F' P' s ∧ FR F F' P P')) := by
  obtain ⟨m, σ, hW, hA⟩ := h
  refine (sp_xcount hd hW hA).mono (fun rs q => ?_)
  obtain ⟨a, b, c, e, q1, q2, q3⟩ := q
  refine ⟨a, b, c, e, ?_, ⟨m, σ, q2, hA⟩, q3⟩
  rw [q1]
  unfold aCount
  rw [if_neg hw.1, if_neg hw.2]
theorem w_lot (hd : 6 ≤ d) (h : WD kd F P s) : Sp d 62 [.inr (some 3), .inl v] kd F P (QI kd (fun r F' P' => r = aLot s v ∧ WD kd F' P' (tLot s v) ∧ FR F F' P P')) := by
  obtain ⟨m, σ, hW, hA⟩ := h
  exact (sp_xlot hd hW hA).mono (fun rs q => by obtain ⟨a, b, c, e, q1, q2, q3⟩ := q; exact ⟨a, b, c, e, q1, ⟨_, _, q2, AW_ch hA (WF_tLot hA.1) _⟩, q3⟩)
theorem w_bid (hd : 6 ≤ d) (h : WD kd F P s) : Sp d 63 [.inr (some 3), .inl p, .inl v] kd F P (QI kd (fun r F' P' => r = aBid s p v ∧ WD kd F' P' (tBid s p v) ∧ FR F F' P P')) := by
  obtain ⟨m, σ, hW, hA⟩ := h
  exact (sp_xbid hd hW hA).mono (fun rs q => by obtain ⟨a, b, c, e, q1, q2, q3⟩ := q; exact ⟨a, b, c, e, q1, ⟨_, _, q2, AW_ch hA (WF_tBid hA.1) _⟩, q3⟩)
theorem w_set (hd : 6 ≤ d) (h : WD kd F P s) : Sp d 65 [.inr (some 3), .inl p, .inl v] kd F P (QI kd (fun r F' P' => r = aSet s p v ∧ WD kd F' P' (tSet s p v) ∧ FR F F' P P')) := by
  obtain ⟨m, σ, hW, hA⟩ := h
  exact (sp_xset hd hW hA).mono (fun rs q => by obtain ⟨a, b, c, e, q1, q2, q3⟩ := q; exact ⟨a, b, c, e, q1, ⟨_, _, q2, AW_ch hA (WF_tSet hA.1) _⟩, q3⟩)
theorem w_begin (hd : 6 ≤ d) (h : WD kd F P s) : Sp d 61 [.inr (some 3), .inl p, .inl v] kd F P (QI kd (fun r F' P' => r = aBeg s p v ∧ WD kd F' P' (tBeg s p v) ∧ FR F F' P P')) := by
  obtain ⟨m, σ, hW, hA⟩ := h
  exact (sp_xbegin hd hW hA).mono (fun rs q => by obtain ⟨a, b, c, e, q1, q2, q3⟩ := q; exact ⟨a, b, c, e, q1, ⟨_, _, q2, AW_ch hA (WF_tBeg hA.1) _⟩, q3⟩)
theorem w_resolve (hd : 6 ≤ d) (h : WD kd F P s) (h2 : s 2 < 20000) : Sp d 64 [.inr (some 3)] kd F P (QI kd (fun r F' P' => r = aRes s ∧ WD kd F' P' (tRes s) ∧ FR F F' P P')) := by
  obtain ⟨m, σ, hW, hA⟩ := h
  exact (sp_xresolve hd hW hA h2).mono (fun rs q => by obtain ⟨a, b, c, e, q1, q2, q3⟩ := q; exact ⟨a, b, c, e, q1, ⟨_, _, q2, AW_ch hA (WF_tRes hA.1 h2) _⟩, q3⟩)
end WCALLS
/-! ## sums that the law checks -/
def PC (T : Int) (s : Int → Int) : Prop :=
  s 2 ≤ T ∧ (∀ i, 0 ≤ i → i < s 150 → (0 ≤ s (151 + 4 * i + 2) ∧ s (151 + 4 * i + 2) ≤ s 2) ∧ 0 ≤ s (151 + 4 * i + 3) ∧ s (151 + 4 * i + 3) ≤ s 2) ∧
  sg (fun i => s (151 + 4 * i + 2)) (s 150).toNat = s 0 * s 2 ∧
  (∀ p, 0 ≤ p → p < s 0 → (0 ≤ s (126 + 6 * p + 4) ∧ s (126 + 6 * p + 4) ≤ 120 * s 2) ∧ 0 ≤ s (126 + 6 * p + 5) ∧ s (126 + 6 * p + 5) ≤ 120 * s 2) ∧
  sg (fun p => s (126 + 6 * p + 4) - s (126 + 6 * p + 5)) (s 0).toNat = s 1
theorem PC_up {T : Int} {s : Int → Int} (h : PC T s) : PC (T + 1) s := ⟨by have := h.1; omega, h.2⟩
theorem PC_congr {T : Int} {s s' : Int → Int} (h : PC T s) (h0 : s' 0 = s 0) (h1 : s' 1 = s 1) (h2 : s' 2 = s 2) (hp : ∀ p c, 0 ≤ p → p < 4 → (c = 4 ∨ c = 5) → s' (126 + 6 * p + c) = s (126 + 6 * p + c)) (hj : ∀ j, 150 ≤ j → s' j = s j) (hn : s 0 ≤ 4) (h150 : 0 ≤ s 150) : PC T s' := by
  obtain ⟨a1, a2, a3, a4, a5⟩ := h
  unfold PC
  rw [h0, h1, h2, hj 150 (by omega)]
  refine ⟨a1, fun i i0 i1 => ?_, ?_, fun p p0 p1 => ?_, ?_⟩
  · rw [hj _ (by omega), hj _ (by omega)]; exact a2 i i0 i1
  · rw [← a3]; exact sg_congr (fun i i0 i1 => hj _ (by omega))
  · rw [hp p 4 p0 (by omega) (by omega), hp p 5 p0 (by omega) (by omega)]; exact a4 p p0 p1
  · rw [← a5]; exact sg_congr (fun p p0 p1 => by rw [hp p 4 p0 (by omega) (by omega), hp p 5 p0 (by omega) (by omega)])
theorem PC_PQ {T : Int} {s : Int → Int} (h : PC T s) (hw : WF s) : PQ (s 2) s := by
  have h9 := hw.2.2.2.2.2.2.2.2.2.1
  refine ⟨hw.2.2.2.2.2.2.2.2.1.1, fun i i0 i1 => ?_⟩
  have e := h9 i i0 i1
  have f := h.2.1 i i0 i1
  exact ⟨⟨e.1, e.2.1⟩, ⟨e.2.2.1, e.2.2.2⟩, f.1, f.2⟩
theorem sg_up {f g : Int → Int} {k c : Int} : ∀ {n : Nat}, 0 ≤ k → (∀ i, i ≠ k → g i = f i) → g k = f k + c → sg g n = sg f n + (if k < n then c else 0)
  | 0, h0, h1, h2 => by rw [if_neg (by omega)]; rfl
  | n + 1, h0, h1, h2 => by
    show sg g n + g n = sg f n + f n + _
    rw [sg_up (n := n) h0 h1 h2]
    by_cases hk : k = n
    · rw [if_neg (by omega), if_pos (by omega), ← hk, h2]; omega
    · rw [h1 n (fun z => hk z.symm)]
      by_cases hl : k < n
      · rw [if_pos hl, if_pos (by omega)]; omega
      · rw [if_neg hl, if_neg (by omega)]; omega
/-- the pairs while a round is counted -/
theorem prS_c {T : Int} {s : Int → Int} (hc : PC T s) (hs2 : 0 ≤ s 2 ∧ s 2 < 800) (hw : WF s) (hb : BD s) : ∀ k : Nat, (k : Int) ≤ s 0 → (∀ i, 0 ≤ i → i < prS s k 150 → (0 ≤ prS s k (151 + 4 * i + 2) ∧ prS s k (151 + 4 * i + 2) ≤ s 2 + (if prS s k (151 + 4 * i) < k then 1 else 0)) ∧ 0 ≤ prS s k (151 + 4 * i + 3) ∧ prS s k (151 + 4 * i + 3) ≤ s 2 + (if prS s k (151 + 4 * i) < k then 1 else 0)) ∧ sg (fun i => prS s k (151 + 4 * i + 2)) (prS s k 150).toNat = s 0 * s 2 + k
  | 0, _ => by
    refine ⟨fun i i0 i1 => ?_, ?_⟩
    · have h9 := hw.2.2.2.2.2.2.2.2.2.1 i i0 i1
      have e := hc.2.1 i i0 i1
      show (0 ≤ s (151 + 4 * i + 2) ∧ s (151 + 4 * i + 2) ≤ s 2 + (if s (151 + 4 * i) < ((0 : Nat) : Int) then 1 else 0)) ∧ 0 ≤ s (151 + 4 * i + 3) ∧ s (151 + 4 * i + 3) ≤ s 2 + (if s (151 + 4 * i) < ((0 : Nat) : Int) then 1 else 0)
      rw [if_neg (by omega)]
      omega
    · show sg (fun i => s (151 + 4 * i + 2)) (s 150).toNat = _
      rw [hc.2.2.1]; omega
  | k + 1, h => by
    have w0 := hw.1
    obtain ⟨c1, c2⟩ := prS_c hc hs2 hw hb k (by omega)
    have hwp := (prS_wp hw (bd_b hw hb) k (by omega)).1
    have hx := ixS_in (t := prS s k) (p := (k : Int)) (b := bdS s k) hwp.1.1
    have h150 := nS_150 (t := prS s k) (p := (k : Int)) (b := bdS s k) (won := oneW (wnS s) k) hx.1
    have how := oneW_b (wnS s) k
    have hit := fun z => ixS_hit (t := prS s k) (p := (k : Int)) (b := bdS s k) hwp.1.1 z
    have e : prS s (k + 1) = notesS (prS s k) k (bdS s k) (oneW (wnS s) k) := rfl
    rw [e]
    have hbnd : ixS (prS s k) k (bdS s k) ≠ prS s k 150 → (0 ≤ prS s k (151 + 4 * ixS (prS s k) k (bdS s k) + 2) ∧ prS s k (151 + 4 * ixS (prS s k) k (bdS s k) + 2) ≤ s 2) ∧ 0 ≤ prS s k (151 + 4 * ixS (prS s k) k (bdS s k) + 3) ∧ prS s k (151 + 4 * ixS (prS s k) k (bdS s k) + 3) ≤ s 2 := fun z => by
      have q := c1 _ hx.1 (by omega)
      rw [(hit (by omega)).1, if_neg (by omega)] at q
      omega
    refine ⟨fun i i0 i1 => ?_, ?_⟩
    · rw [h150] at i1
      by_cases hi : i = ixS (prS s k) k (bdS s k)
      · rw [nS_0 hi, nS_2 hi, nS_3 hi, if_pos (show (k : Int) < ((k + 1 : Nat) : Int) by omega), hi]
        by_cases hn : ixS (prS s k) k (bdS s k) = prS s k 150
        · rw [if_pos hn, if_pos hn, wr_id (by unfold inb; omega), wr_id (by unfold inb; omega)]; omega
        · have q := hbnd hn
          rw [if_neg hn, if_neg hn, wr_id (by unfold inb; omega), wr_id (by unfold inb; omega)]; omega
      · have i2 : i < prS s k 150 := by split at i1 <;> omega
        have q := c1 i i0 i2
        rw [nS_o (by omega) (by omega), nS_o (by omega) (by omega), nS_o (by omega) (by omega)]
        split at q <;> split <;> omega
    · rw [h150]
      by_cases hn : ixS (prS s k) k (bdS s k) = prS s k 150
      · rw [if_pos hn, show (prS s k 150 + 1).toNat = (prS s k 150).toNat + 1 by omega]
        show sg (fun i => notesS (prS s k) k (bdS s k) (oneW (wnS s) k) (151 + 4 * i + 2)) (prS s k 150).toNat + notesS (prS s k) k (bdS s k) (oneW (wnS s) k) (151 + 4 * (((prS s k 150).toNat : Nat) : Int) + 2) = _
        rw [toC hwp.1.1, nS_2 hn.symm, if_pos hn, sg_congr (g := fun i => prS s k (151 + 4 * i + 2)) (fun i i0 i1 => nS_o (by omega) (by omega)), c2, wr_id (by unfold inb; omega)]
        omega
      · have q := hbnd hn
        rw [if_neg hn, sg_up (f := fun i => prS s k (151 + 4 * i + 2)) (k := ixS (prS s k) k (bdS s k)) (c := 1) hx.1 (fun i hi => nS_o (by omega) (by omega)) (by
          show notesS (prS s k) k (bdS s k) (oneW (wnS s) k) (151 + 4 * ixS (prS s k) k (bdS s k) + 2) = _
          rw [nS_2 rfl, if_neg hn, wr_id (by unfold inb; omega)]), if_pos (by omega), c2]
        omega
theorem PC_res {T : Int} {s : Int → Int} (hc : PC T s) (hs2 : 0 ≤ s 2 ∧ s 2 < 800) (hw : WF s) (hb : BD s) : PC (T + 1) (resS s) := by
  have w0 := hw.1
  have lo : ∀ {j : Int}, j < 126 → j ≠ 1 → j ≠ 25 → resS s j = r1S s j := fun a b c => res_lo hw hb a b c
  have e0 : resS s 0 = s 0 := by rw [lo (by omega) (by omega) (by omega), r1_same hw (by omega)]
  have e2 : resS s 2 = s 2 + 1 := by rw [lo (by omega) (by omega) (by omega), r1_2 hw, wr_id (by unfold inb; omega)]
  have hk : (((s 0).toNat : Nat) : Int) = s 0 := by omega
  obtain ⟨c1, c2⟩ := prS_c hc hs2 hw hb (s 0).toNat (by omega)
  have hwp := (prS_wp hw (bd_b hw hb) (s 0).toNat (by omega)).1
  have h1 := hc.1
  unfold PC
  rw [e0, e2, res_pr hw hb (show (150 : Int) ≤ 150 by omega) (by omega)]
  refine ⟨by omega, fun i i0 i1 => ?_, ?_, fun p p0 p1 => ?_, ?_⟩
  · rw [res_pr hw hb (by omega) (by have := hwp.1; omega), res_pr hw hb (by omega) (by have := hwp.1; omega)]
    have q := c1 i i0 i1
    split at q <;> omega
  · rw [sg_congr (g := fun i => prS s (s 0).toNat (151 + 4 * i + 2)) (fun i i0 i1 => res_pr hw hb (by omega) (by have := hwp.1; omega)), c2, Int.mul_add]
    omega
  · obtain ⟨x0, x1, x2, x3, x4, x5⟩ := res_pl hw hb p0 p1
    have f := FE_b hw hb p p0 p1
    have g := GO_b hw hb p
    have q := hc.2.2.2.1 p p0 p1
    have w3 := hw.2.2.2.1 p p0 (by omega)
    rw [x4, x5, wr_id (by unfold inb; omega), wr_id (by unfold inb; omega)]
    omega
  · rw [sg_congr (g := fun p => (s (126 + 6 * p + 4) - s (126 + 6 * p + 5)) + (FE s p + (0 - GO s p))) (fun p p0 p1 => by
      obtain ⟨x0, x1, x2, x3, x4, x5⟩ := res_pl hw hb p0 (show p < s 0 by omega)
      have f := FE_b hw hb p p0 (by omega)
      have g := GO_b hw hb p
      have q := hc.2.2.2.1 p p0 (by omega)
      have w3 := hw.2.2.2.1 p p0 (by omega)
      rw [x4, x5, wr_id (by unfold inb; omega), wr_id (by unfold inb; omega)]
      omega), sg_plus, sg_plus, hc.2.2.2.2, res_1 hw hb]
    have hn : ∀ n : Nat, sg (fun p => 0 - GO s p) n = 0 - sg (GO s) n := fun n => by
      induction n with
      | zero => rfl
      | succ n ih =>
        show sg (fun p => 0 - GO s p) n + (0 - GO s n) = 0 - (sg (GO s) n + GO s n)
        rw [ih]; omega
    rw [hn, sumGO hw hb]
    show s 1 + (sg (FE s) (s 0).toNat + (0 - PA s * (s 0 - 1))) = (s 1 + sg (FE s) (s 0).toNat) - PA s * (s 0 - 1)
    omega
