/-! THE CHANGES keep what holds of every game -/
theorem sg_plus {f g : Int → Int} : ∀ {n : Nat}, sg (fun i => f i + g i) n = sg f n + sg g n
  | 0 => rfl
  | n + 1 => by
    show sg (fun i => f i + g i) n + (f n + g n) = sg f n + f n + (sg g n + g n)
    rw [sg_plus (n := n)]
    omega
theorem sg_one {f : Int → Int} : ∀ {n : Nat} {p : Int}, (∀ i : Int, 0 ≤ i → i < n → 0 ≤ f i) → 0 ≤ p → p < n → f p ≤ sg f n
  | 0, p, _, h0, h1 => by omega
  | n + 1, p, h, h0, h1 => by
    have h2 := sg_bound (f := fun i => if f i < 0 then 0 else f i) (a := 0) (b := 0) (n := 0) (fun i a b => by omega)
    have hn : ∀ m : Nat, m ≤ n → 0 ≤ sg f m := by
      intro m
      induction m with
      | zero => intro _; exact Int.le_refl 0
      | succ m ih =>
        intro hm
        have a1 := ih (by omega)
        have a2 := h m (by omega) (by omega)
        show 0 ≤ sg f m + f m
        omega
    show f p ≤ sg f n + f n
    by_cases hp : p = n
    · have := hn n (Nat.le_refl n)
      rw [hp]; omega
    · have h3 := sg_one (f := f) (n := n) (p := p) (fun i a b => h i a (by omega)) h0 (by omega)
      have h4 := h n (by omega) (by omega)
      omega
/-- the rows of a game, all the way -/
theorem pl_cases {j : Int} (h : 126 ≤ j) (h2 : j < 150) : ∃ p c, j = 126 + 6 * p + c ∧ 0 ≤ p ∧ p < 4 ∧ 0 ≤ c ∧ c < 6 := ⟨(j - 126) / 6, (j - 126) % 6, by omega, by omega, by omega, by omega, by omega⟩
section WFP
variable {s : Int → Int}
theorem stake_b (hw : WF s) (h4 : 1 ≤ s 4) : -400 ≤ tabS s + s 5 ∧ tabS s + s 5 ≤ 400 := by
  have h1 := sg_bound (f := fun k => s (2087 + k)) (a := -9) (b := 20) (n := (s 25).toNat) (fun i h0 h1 => hw.2.2.2.2.2.2.1 i h0 (by omega))
  have h2 := hw.2.1
  have h3 := hw.2.2.2.2.2.1 0 (by omega) (by omega)
  rw [Int.add_zero] at h3
  unfold tabS
  have h5 : (((s 25).toNat : Nat) : Int) = s 25 := by omega
  rw [h5] at h1
  omega
theorem inb_lays (hw : WF s) : ∀ j, inb (laysS s j) := by
  intro j
  have h2 := hw.2.1
  have h13 := hw.2.2.2.2.2.2.2.2.2.2.2.2.2
  unfold laysS
  split
  · exact h13 5
  · split
    · unfold inb; omega
    · split
      · unfold inb; omega
      · split
        · exact h13 _
        · exact h13 _
theorem inb_r1 (hw : WF s) (h4 : 1 ≤ s 4) : ∀ j, inb (r1S s j) := by
  intro j
  have h2 := hw.2.1
  have h0 := hw.1
  have h13 := hw.2.2.2.2.2.2.2.2.2.2.2.2.2
  have hst := stake_b hw h4
  have hwn := wnS_in hw
  have hgr := grF_b (f := bdS s) (b := 120) (by omega) (n := (s 0).toNat) (fun p a b => by
    have := hw.2.2.2.1 p a (by omega)
    show s (126 + 6 * p + 2) ≤ 120
    omega)
  have hcn := cnF_nn (f := bdS s) (m := grF (bdS s) (s 0).toNat) (n := (s 0).toNat)
  unfold r1S keepsS
  split
  · exact inb_lays hw _
  · split
    · unfold inb; omega
    · split
      · unfold inb; omega
      · split
        · unfold inb; omega
        · split
          · unfold inb; omega
          · split
            · exact inb_lays hw _
            · split
              · have := inb_lays hw 29
                split
                · unfold inb at *; omega
                · unfold inb; omega
              · split
                · exact inb_wr _
                · split
                  · exact inb_wr _
                  · exact inb_lays hw _
theorem sumGO (hw : WF s) (hb : BD s) : sg (GO s) (s 0).toNat = PA s * (s 0 - 1) := by
  have h0 := hw.1
  have hwn := wnS_in hw
  have e : (((s 0).toNat : Nat) : Int) = s 0 := by omega
  by_cases hc : 0 ≤ wnS s
  · have := sg_but (c := PA s) (w := wnS s) (n := (s 0).toNat) hc (by omega)
    rw [e] at this
    exact this
  · have h3 : PA s = 0 := by
      show partF (bdS s) (s 0).toNat (s 1) (s 26) (s 27) (s 28) = 0
      unfold partF
      rw [if_neg (fun z => z.1 (by have : wnS s = winF (bdS s) (s 0).toNat := rfl; omega))]
    have h4 : sg (GO s) (s 0).toNat = sg (fun _ => 0) (s 0).toNat := sg_congr (fun i a b => by
      show (if i = winF (bdS s) (s 0).toNat then 0 else PA s) = 0
      rw [h3]; split <;> rfl)
    have h5 := sg_bound (f := fun _ => 0) (a := 0) (b := 0) (n := (s 0).toNat) (fun i a b => by omega)
    rw [h4, h3]; omega
theorem GO_b (hw : WF s) (hb : BD s) (p : Int) : 0 ≤ GO s p ∧ GO s p ≤ 120 := by
  have := PA_b hw hb
  show 0 ≤ (if p = winF (bdS s) (s 0).toNat then 0 else PA s) ∧ (if p = winF (bdS s) (s 0).toNat then 0 else PA s) ≤ 120
  split <;> omega
theorem res_sum (hw : WF s) (hb : BD s) : resS s 1 + sg (fun p => resS s (126 + 6 * p)) (s 0).toNat = s 1 + sg (fun p => s (126 + 6 * p)) (s 0).toNat := by
  have h0 := hw.1
  rw [res_1 hw hb, sg_congr (g := fun p => s (126 + 6 * p) + (GO s p - FE s p)) (fun i a b => by show resS s (126 + 6 * i) = _; rw [(res_pl hw hb a (by omega)).1]; omega), sg_plus]
  have h1 : sg (GO s) (s 0).toNat = sg (fun i => GO s i - FE s i + FE s i) (s 0).toNat := sg_congr (fun i a b => by show GO s i = GO s i - FE s i + FE s i; omega)
  rw [sg_plus] at h1
  have h2 := sumGO hw hb
  have h3 : PT s = s 1 + sg (FE s) (s 0).toNat := rfl
  have h4 : sg (fun i => FE s i) (s 0).toNat = sg (FE s) (s 0).toNat := rfl
  omega
theorem WF_res (hw : WF s) (hb : BD s) (h4 : 1 ≤ s 4) (h2 : s 2 < 20000) : WF (resS s) := by
  have hwn := wnS_in hw
  have hst := stake_b hw h4
  obtain ⟨w0, w1, w2, w3, w4, w5, w6, w7, w8, w9, w10, w11, w12, w13⟩ := id hw
  have e0 : resS s 0 = s 0 := by rw [res_lo hw hb (by omega) (by omega) (by omega), r1_same hw (by omega)]
  have e4 : resS s 4 = s 4 - 1 := by rw [res_lo hw hb (by omega) (by omega) (by omega), r1_4 hw]
  have e25 := res_25 hw hb
  have e29 : resS s 29 = if s 29 + 1 < 12 then s 29 + 1 else 12 := by rw [res_lo hw hb (by omega) (by omega) (by omega), r1_29 hw]
  have e2 : resS s 2 = s 2 + 1 := by rw [res_lo hw hb (by omega) (by omega) (by omega), r1_2 hw, wr_id (by unfold inb; omega)]
  have eset : ∀ j, 26 ≤ j → j ≤ 28 → resS s j = s j := fun j a b => by rw [res_lo hw hb (by omega) (by omega) (by omega), r1_same hw (by omega)]
  have hsum := res_sum hw hb
  have hPT := PT_b hw hb
  have hPA := PA_b hw hb
  have hcoin : ∀ p, 0 ≤ p → p < s 0 → 0 ≤ resS s (126 + 6 * p) := fun p a b => by
    have h1 := FE_b hw hb p a b
    have h2 := GO_b hw hb p
    rw [(res_pl hw hb a b).1]; omega
  have h1e := res_1 hw hb
  have hpr := prS_wp hw (bd_b hw hb) (s 0).toNat (by omega)
  refine ⟨by rw [e0]; exact w0, ?_, ?_, ?_, ?_, ?_, ?_, ?_, ?_, ?_, ?_, ?_, ?_, ?_⟩
  · rw [e4, e25]; split <;> omega
  · rw [e0]; omega
  · intro p a b
    by_cases hp : p < s 0
    · have h3 := sg_one (f := fun p => resS s (126 + 6 * p)) (n := (s 0).toNat) (p := p) (fun i x y => hcoin i x (by omega)) a (by omega)
      have h5 := hcoin p a hp
      have h6 := (res_pl hw hb a hp).2.2.1
      omega
    · have h3 := res_po (p := p) (c := 0) hw hb (by omega) b (by omega)
      have h5 := res_po (p := p) (c := 2) hw hb (by omega) b (by omega)
      rw [Int.add_zero] at h3
      rw [h3, h5]
      exact w3 p a b
  · rw [eset 26 (by omega) (by omega), eset 27 (by omega) (by omega), eset 28 (by omega) (by omega)]
    exact w4
  · intro k a b
    rw [e4] at b
    rw [res_lo hw hb (by omega) (by omega) (by omega), r1_row hw (by omega), show 5 + k + 1 = 5 + (k + 1) by omega]
    exact w5 (k + 1) (by omega) (by omega)
  · intro k a b
    rw [e25] at b
    rw [res_hi hw hb (by omega)]
    by_cases hk : k = s 25
    · rw [hk, r1_tab hw]
      have := w5 0 (by omega) (by omega)
      rw [Int.add_zero] at this
      exact this
    · rw [r1_tabo hw (by omega) (by omega)]
      exact w6 k a (by split at b <;> omega)
  · rw [e29]; split <;> omega
  · rw [res_pr hw hb (by omega) (by omega)]
    exact hpr.1.1
  · intro i a b
    have h3 := hpr.1.1
    rw [res_pr hw hb (by omega) (by omega)] at b
    rw [res_pr hw hb (by omega) (by omega), res_pr hw hb (by omega) (by omega)]
    exact hpr.1.2.1 i a b
  · intro i j a b c
    have h3 := hpr.1.1
    rw [res_pr hw hb (by omega) (by omega)] at c
    rw [res_pr hw hb (by omega) (by omega), res_pr hw hb (by omega) (by omega), res_pr hw hb (by omega) (by omega), res_pr hw hb (by omega) (by omega)]
    exact hpr.1.2.2 i j a b c
  · rw [e2]; omega
  · intro p a b
    rw [e2]
    have h3 := w12 p a b
    by_cases hp : p < s 0
    · rw [(res_pl hw hb a hp).2.1]
      split
      · rw [wr_id (by unfold inb; omega)]; omega
      · omega
    · rw [res_po (p := p) (c := 1) hw hb (by omega) b (by omega)]; omega
  · intro j
    by_cases h126 : j < 126
    · by_cases hj1 : j = 1
      · rw [hj1, h1e]; unfold inb; omega
      · by_cases hj2 : j = 25
        · rw [hj2, e25]; unfold inb; split <;> omega
        · rw [res_lo hw hb h126 hj1 hj2]
          exact inb_r1 hw h4 j
    · by_cases h150 : j < 150
      · obtain ⟨p, c, rfl, p0, p1, c0, c1⟩ := pl_cases (by omega) h150
        by_cases hp : p < s 0
        · obtain ⟨x0, x1, x2, x3, x4, x5⟩ := res_pl hw hb p0 hp
          have h5 := FE_b hw hb p p0 hp
          have h6 := GO_b hw hb p
          have h7 := w3 p p0 p1
          rcases (by omega : c = 0 ∨ c = 1 ∨ c = 2 ∨ c = 3 ∨ c = 4 ∨ c = 5) with rfl | rfl | rfl | rfl | rfl | rfl
          · rw [Int.add_zero, x0]; unfold inb; omega
          · rw [x1]; split
            · exact inb_wr _
            · exact w13 _
          · rw [x2]; unfold inb; omega
          · rw [x3]; split
            · exact inb_wr _
            · exact w13 _
          · rw [x4]; exact inb_wr _
          · rw [x5]; exact inb_wr _
        · rw [res_po hw hb (by omega) p1 ⟨c0, c1⟩]
          exact w13 _
      · by_cases h2087 : j < 2087
        · rw [res_pr hw hb (by omega) h2087]
          exact hpr.2.1 j
        · rw [res_hi hw hb (by omega)]
          exact inb_r1 hw h4 j
theorem WF_lot {v : Int} (hw : WF s) (hv : -9 ≤ v ∧ v ≤ 20) (h : s 4 + s 25 < 20) : WF (lotS s v) := by
  obtain ⟨w0, w1, w2, w3, w4, w5, w6, w7, w8, w9, w10, w11, w12, w13⟩ := id hw
  have e4 : lotS s v 4 = s 4 + 1 := by unfold lotS; rw [up_eq]
  have ev : lotS s v (5 + s 4) = v := by unfold lotS; rw [up_ne _ _ (by omega), up_eq]
  have eo : ∀ j, j ≠ 4 → j ≠ 5 + s 4 → lotS s v j = s j := fun j a b => by unfold lotS; rw [up_ne _ _ a, up_ne _ _ b]
  refine ⟨?_, ?_, ?_, ?_, ?_, ?_, ?_, ?_, ?_, ?_, ?_, ?_, ?_, ?_⟩
  · rw [eo 0 (by omega) (by omega)]; exact w0
  · rw [e4, eo 25 (by omega) (by omega)]; omega
  · rw [eo 0 (by omega) (by omega), eo 1 (by omega) (by omega), sg_congr (g := fun p => s (126 + 6 * p)) (fun i a b => eo _ (by omega) (by omega))]
    exact w2
  · intro p a b
    rw [eo _ (by omega) (by omega), eo _ (by omega) (by omega)]; exact w3 p a b
  · rw [eo 26 (by omega) (by omega), eo 27 (by omega) (by omega), eo 28 (by omega) (by omega)]; exact w4
  · intro k a b
    rw [e4] at b
    by_cases hk : k = s 4
    · rw [hk, ev]; exact hv
    · rw [eo _ (by omega) (by omega)]; exact w5 k a (by omega)
  · intro k a b
    rw [eo 25 (by omega) (by omega)] at b
    rw [eo _ (by omega) (by omega)]; exact w6 k a b
  · rw [eo 29 (by omega) (by omega)]; exact w7
  · rw [eo 150 (by omega) (by omega)]; exact w8
  · intro i a b
    rw [eo 150 (by omega) (by omega)] at b
    rw [eo _ (by omega) (by omega), eo _ (by omega) (by omega)]; exact w9 i a b
  · intro i j a b c
    rw [eo 150 (by omega) (by omega)] at c
    rw [eo _ (by omega) (by omega), eo _ (by omega) (by omega), eo _ (by omega) (by omega), eo _ (by omega) (by omega)]; exact w10 i j a b c
  · rw [eo 2 (by omega) (by omega)]; exact w11
  · intro p a b
    rw [eo 2 (by omega) (by omega), eo _ (by omega) (by omega)]; exact w12 p a b
  · intro j
    by_cases h1 : j = 4
    · rw [h1, e4]; unfold inb; omega
    · by_cases h2 : j = 5 + s 4
      · rw [h2, ev]; unfold inb; omega
      · rw [eo j h1 h2]; exact w13 j
theorem WF_bid {p c : Int} (hw : WF s) (hp : 0 ≤ p ∧ p < s 0) (hc : 0 ≤ c ∧ c ≤ s (126 + 6 * p)) : WF (bidS s p c) := by
  obtain ⟨w0, w1, w2, w3, w4, w5, w6, w7, w8, w9, w10, w11, w12, w13⟩ := id hw
  have ev : bidS s p c (126 + 6 * p + 2) = c := by unfold bidS; rw [up_eq]
  have eo : ∀ j, j ≠ 126 + 6 * p + 2 → bidS s p c j = s j := fun j a => by unfold bidS; rw [up_ne _ _ a]
  refine ⟨?_, ?_, ?_, ?_, ?_, ?_, ?_, ?_, ?_, ?_, ?_, ?_, ?_, ?_⟩
  · rw [eo 0 (by omega)]; exact w0
  · rw [eo 4 (by omega), eo 25 (by omega)]; exact w1
  · rw [eo 0 (by omega), eo 1 (by omega), sg_congr (g := fun p => s (126 + 6 * p)) (fun i a b => eo _ (by omega))]
    exact w2
  · intro q a b
    rw [eo (126 + 6 * q) (by omega)]
    by_cases hq : q = p
    · rw [hq, ev]
      have := w3 p hp.1 (by omega)
      omega
    · rw [eo _ (by omega)]; exact w3 q a b
  · rw [eo 26 (by omega), eo 27 (by omega), eo 28 (by omega)]; exact w4
  · intro k a b
    rw [eo 4 (by omega)] at b
    rw [eo _ (by omega)]; exact w5 k a b
  · intro k a b
    rw [eo 25 (by omega)] at b
    rw [eo _ (by omega)]; exact w6 k a b
  · rw [eo 29 (by omega)]; exact w7
  · rw [eo 150 (by omega)]; exact w8
  · intro i a b
    rw [eo 150 (by omega)] at b
    rw [eo _ (by omega), eo _ (by omega)]; exact w9 i a b
  · intro i j a b c
    rw [eo 150 (by omega)] at c
    rw [eo _ (by omega), eo _ (by omega), eo _ (by omega), eo _ (by omega)]; exact w10 i j a b c
  · rw [eo 2 (by omega)]; exact w11
  · intro p a b
    rw [eo 2 (by omega), eo _ (by omega)]; exact w12 p a b
  · intro j
    by_cases h1 : j = 126 + 6 * p + 2
    · have := w3 p hp.1 (by omega)
      rw [h1, ev]; unfold inb; omega
    · rw [eo j h1]; exact w13 j
theorem WF_set {w v : Int} (hw : WF s) (h0 : 0 ≤ w ∧ w ≤ 2) (hv : 0 ≤ v ∧ v ≤ (if w = 2 then 1 else 5)) : WF (setS s w v) := by
  obtain ⟨w0, w1, w2, w3, w4, w5, w6, w7, w8, w9, w10, w11, w12, w13⟩ := id hw
  have ev : setS s w v (26 + w) = v := by unfold setS; rw [up_eq]
  have eo : ∀ j, j ≠ 26 + w → setS s w v j = s j := fun j a => by unfold setS; rw [up_ne _ _ a]
  refine ⟨?_, ?_, ?_, ?_, ?_, ?_, ?_, ?_, ?_, ?_, ?_, ?_, ?_, ?_⟩
  · rw [eo 0 (by omega)]; exact w0
  · rw [eo 4 (by omega), eo 25 (by omega)]; exact w1
  · rw [eo 0 (by omega), eo 1 (by omega), sg_congr (g := fun p => s (126 + 6 * p)) (fun i a b => eo _ (by omega))]
    exact w2
  · intro q a b
    rw [eo _ (by omega), eo _ (by omega)]; exact w3 q a b
  · rcases (by omega : w = 0 ∨ w = 1 ∨ w = 2) with rfl | rfl | rfl
    · rw [eo 27 (by omega), eo 28 (by omega)]
      rw [Int.add_zero] at ev
      rw [ev]
      rw [if_neg (by omega)] at hv
      omega
    · rw [eo 26 (by omega), eo 28 (by omega)]
      rw [show (26 : Int) + 1 = 27 by omega] at ev
      rw [ev]
      rw [if_neg (by omega)] at hv
      omega
    · rw [eo 26 (by omega), eo 27 (by omega)]
      rw [show (26 : Int) + 2 = 28 by omega] at ev
      rw [ev]
      rw [if_pos rfl] at hv
      omega
  · intro k a b
    rw [eo 4 (by omega)] at b
    rw [eo _ (by omega)]; exact w5 k a b
  · intro k a b
    rw [eo 25 (by omega)] at b
    rw [eo _ (by omega)]; exact w6 k a b
  · rw [eo 29 (by omega)]; exact w7
  · rw [eo 150 (by omega)]; exact w8
  · intro i a b
    rw [eo 150 (by omega)] at b
    rw [eo _ (by omega), eo _ (by omega)]; exact w9 i a b
  · intro i j a b c
    rw [eo 150 (by omega)] at c
    rw [eo _ (by omega), eo _ (by omega), eo _ (by omega), eo _ (by omega)]; exact w10 i j a b c
  · rw [eo 2 (by omega)]; exact w11
  · intro p a b
    rw [eo 2 (by omega), eo _ (by omega)]; exact w12 p a b
  · intro j
    by_cases h1 : j = 26 + w
    · rw [h1, ev]; unfold inb; split at hv <;> omega
    · rw [eo j h1]; exact w13 j
theorem beg_0 {n c : Int} : beginS s n c 0 = n := by
  unfold beginS
  rw [if_pos (by omega), if_neg (by omega), if_pos rfl]
theorem beg_set {n c j : Int} (h : 26 ≤ j ∧ j ≤ 28) : beginS s n c j = s j := by
  unfold beginS
  rw [if_pos (by omega), if_pos h]
theorem beg_z {n c j : Int} (h0 : 0 ≤ j ∧ j < 2087) (h : j ≠ 0) (h2 : ¬ (26 ≤ j ∧ j ≤ 28)) (h3 : j < 126 ∨ 150 ≤ j) : beginS s n c j = 0 := by
  unfold beginS
  rw [if_pos h0, if_neg h2, if_neg h, if_neg (by omega), if_neg (by omega)]
theorem beg_o {n c j : Int} (h : j < 0 ∨ 2087 ≤ j) : beginS s n c j = s j := by
  unfold beginS
  rw [if_neg (by omega)]
theorem beg_pl {n c p i : Int} (hp : 0 ≤ p ∧ p < 4) (hi : 0 ≤ i ∧ i < 6) : beginS s n c (126 + 6 * p + i) = if i = 0 then (if p < n then c else 0) else if i = 2 then -1 else 0 := by
  unfold beginS
  rw [if_pos (by omega), if_neg (by omega), if_neg (by omega)]
  by_cases h0 : i = 0
  · rw [if_pos (by omega), if_pos h0, show (126 + 6 * p + i - 126) / 6 = p by omega]
  · rw [if_neg (by omega), if_neg h0]
    by_cases h2 : i = 2
    · rw [if_pos (by omega), if_pos h2]
    · rw [if_neg (by omega), if_neg h2]
theorem beg_c {n c p : Int} (hp : 0 ≤ p ∧ p < 4) : beginS s n c (126 + 6 * p) = if p < n then c else 0 := by
  have h := beg_pl (s := s) (n := n) (c := c) (i := 0) hp (by omega)
  rw [Int.add_zero, if_pos rfl] at h
  exact h
theorem WF_begin {n c : Int} (hset : (0 ≤ s 26 ∧ s 26 ≤ 5) ∧ (0 ≤ s 27 ∧ s 27 ≤ 5) ∧ (0 ≤ s 28 ∧ s 28 ≤ 1)) (hin : ∀ j, inb (s j)) (hn : 2 ≤ n ∧ n ≤ 4) (hc : 0 ≤ c ∧ c ≤ 30) : WF (beginS s n c) := by
  have ez : ∀ j : Int, (0 ≤ j ∧ j < 2087) → j ≠ 0 → ¬ (26 ≤ j ∧ j ≤ 28) → (j < 126 ∨ 150 ≤ j) → beginS s n c j = 0 := fun j a b c d => beg_z a b c d
  have e4 := ez 4 (by omega) (by omega) (by omega) (by omega)
  have e25 := ez 25 (by omega) (by omega) (by omega) (by omega)
  have e150 := ez 150 (by omega) (by omega) (by omega) (by omega)
  have e2 := ez 2 (by omega) (by omega) (by omega) (by omega)
  have e29 := ez 29 (by omega) (by omega) (by omega) (by omega)
  refine ⟨?_, ?_, ?_, ?_, ?_, ?_, ?_, ?_, ?_, ?_, ?_, ?_, ?_, ?_⟩
  · rw [beg_0]; exact hn
  · rw [e4, e25]; omega
  · rw [beg_0, ez 1 (by omega) (by omega) (by omega) (by omega)]
    have h1 := sg_bound (f := fun p => beginS s n c (126 + 6 * p)) (a := 0) (b := 30) (n := n.toNat) (fun i a b => by
      show 0 ≤ beginS s n c (126 + 6 * i) ∧ beginS s n c (126 + 6 * i) ≤ 30
      rw [beg_c (by omega)]; split <;> omega)
    omega
  · intro p a b
    rw [beg_c ⟨a, b⟩, beg_pl (i := 2) ⟨a, b⟩ (by omega)]
    split <;> omega
  · rw [beg_set (by omega), beg_set (by omega), beg_set (by omega)]; exact hset
  · intro k a b; omega
  · intro k a b; omega
  · rw [e29]; omega
  · rw [e150]; omega
  · intro i a b; omega
  · intro i j a b c; omega
  · rw [e2]; omega
  · intro p a b
    rw [e2, beg_pl (i := 1) ⟨a, b⟩ (by omega), if_neg (by omega), if_neg (by omega)]
    omega
  · intro j
    unfold beginS inb
    have h := hin j
    unfold inb at h
    split
    · split
      · exact h
      · split
        · omega
        · split
          · split <;> omega
          · split <;> omega
    · exact h
end WFP
