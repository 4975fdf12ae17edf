section RES
variable {s : Int → Int}
theorem r1_same {j : Int} (hw : WF s) (h : j = 0 ∨ j = 1 ∨ (26 ≤ j ∧ j ≤ 28) ∨ (126 ≤ j ∧ j < 2087)) : r1S s j = s j := by
  have := hw.2.1
  unfold r1S keepsS laysS
  simp (disch := omega) only [if_pos, if_neg, ↓reduceIte]
theorem r1_2 (hw : WF s) : r1S s 2 = wr (s 2 + 1) := by
  have := hw.2.1
  unfold r1S keepsS laysS
  simp (disch := omega) only [if_pos, if_neg, ↓reduceIte]
theorem r1_3 (hw : WF s) : r1S s 3 = wr (s 3 + (if wnS s < 0 then 1 else 0)) := by
  have := hw.2.1
  unfold r1S keepsS laysS
  rw [if_neg (by omega), if_neg (by omega), if_neg (by omega), if_neg (by omega), if_neg (by omega), if_neg (by omega), if_neg (by omega), if_neg (by omega), if_pos rfl, if_neg (by omega), if_neg (by omega), if_neg (by omega), if_neg (by omega)]
theorem r1_4 (hw : WF s) : r1S s 4 = s 4 - 1 := by
  have := hw.2.1
  unfold r1S keepsS laysS
  simp (disch := omega) only [if_pos, if_neg, ↓reduceIte]
theorem r1_row {j : Int} (hw : WF s) (h : 5 ≤ j ∧ j < 4 + s 4) : r1S s j = s (j + 1) := by
  have := hw.2.1
  unfold r1S keepsS laysS
  simp (disch := omega) only [if_pos, if_neg, ↓reduceIte]
theorem r1_25 (hw : WF s) : r1S s 25 = s 25 + 1 := by
  have := hw.2.1
  unfold r1S keepsS laysS
  simp (disch := omega) only [if_pos, if_neg, ↓reduceIte]
theorem r1_29 (hw : WF s) : r1S s 29 = if s 29 + 1 < 12 then s 29 + 1 else 12 := by
  have := hw.2.1
  have e : laysS s 29 = s 29 := by
    unfold laysS
    rw [if_neg (by omega), if_neg (by omega), if_neg (by omega), if_neg (by omega)]
  unfold r1S keepsS
  rw [if_neg (by omega), if_neg (by omega), if_neg (by omega), if_neg (by omega), if_neg (by omega), if_neg (by omega), if_pos rfl, e]
theorem r1_30 : r1S s 30 = wnS s := by
  unfold r1S keepsS
  rw [if_neg (by omega), if_pos rfl]
theorem r1_31 : r1S s 31 = grF (bdS s) (s 0).toNat := by
  unfold r1S keepsS
  rw [if_neg (by omega), if_neg (by omega), if_pos rfl]
theorem r1_32 : r1S s 32 = tabS s + s 5 := by
  unfold r1S keepsS
  rw [if_neg (by omega), if_neg (by omega), if_neg (by omega), if_pos rfl]
theorem r1_33 : r1S s 33 = cnF (bdS s) (grF (bdS s) (s 0).toNat) (s 0).toNat := by
  unfold r1S keepsS
  rw [if_neg (by omega), if_neg (by omega), if_neg (by omega), if_neg (by omega), if_pos rfl]
theorem r1_bid {p : Int} (hw : WF s) (h : 0 ≤ p ∧ p < 4) : r1S s (34 + p) = s (126 + 6 * p + 2) := by
  have := hw.2.1
  unfold r1S keepsS laysS
  rw [if_neg (by omega), if_neg (by omega), if_neg (by omega), if_neg (by omega), if_neg (by omega), if_pos (by omega), if_neg (by omega), if_neg (by omega), if_neg (by omega), if_neg (by omega), show 34 + p - 34 = p by omega]
theorem r1_log {j : Int} (hw : WF s) (h : 38 ≤ j ∧ j < 126) : r1S s j = s (j - 8) := by
  have := hw.2.1
  unfold r1S keepsS laysS
  simp (disch := omega) only [if_pos, if_neg, ↓reduceIte]
theorem r1_tab (hw : WF s) : r1S s (2087 + s 25) = s 5 := by
  have := hw.2.1
  unfold r1S keepsS laysS
  simp (disch := omega) only [if_pos, if_neg, ↓reduceIte]
theorem r1_tabo {j : Int} (hw : WF s) (h : 2087 ≤ j) (h2 : j ≠ 2087 + s 25) : r1S s j = s j := by
  have := hw.2.1
  unfold r1S keepsS laysS
  simp (disch := omega) only [if_pos, if_neg, ↓reduceIte]
theorem WF_WP (hw : WF s) : WP s := ⟨hw.2.2.2.2.2.2.2.2.1, hw.2.2.2.2.2.2.2.2.2.1, hw.2.2.2.2.2.2.2.2.2.2.1⟩
/-- the pairs, step by step -/
theorem prS_wp (hw : WF s) (hb : ∀ p, 0 ≤ p → p < s 0 → 0 ≤ bdS s p ∧ bdS s p ≤ 120) : ∀ k : Nat, (k : Int) ≤ s 0 → WP (prS s k) ∧ (∀ j, inb (prS s k j)) ∧ (∀ j, j < 150 ∨ 2087 ≤ j → prS s k j = s j)
  | 0, _ => ⟨WF_WP hw, hw.2.2.2.2.2.2.2.2.2.2.2.2.2, fun _ _ => rfl⟩
  | k + 1, h => by
    have w0 := hw.1
    obtain ⟨h1, h2, h3⟩ := prS_wp hw hb k (by omega)
    have h4 := hb k (by omega) (by omega)
    have hx := ixS_in (t := prS s k) (p := (k : Int)) (b := bdS s k) h1.1.1
    have hn := WP_new (t := prS s k) (p := (k : Int)) (b := bdS s k) h1 (by omega) h4
    have h6 := h1.1
    refine ⟨WP_notes h1 (by omega) h4, inb_notes h1.1 h2 (by unfold inb; omega) (by unfold inb; omega), fun j hj => ?_⟩
    show notesS (prS s k) k (bdS s k) (oneW (wnS s) k) j = s j
    rw [nS_o (by omega) (by by_cases hq : ixS (prS s k) k (bdS s k) = prS s k 150 <;> omega)]
    exact h3 j hj
/-- the payments and the pairs together -/
theorem rl_facts {fee : Int → Int} (hw : WF s) (hb : ∀ p, 0 ≤ p → p < s 0 → 0 ≤ bdS s p ∧ bdS s p ≤ 120) (hf : ∀ p, 0 ≤ p → p < s 0 → 0 ≤ fee p ∧ fee p ≤ s (126 + 6 * p)) : ∀ k : Nat, (k : Int) ≤ s 0 →
    (∀ j, 150 ≤ j → j < 2087 → rlS fee (oneW (wnS s)) (r1S s) k j = prS s k j) ∧ (∀ j, j ≠ 1 → (j < 126 ∨ 2087 ≤ j) → rlS fee (oneW (wnS s)) (r1S s) k j = r1S s j) ∧ rlS fee (oneW (wnS s)) (r1S s) k 1 = s 1 + sg fee k ∧
    (∀ p : Int, 0 ≤ p → p < (k : Int) → rlS fee (oneW (wnS s)) (r1S s) k (126 + 6 * p) = s (126 + 6 * p) - fee p ∧ rlS fee (oneW (wnS s)) (r1S s) k (126 + 6 * p + 4) = wr (s (126 + 6 * p + 4) + fee p)) ∧ (∀ p, (k : Int) ≤ p → p < 4 → rlS fee (oneW (wnS s)) (r1S s) k (126 + 6 * p) = s (126 + 6 * p) ∧ rlS fee (oneW (wnS s)) (r1S s) k (126 + 6 * p + 4) = s (126 + 6 * p + 4)) ∧
    (∀ p c, 0 ≤ p → p < 4 → (c = 1 ∨ c = 2 ∨ c = 3 ∨ c = 5) → rlS fee (oneW (wnS s)) (r1S s) k (126 + 6 * p + c) = s (126 + 6 * p + c))
  | 0, _ => by
    refine ⟨fun j a b => r1_same hw (by omega), fun j _ _ => rfl, ?_, fun p a b => by omega, fun p a b => ⟨r1_same hw (by omega), r1_same hw (by omega)⟩, fun p c a b e => r1_same hw (by omega)⟩
    show r1S s 1 = s 1 + sg fee 0
    rw [r1_same hw (by omega)]
    simp [sg]
  | k + 1, h => by
    have w0 := hw.1
    obtain ⟨h1, h2, h3, h4, h5, h6⟩ := rl_facts hw hb hf k (by omega)
    obtain ⟨p1, p2, p3⟩ := prS_wp hw hb k (by omega)
    have hbk := hb k (by omega) (by omega)
    have hfk := hf k (by omega) (by omega)
    have hck := hw.2.2.2.1 k (by omega) (by omega)
    have hsg := sg_bound (f := fee) (a := 0) (b := 120) (n := k) (fun i a b => by have := hf i a (by omega); have := hw.2.2.2.1 i a (by omega); omega)
    have hpot : 0 ≤ s 1 ∧ s 1 ≤ 120 := by
      have h3 := sg_bound (f := fun p => s (126 + 6 * p)) (a := 0) (b := 120) (n := (s 0).toNat) (fun i h0 h1 => ⟨(hw.2.2.2.1 i h0 (by omega)).1, (hw.2.2.2.1 i h0 (by omega)).2.1⟩)
      have := hw.2.2.1
      omega
    have hbid : rlS fee (oneW (wnS s)) (r1S s) k (126 + 6 * (k : Int) + 2) = bdS s k := h6 k 2 (by omega) (by omega) (by omega)
    have hx := ixS_in (t := prS s k) (p := (k : Int)) (b := bdS s k) p1.1.1
    have hn := WP_new (t := prS s k) (p := (k : Int)) (b := bdS s k) p1 (by omega) hbk
    have p6 := p1.1
    have hx2 : ixS (rlS fee (oneW (wnS s)) (r1S s) k) k (bdS s k) = ixS (prS s k) k (bdS s k) := ixS_congr2 p6.2 (h1 150 (by omega) (by omega)) (fun j a b => h1 j (by omega) b)
    have hxx : 151 + 4 * ixS (prS s k) k (bdS s k) + 4 ≤ 2087 := by by_cases hq : ixS (prS s k) k (bdS s k) = prS s k 150 <;> omega
    -- the notes of this step, within and without the pairs
    have hno : ∀ j, j < 150 ∨ 2087 ≤ j → notesS (rlS fee (oneW (wnS s)) (r1S s) k) k (bdS s k) (oneW (wnS s) k) j = rlS fee (oneW (wnS s)) (r1S s) k j := fun j hj => nS_o (by omega) (by rw [hx2]; omega)
    have hni : ∀ j, 150 ≤ j → j < 2087 → notesS (rlS fee (oneW (wnS s)) (r1S s) k) k (bdS s k) (oneW (wnS s) k) j = notesS (prS s k) k (bdS s k) (oneW (wnS s) k) j := fun j j0 j1 => by
      unfold notesS
      rw [hx2, h1 150 (by omega) (by omega), h1 j j0 j1]
    have hst : ∀ j, rlS fee (oneW (wnS s)) (r1S s) (k + 1) j = paysS (notesS (rlS fee (oneW (wnS s)) (r1S s) k) k (bdS s k) (oneW (wnS s) k)) k (fee k) j := fun j => by
      show paysS (notesS (rlS fee (oneW (wnS s)) (r1S s) k) k (rlS fee (oneW (wnS s)) (r1S s) k (126 + 6 * (k : Int) + 2)) (oneW (wnS s) k)) k (fee k) j = _
      rw [hbid]
    refine ⟨fun j a b => ?_, fun j a b => ?_, ?_, fun p a b => ?_, fun p a b => ?_, fun p c a b e => ?_⟩
    · rw [hst]
      unfold paysS
      rw [if_neg (by omega), if_neg (by omega), if_neg (by omega), hni j a b]
      rfl
    · rw [hst]
      unfold paysS
      rw [if_neg (by omega), if_neg (by omega), if_neg a, hno j (by omega)]
      exact h2 j a b
    · rw [hst]
      unfold paysS
      rw [if_neg (by omega), if_neg (by omega), if_pos rfl, hno 1 (by omega), h3]
      show wr (s 1 + sg fee k + fee k) = s 1 + (sg fee k + fee k)
      rw [wr_id (by unfold inb; omega)]
      omega
    · by_cases hp : p = k
      · have h7 := h5 p (by omega) (by omega)
        rw [hst, hst]
        unfold paysS
        rw [hp] at h7 ⊢
        rw [if_pos rfl, if_neg (by omega), if_pos rfl, hno _ (by omega), hno _ (by omega), h7.1, h7.2, wr_id (by unfold inb; omega)]
        exact ⟨rfl, rfl⟩
      · have h7 := h4 p a (by omega)
        rw [hst, hst]
        unfold paysS
        rw [if_neg (by omega), if_neg (by omega), if_neg (by omega), if_neg (by omega), if_neg (by omega), if_neg (by omega), hno _ (by omega), hno _ (by omega)]
        exact h7
    · have h7 := h5 p (by omega) b
      rw [hst, hst]
      unfold paysS
      rw [if_neg (by omega), if_neg (by omega), if_neg (by omega), if_neg (by omega), if_neg (by omega), if_neg (by omega), hno _ (by omega), hno _ (by omega)]
      exact h7
    · rw [hst]
      unfold paysS
      rw [if_neg (by omega), if_neg (by omega), if_neg (by omega), hno _ (by omega)]
      exact h6 p c a b e
end RES
