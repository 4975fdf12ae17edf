section RES2
variable {s : Int → Int}
theorem wnS_in (hw : WF s) : -1 ≤ wnS s ∧ wnS s < s 0 := by
  have h := winF_in (f := bdS s) (n := (s 0).toNat)
  have := hw.1
  unfold wnS
  omega
theorem r3_out {j : Int} (hw : WF s) (h : j ≠ 25) (h2 : j < 126 ∨ 150 ≤ j) : r3S s j = r2S s j := by
  have h3 := wnS_in hw
  have := hw.1
  unfold r3S wonS
  split
  · dsimp only
    rw [if_neg (by omega), if_neg (by omega), if_neg (by omega)]
  · rfl
theorem r3_25 (hw : WF s) : r3S s 25 = if 0 ≤ wnS s then 0 else r2S s 25 := by
  have h3 := wnS_in hw
  unfold r3S wonS
  split
  · dsimp only
    rw [if_neg (by omega), if_neg (by omega), if_pos rfl]
  · rfl
theorem r3_pl {p c : Int} (hw : WF s) (hp : 0 ≤ p ∧ p < 4) (hc : 0 ≤ c ∧ c < 6) : r3S s (126 + 6 * p + c) = if p = wnS s ∧ c = 1 then wr (r2S s (126 + 6 * p + c) + (tabS s + s 5)) else if p = wnS s ∧ c = 3 then wr (r2S s (126 + 6 * p + c) + 1) else r2S s (126 + 6 * p + c) := by
  have h3 := wnS_in hw
  unfold r3S wonS
  split
  · dsimp only
    by_cases h1 : p = wnS s ∧ c = 1
    · rw [if_pos h1, if_pos (by omega)]
    · rw [if_neg h1, if_neg (by omega)]
      by_cases h2 : p = wnS s ∧ c = 3
      · rw [if_pos h2, if_pos (by omega)]
      · rw [if_neg h2, if_neg (by omega), if_neg (by omega)]
  · rw [if_neg (by omega), if_neg (by omega)]
theorem sg_but {c w : Int} : ∀ {n : Nat}, 0 ≤ w → w < n → sg (fun p => if p = w then 0 else c) n = c * ((n : Int) - 1)
  | 0, h0, h1 => by omega
  | n + 1, h0, h1 => by
    show sg (fun p => if p = w then 0 else c) n + (if (n : Int) = w then 0 else c) = c * (((n + 1 : Nat) : Int) - 1)
    by_cases hw : (n : Int) = w
    · rw [if_pos hw, show (((n + 1 : Nat) : Int) - 1) = n by omega]
      have : ∀ m : Nat, (m : Int) ≤ w → sg (fun p => if p = w then 0 else c) m = c * (m : Int) := by
        intro m
        induction m with
        | zero => intro _; simp [sg]
        | succ m ih =>
          intro hm
          show sg (fun p => if p = w then 0 else c) m + (if (m : Int) = w then 0 else c) = c * ((m + 1 : Nat) : Int)
          rw [ih (by omega), if_neg (by omega), Int.natCast_succ, Int.mul_add, Int.mul_one]
      rw [this n (by omega), Int.add_zero]
    · rw [if_neg hw, sg_but (n := n) h0 (by omega), show (((n + 1 : Nat) : Int) - 1) = ((n : Int) - 1) + 1 by omega, Int.mul_add, Int.mul_one]
/-- what the sharing does -/
theorem shr_facts {t : Int → Int} {w part : Int} (hc : ∀ p, 0 ≤ p → p < 4 → -1000 ≤ t (126 + 6 * p) ∧ t (126 + 6 * p) ≤ 1000) (hp : 0 ≤ part ∧ part ≤ 1000) (h1 : 0 ≤ t 1 ∧ t 1 ≤ 1000) : ∀ k : Nat, k ≤ 4 →
    (∀ j, j ≠ 1 → (j < 126 ∨ 150 ≤ j) → shrS w part t k j = t j) ∧ shrS w part t k 1 = t 1 - sg (fun p => if p = w then 0 else part) k ∧
    (∀ p : Int, 0 ≤ p → p < (k : Int) → shrS w part t k (126 + 6 * p) = t (126 + 6 * p) + (if p = w then 0 else part) ∧ shrS w part t k (126 + 6 * p + 5) = wr (t (126 + 6 * p + 5) + (if p = w then 0 else part))) ∧ (∀ p, (k : Int) ≤ p → p < 4 → shrS w part t k (126 + 6 * p) = t (126 + 6 * p) ∧ shrS w part t k (126 + 6 * p + 5) = t (126 + 6 * p + 5)) ∧
    (∀ p c, 0 ≤ p → p < 4 → 1 ≤ c → c ≤ 4 → shrS w part t k (126 + 6 * p + c) = t (126 + 6 * p + c))
  | 0, _ => ⟨fun _ _ _ => rfl, by show t 1 = t 1 - 0; omega, fun p a b => by omega, fun p a b => ⟨rfl, rfl⟩, fun p c _ _ _ _ => rfl⟩
  | k + 1, hk => by
    obtain ⟨h2, h3, h4, h5, h6⟩ := shr_facts (w := w) hc hp h1 k (by omega)
    have hsg := sg_bound (f := fun p => if p = w then 0 else part) (a := 0) (b := 1000) (n := k) (fun i a b => by show 0 ≤ (if i = w then 0 else part) ∧ (if i = w then 0 else part) ≤ 1000; split <;> omega)
    have hst : ∀ j, shrS w part t (k + 1) j = if j = 126 + 6 * (k : Int) then wr (shrS w part t k j + (if (k : Int) = w then 0 else part)) else if j = 126 + 6 * (k : Int) + 5 then wr (shrS w part t k j + (if (k : Int) = w then 0 else part)) else if j = 1 then wr (shrS w part t k j - (if (k : Int) = w then 0 else part)) else shrS w part t k j := fun _ => rfl
    have hso : 0 ≤ (if (k : Int) = w then 0 else part) ∧ (if (k : Int) = w then 0 else part) ≤ 1000 := by split <;> omega
    refine ⟨fun j a b => ?_, ?_, fun p a b => ?_, fun p a b => ?_, fun p c a b e f => ?_⟩
    · rw [hst, if_neg (by omega), if_neg (by omega), if_neg a]
      exact h2 j a b
    · rw [hst, if_neg (by omega), if_neg (by omega), if_pos rfl, h3]
      show wr (t 1 - sg (fun p => if p = w then 0 else part) k - (if (k : Int) = w then 0 else part)) = t 1 - (sg (fun p => if p = w then 0 else part) k + (if (k : Int) = w then 0 else part))
      rw [wr_id (by unfold inb; omega)]
      omega
    · have hst0 : shrS w part t (k + 1) (126 + 6 * (k : Int)) = wr (shrS w part t k (126 + 6 * (k : Int)) + (if (k : Int) = w then 0 else part)) := by rw [hst, if_pos rfl]
      have hst5 : shrS w part t (k + 1) (126 + 6 * (k : Int) + 5) = wr (shrS w part t k (126 + 6 * (k : Int) + 5) + (if (k : Int) = w then 0 else part)) := by rw [hst, if_neg (by omega), if_pos rfl]
      have hstn : ∀ j, j ≠ 126 + 6 * (k : Int) → j ≠ 126 + 6 * (k : Int) + 5 → j ≠ 1 → shrS w part t (k + 1) j = shrS w part t k j := fun j x y z => by rw [hst, if_neg x, if_neg y, if_neg z]
      by_cases hpk : p = k
      · have h7 := h5 p (by omega) (by omega)
        have h8 := hc p a (by omega)
        rw [hpk] at h7 h8 ⊢
        rw [hst0, hst5, h7.1, h7.2, wr_id (by unfold inb; omega)]
        exact ⟨rfl, rfl⟩
      · rw [hstn _ (by omega) (by omega) (by omega), hstn _ (by omega) (by omega) (by omega)]
        exact h4 p a (by omega)
    · have hstn : ∀ j, j ≠ 126 + 6 * (k : Int) → j ≠ 126 + 6 * (k : Int) + 5 → j ≠ 1 → shrS w part t (k + 1) j = shrS w part t k j := fun j x y z => by rw [hst, if_neg x, if_neg y, if_neg z]
      rw [hstn _ (by omega) (by omega) (by omega), hstn _ (by omega) (by omega) (by omega)]
      exact h5 p (by omega) b
    · have hstn : ∀ j, j ≠ 126 + 6 * (k : Int) → j ≠ 126 + 6 * (k : Int) + 5 → j ≠ 1 → shrS w part t (k + 1) j = shrS w part t k j := fun j x y z => by rw [hst, if_neg x, if_neg y, if_neg z]
      rw [hstn _ (by omega) (by omega) (by omega)]
      exact h6 p c a b e f
theorem clr_facts {t : Int → Int} : ∀ k : Nat, (∀ p : Int, 0 ≤ p → p < (k : Int) → clrS t k (126 + 6 * p + 2) = -1) ∧ (∀ j, (∀ p : Int, 0 ≤ p → p < k → j ≠ 126 + 6 * p + 2) → clrS t k j = t j)
  | 0 => ⟨fun p a b => by omega, fun _ _ => rfl⟩
  | k + 1 => by
    obtain ⟨h1, h2⟩ := clr_facts (t := t) k
    refine ⟨fun p a b => ?_, fun j hj => ?_⟩
    · show up (clrS t k) (126 + 6 * (k : Int) + 2) (-1) (126 + 6 * p + 2) = -1
      by_cases hp : p = k
      · rw [hp, up_eq]
      · rw [up_ne _ _ (by omega)]
        exact h1 p a (by omega)
    · show up (clrS t k) (126 + 6 * (k : Int) + 2) (-1) j = t j
      rw [up_ne _ _ (hj k (by omega) (by omega))]
      exact h2 j (fun p a b => hj p a (by omega))
/-- what a resolved round leaves -/
def FE (s : Int → Int) : Int → Int := feeF (bdS s) (s 0).toNat (s 26) (s 27)
def GO (s : Int → Int) : Int → Int := gotF (bdS s) (s 0).toNat (s 1) (s 26) (s 27) (s 28)
def PT (s : Int → Int) : Int := potF (bdS s) (s 0).toNat (s 1) (s 26) (s 27)
def PA (s : Int → Int) : Int := partF (bdS s) (s 0).toNat (s 1) (s 26) (s 27) (s 28)
def BD (s : Int → Int) : Prop := ∀ p, 0 ≤ p → p < s 0 → 0 ≤ bdS s p
theorem bd_b (hw : WF s) (hb : BD s) : ∀ p, 0 ≤ p → p < s 0 → 0 ≤ bdS s p ∧ bdS s p ≤ 120 := fun p a b => by
  have h1 := hb p a b
  have h2 := hw.2.2.2.1 p a (by have := hw.1; omega)
  unfold bdS at *
  omega
theorem FE_b (hw : WF s) (hb : BD s) : ∀ p, 0 ≤ p → p < s 0 → 0 ≤ FE s p ∧ FE s p ≤ s (126 + 6 * p) := fun p a b => by
  have h1 := hb p a b
  have h2 := hw.2.2.2.1 p a (by have := hw.1; omega)
  have h3 := hw.2.2.2.2.1
  have h4 := feeF_b (f := bdS s) (n := (s 0).toNat) (tie := s 26) (oth := s 27) (p := p) h1 (by omega) (by omega)
  unfold FE
  have : bdS s p = s (126 + 6 * p + 2) := rfl
  omega
theorem sg_le {f g : Int → Int} : ∀ {n : Nat}, (∀ i : Int, 0 ≤ i → i < n → f i ≤ g i) → sg f n ≤ sg g n
  | 0, _ => Int.le_refl 0
  | n + 1, h => by
    have h1 := sg_le (n := n) (fun i a b => h i a (by omega))
    have h2 := h n (by omega) (by omega)
    show sg f n + f n ≤ sg g n + g n
    omega
theorem PT_b (hw : WF s) (hb : BD s) : 0 ≤ PT s ∧ PT s ≤ 120 := by
  have h1 := sg_le (f := FE s) (g := fun p => s (126 + 6 * p)) (n := (s 0).toNat) (fun i a b => (FE_b hw hb i a (by omega)).2)
  have h2 := sg_bound (f := FE s) (a := 0) (b := 120) (n := (s 0).toNat) (fun i a b => by have := FE_b hw hb i a (by omega); have := hw.2.2.2.1 i a (by have := hw.1; omega); omega)
  have h3 := hw.2.2.1
  have : PT s = s 1 + sg (FE s) (s 0).toNat := rfl
  omega
theorem PA_b (hw : WF s) (hb : BD s) : 0 ≤ PA s ∧ PA s ≤ 120 ∧ 0 ≤ PA s * (s 0 - 1) ∧ PA s * (s 0 - 1) ≤ PT s := by
  have h1 := PT_b hw hb
  have h2 := hw.1
  have h3 : PA s = if winF (bdS s) (s 0).toNat ≠ -1 ∧ s 28 = 1 then Int.tdiv (PT s) (((s 0).toNat : Int) - 1) else 0 := rfl
  rw [show (((s 0).toNat : Int) - 1) = s 0 - 1 by omega] at h3
  rw [h3]
  split
  · rw [Int.tdiv_eq_ediv_of_nonneg h1.1]
    have h4 := Int.ediv_nonneg h1.1 (show 0 ≤ s 0 - 1 by omega)
    have h5 := Int.ediv_mul_le (PT s) (show s 0 - 1 ≠ 0 by omega)
    have h6 := Int.mul_nonneg h4 (show 0 ≤ s 0 - 1 by omega)
    have h7 := Int.ediv_le_self (s 0 - 1) h1.1
    omega
  · omega
end RES2
section RES3
variable {s : Int → Int}
theorem r2_all (hw : WF s) (hb : BD s) : (∀ j, 150 ≤ j → j < 2087 → r2S s j = prS s (s 0).toNat j) ∧ (∀ j, j ≠ 1 → (j < 126 ∨ 2087 ≤ j) → r2S s j = r1S s j) ∧ r2S s 1 = PT s ∧ (∀ p, 0 ≤ p → p < s 0 → r2S s (126 + 6 * p) = s (126 + 6 * p) - FE s p ∧ r2S s (126 + 6 * p + 4) = wr (s (126 + 6 * p + 4) + FE s p)) ∧ (∀ p, s 0 ≤ p → p < 4 → r2S s (126 + 6 * p) = s (126 + 6 * p) ∧ r2S s (126 + 6 * p + 4) = s (126 + 6 * p + 4)) ∧ (∀ p c, 0 ≤ p → p < 4 → (c = 1 ∨ c = 2 ∨ c = 3 ∨ c = 5) → r2S s (126 + 6 * p + c) = s (126 + 6 * p + c)) := by
  have h := rl_facts (fee := FE s) hw (bd_b hw hb) (FE_b hw hb) (s 0).toNat (by have := hw.1; omega)
  rw [show (((s 0).toNat : Nat) : Int) = s 0 by have := hw.1; omega] at h
  exact h
theorem r4_all (hw : WF s) (hb : BD s) : (∀ j, j ≠ 1 → (j < 126 ∨ 150 ≤ j) → r4S s j = r3S s j) ∧ r4S s 1 = PT s - PA s * (s 0 - 1) ∧ (∀ p, 0 ≤ p → p < s 0 → r4S s (126 + 6 * p) = r3S s (126 + 6 * p) + GO s p ∧ r4S s (126 + 6 * p + 5) = wr (r3S s (126 + 6 * p + 5) + GO s p)) ∧ (∀ p, s 0 ≤ p → p < 4 → r4S s (126 + 6 * p) = r3S s (126 + 6 * p) ∧ r4S s (126 + 6 * p + 5) = r3S s (126 + 6 * p + 5)) ∧ (∀ p c, 0 ≤ p → p < 4 → 1 ≤ c → c ≤ 4 → r4S s (126 + 6 * p + c) = r3S s (126 + 6 * p + c)) := by
  obtain ⟨a1, a2, a3, a4, a5, a6⟩ := r2_all hw hb
  have w0 := hw.1
  have w13 := hw.2.2.2.2.2.2.2.2.2.2.2.2.2
  have hwn := wnS_in hw
  have hPT := PT_b hw hb
  have hPA := PA_b hw hb
  have h31 : r3S s 1 = PT s := by rw [r3_out hw (by omega) (by omega)]; exact a3
  have h3c : ∀ p, 0 ≤ p → p < 4 → r3S s (126 + 6 * p) = r2S s (126 + 6 * p) := fun p p0 p1 => by
    have := r3_pl (p := p) (c := 0) hw ⟨p0, p1⟩ (by omega)
    rw [if_neg (by omega), if_neg (by omega), Int.add_zero] at this
    exact this
  have h3g : ∀ p, 0 ≤ p → p < 4 → r3S s (126 + 6 * p + 5) = s (126 + 6 * p + 5) := fun p p0 p1 => by
    have := r3_pl (p := p) (c := 5) hw ⟨p0, p1⟩ (by omega)
    rw [if_neg (by omega), if_neg (by omega), a6 p 5 p0 p1 (by omega)] at this
    exact this
  have hc : ∀ p, 0 ≤ p → p < 4 → -1000 ≤ r3S s (126 + 6 * p) ∧ r3S s (126 + 6 * p) ≤ 1000 := fun p p0 p1 => by
    rw [h3c p p0 p1]
    have h5 := hw.2.2.2.1 p p0 p1
    by_cases hp : p < s 0
    · have h6 := FE_b hw hb p p0 hp
      rw [(a4 p p0 hp).1]; omega
    · rw [(a5 p (by omega) p1).1]; omega
  have hGO : ∀ p, GO s p = if p = wnS s then 0 else PA s := fun _ => rfl
  have hPAd : PA s = if wnS s ≠ -1 ∧ s 28 = 1 then Int.tdiv (PT s) (((s 0).toNat : Int) - 1) else 0 := rfl
  rw [show (((s 0).toNat : Int) - 1) = s 0 - 1 by omega] at hPAd
  unfold r4S
  by_cases hcase : 0 ≤ wnS s ∧ s 28 = 1
  · rw [if_pos hcase]
    rw [if_pos ⟨by omega, hcase.2⟩] at hPAd
    have hpart : wr (Int.tdiv (r3S s 1) (s 0 - 1)) = PA s := by rw [h31, ← hPAd, wr_id (by unfold inb; omega)]
    rw [hpart]
    have hs := shr_facts (t := r3S s) (w := wnS s) (part := PA s) hc (by omega) (by omega) (s 0).toNat (by omega)
    have hsum := sg_but (c := PA s) (w := wnS s) (n := (s 0).toNat) hcase.1 (by omega)
    rw [hsum, h31] at hs
    rw [show (((s 0).toNat : Nat) : Int) = s 0 by omega] at hs
    exact hs
  · rw [if_neg hcase]
    have hPA0 : PA s = 0 := by rw [hPAd, if_neg (fun z => hcase ⟨by omega, z.2⟩)]
    have hG0 : ∀ p, GO s p = 0 := fun p => by rw [hGO, hPA0]; split <;> rfl
    refine ⟨fun _ _ _ => rfl, by rw [hPA0, h31]; omega, fun p p0 p1 => ⟨by rw [hG0]; omega, ?_⟩, fun p _ _ => ⟨rfl, rfl⟩, fun p c _ _ _ _ => rfl⟩
    rw [hG0, Int.add_zero, h3g p p0 (by omega), wr_id (w13 _)]
theorem res_o {j : Int} (hw : WF s) (h : j < 126 ∨ 150 ≤ j) : resS s j = r4S s j := (clr_facts (t := r4S s) (s 0).toNat).2 j (fun p a b => by have := hw.1; omega)
theorem res_lo {j : Int} (hw : WF s) (hb : BD s) (h : j < 126) (h1 : j ≠ 1) (h2 : j ≠ 25) : resS s j = r1S s j := by
  rw [res_o hw (by omega), (r4_all hw hb).1 j h1 (by omega), r3_out hw h2 (by omega), (r2_all hw hb).2.1 j h1 (by omega)]
theorem res_1 (hw : WF s) (hb : BD s) : resS s 1 = PT s - PA s * (s 0 - 1) := by
  rw [res_o hw (by omega)]
  exact (r4_all hw hb).2.1
theorem res_25 (hw : WF s) (hb : BD s) : resS s 25 = if 0 ≤ wnS s then 0 else s 25 + 1 := by
  rw [res_o hw (by omega), (r4_all hw hb).1 25 (by omega) (by omega), r3_25 hw, (r2_all hw hb).2.1 25 (by omega) (by omega), r1_25 hw]
theorem res_pr {j : Int} (hw : WF s) (hb : BD s) (h : 150 ≤ j) (h2 : j < 2087) : resS s j = prS s (s 0).toNat j := by
  rw [res_o hw (by omega), (r4_all hw hb).1 j (by omega) (by omega), r3_out hw (by omega) (by omega), (r2_all hw hb).1 j h h2]
theorem res_hi {j : Int} (hw : WF s) (hb : BD s) (h : 2087 ≤ j) : resS s j = r1S s j := by
  rw [res_o hw (by omega), (r4_all hw hb).1 j (by omega) (by omega), r3_out hw (by omega) (by omega), (r2_all hw hb).2.1 j (by omega) (by omega)]
theorem res_pl {p : Int} (hw : WF s) (hb : BD s) (h : 0 ≤ p) (h2 : p < s 0) : resS s (126 + 6 * p) = s (126 + 6 * p) - FE s p + GO s p ∧ resS s (126 + 6 * p + 1) = (if p = wnS s then wr (s (126 + 6 * p + 1) + (tabS s + s 5)) else s (126 + 6 * p + 1)) ∧ resS s (126 + 6 * p + 2) = -1 ∧ resS s (126 + 6 * p + 3) = (if p = wnS s then wr (s (126 + 6 * p + 3) + 1) else s (126 + 6 * p + 3)) ∧ resS s (126 + 6 * p + 4) = wr (s (126 + 6 * p + 4) + FE s p) ∧ resS s (126 + 6 * p + 5) = wr (s (126 + 6 * p + 5) + GO s p) := by
  have w0 := hw.1
  obtain ⟨a1, a2, a3, a4, a5, a6⟩ := r2_all hw hb
  obtain ⟨b1, b2, b3, b4, b5⟩ := r4_all hw hb
  have hn : (((s 0).toNat : Nat) : Int) = s 0 := by omega
  have hcl : ∀ c, 0 ≤ c → c < 6 → c ≠ 2 → resS s (126 + 6 * p + c) = r4S s (126 + 6 * p + c) := fun c c0 c1 c2 => (clr_facts (t := r4S s) (s 0).toNat).2 _ (fun q a b => by omega)
  have h3 : ∀ c, 0 ≤ c → c < 6 → c ≠ 1 → c ≠ 3 → r3S s (126 + 6 * p + c) = r2S s (126 + 6 * p + c) := fun c c0 c1 c2 c3 => by
    rw [r3_pl (p := p) (c := c) hw (by omega) (by omega), if_neg (by omega), if_neg (by omega)]
  have c0 := hcl 0 (by omega) (by omega) (by omega)
  have d0 := h3 0 (by omega) (by omega) (by omega) (by omega)
  rw [Int.add_zero] at c0 d0
  refine ⟨?_, ?_, ?_, ?_, ?_, ?_⟩
  · rw [c0, (b3 p h h2).1, d0, (a4 p h h2).1]
  · rw [hcl 1 (by omega) (by omega) (by omega), b5 p 1 h (by omega) (by omega) (by omega), r3_pl (p := p) (c := 1) hw (by omega) (by omega), a6 p 1 h (by omega) (by omega)]
    by_cases hp : p = wnS s
    · rw [if_pos ⟨hp, rfl⟩, if_pos hp]
    · rw [if_neg (by omega), if_neg (by omega), if_neg hp]
  · exact (clr_facts (t := r4S s) (s 0).toNat).1 p h (by omega)
  · rw [hcl 3 (by omega) (by omega) (by omega), b5 p 3 h (by omega) (by omega) (by omega), r3_pl (p := p) (c := 3) hw (by omega) (by omega), a6 p 3 h (by omega) (by omega)]
    by_cases hp : p = wnS s
    · rw [if_neg (by omega), if_pos ⟨hp, rfl⟩, if_pos hp]
    · rw [if_neg (by omega), if_neg (by omega), if_neg hp]
  · rw [hcl 4 (by omega) (by omega) (by omega), b5 p 4 h (by omega) (by omega) (by omega), h3 4 (by omega) (by omega) (by omega) (by omega), (a4 p h h2).2]
  · rw [hcl 5 (by omega) (by omega) (by omega), (b3 p h h2).2, h3 5 (by omega) (by omega) (by omega) (by omega), a6 p 5 h (by omega) (by omega)]
theorem res_po {p c : Int} (hw : WF s) (hb : BD s) (h : s 0 ≤ p) (h2 : p < 4) (hc : 0 ≤ c ∧ c < 6) : resS s (126 + 6 * p + c) = s (126 + 6 * p + c) := by
  have w0 := hw.1
  have hwn := wnS_in hw
  obtain ⟨a1, a2, a3, a4, a5, a6⟩ := r2_all hw hb
  obtain ⟨b1, b2, b3, b4, b5⟩ := r4_all hw hb
  rw [show resS s (126 + 6 * p + c) = r4S s (126 + 6 * p + c) from (clr_facts (t := r4S s) (s 0).toNat).2 _ (fun q a b => by omega)]
  have h3 : r3S s (126 + 6 * p + c) = r2S s (126 + 6 * p + c) := by
    rw [r3_pl (p := p) (c := c) hw (by omega) hc, if_neg (by omega), if_neg (by omega)]
  by_cases hc0 : c = 0
  · rw [hc0, Int.add_zero] at h3 ⊢
    rw [(b4 p h h2).1, h3, (a5 p h h2).1]
  · by_cases hc5 : c = 5
    · rw [hc5] at h3 ⊢
      rw [(b4 p h h2).2, h3, a6 p 5 (by omega) h2 (by omega)]
    · rw [b5 p c (by omega) h2 (by omega) (by omega), h3]
      by_cases hc4 : c = 4
      · rw [hc4]; exact (a5 p h h2).2
      · exact a6 p c (by omega) h2 (by omega)
end RES3
