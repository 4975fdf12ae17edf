/-! THE CHANGES of a game on the row s, as the reference does them, and what they leave -/
def up (s : Int → Int) (j v : Int) : Int → Int := fun a => if a = j then v else s a
theorem up_eq (s : Int → Int) (j v : Int) : up s j v j = v := by unfold up; rw [if_pos rfl]
theorem up_ne (s : Int → Int) {j a : Int} (v : Int) (h : a ≠ j) : up s j v a = s a := by unfold up; rw [if_neg h]
def lotS (s : Int → Int) (v : Int) : Int → Int := up (up s (5 + s 4) v) 4 (s 4 + 1)
def bidS (s : Int → Int) (p c : Int) : Int → Int := up s (126 + 6 * p + 2) c
def setS (s : Int → Int) (w v : Int) : Int → Int := up s (26 + w) v
def beginS (s : Int → Int) (n c : Int) : Int → Int := fun j => if 0 ≤ j ∧ j < 2087 then (if 26 ≤ j ∧ j ≤ 28 then s j else if j = 0 then n else if 126 ≤ j ∧ j < 150 ∧ (j - 126) % 6 = 0 then (if (j - 126) / 6 < n then c else 0) else if 126 ≤ j ∧ j < 150 ∧ (j - 126) % 6 = 2 then -1 else 0) else s j
def laysS (s : Int → Int) : Int → Int := fun j => if j = 2087 + s 25 then s 5 else if j = 25 then s 25 + 1 else if j = 4 then s 4 - 1 else if 5 ≤ j ∧ j < 4 + s 4 then s (j + 1) else s j
def keepsS (s : Int → Int) (w most sum many : Int) : Int → Int := fun j => if 38 ≤ j ∧ j < 126 then s (j - 8) else if j = 30 then w else if j = 31 then most else if j = 32 then sum else if j = 33 then many else if 34 ≤ j ∧ j < 38 then s (126 + 6 * (j - 34) + 2) else if j = 29 then (if s 29 + 1 < 12 then s 29 + 1 else 12) else if j = 2 then wr (s 2 + 1) else if j = 3 then wr (s 3 + (if w < 0 then 1 else 0)) else s j
def paysS (s : Int → Int) (p c : Int) : Int → Int := fun j => if j = 126 + 6 * p then wr (s j - c) else if j = 126 + 6 * p + 4 then wr (s j + c) else if j = 1 then wr (s j + c) else s j
def rlS (fee wn : Int → Int) (s : Int → Int) : Nat → Int → Int
  | 0 => s
  | k + 1 => paysS (notesS (rlS fee wn s k) (k : Int) (rlS fee wn s k (126 + 6 * (k : Int) + 2)) (wn (k : Int))) (k : Int) (fee (k : Int))
def wonS (s : Int → Int) (w sum : Int) : Int → Int := if 0 ≤ w then (fun j => if j = 126 + 6 * w + 1 then wr (s j + sum) else if j = 126 + 6 * w + 3 then wr (s j + 1) else if j = 25 then 0 else s j) else s
def shrS (w part : Int) (s : Int → Int) : Nat → Int → Int
  | 0 => s
  | k + 1 => fun j => if j = 126 + 6 * (k : Int) then wr (shrS w part s k j + (if (k : Int) = w then 0 else part)) else if j = 126 + 6 * (k : Int) + 5 then wr (shrS w part s k j + (if (k : Int) = w then 0 else part)) else if j = 1 then wr (shrS w part s k j - (if (k : Int) = w then 0 else part)) else shrS w part s k j
def clrS (s : Int → Int) : Nat → Int → Int
  | 0 => s
  | k + 1 => up (clrS s k) (126 + 6 * (k : Int) + 2) (-1)
def bdS (s : Int → Int) : Int → Int := fun p => s (126 + 6 * p + 2)
def wnS (s : Int → Int) : Int := winF (bdS s) (s 0).toNat
def r1S (s : Int → Int) : Int → Int := keepsS (laysS s) (wnS s) (grF (bdS s) (s 0).toNat) (tabS s + s 5) (cnF (bdS s) (grF (bdS s) (s 0).toNat) (s 0).toNat)
def oneW (w : Int) : Int → Int := fun k => if k = w then 1 else 0
def r2S (s : Int → Int) : Int → Int := rlS (feeF (bdS s) (s 0).toNat (s 26) (s 27)) (oneW (wnS s)) (r1S s) (s 0).toNat
def r3S (s : Int → Int) : Int → Int := wonS (r2S s) (wnS s) (tabS s + s 5)
def r4S (s : Int → Int) : Int → Int := if 0 ≤ wnS s ∧ s 28 = 1 then shrS (wnS s) (wr (Int.tdiv (r3S s 1) (s 0 - 1))) (r3S s) (s 0).toNat else r3S s
def resS (s : Int → Int) : Int → Int := clrS (r4S s) (s 0).toNat
/-- the pairs alone -/
def prS (s : Int → Int) : Nat → Int → Int
  | 0 => s
  | k + 1 => notesS (prS s k) (k : Int) (bdS s (k : Int)) (oneW (wnS s) (k : Int))
theorem ixS_congr {t u : Int → Int} {p b : Int} (h0 : t 150 = u 150) (h : ∀ j, 151 ≤ j → t j = u j) : ixS t p b = ixS u p b := by
  unfold ixS
  rw [h0]
  exact ixN_congr (fun i a b => ⟨h _ (by omega), h _ (by omega)⟩)
theorem ixS_congr2 {t u : Int → Int} {p b : Int} (hb : u 150 ≤ 484) (h0 : t 150 = u 150) (h : ∀ j, 151 ≤ j → j < 2087 → t j = u j) : ixS t p b = ixS u p b := by
  unfold ixS
  rw [h0]
  exact ixN_congr (fun i a b => ⟨h _ (by omega) (by omega), h _ (by omega) (by omega)⟩)
theorem ixS_in {t : Int → Int} {p b : Int} (h : 0 ≤ t 150) : 0 ≤ ixS t p b ∧ ixS t p b ≤ t 150 := by
  have h := ixN_in (a := fun i => t (151 + 4 * i)) (b := fun i => t (151 + 4 * i + 1)) (p := p) (q := b) (n := (t 150).toNat) (k := 0)
  unfold ixS
  omega
theorem ixS_hit {t : Int → Int} {p b : Int} (h0 : 0 ≤ t 150) (h : ixS t p b < t 150) : t (151 + 4 * ixS t p b) = p ∧ t (151 + 4 * ixS t p b + 1) = b := ixN_hit (a := fun i => t (151 + 4 * i)) (b := fun i => t (151 + 4 * i + 1)) (by unfold ixS at h; omega)
theorem ixS_miss {t : Int → Int} {p b i : Int} (h0 : 0 ≤ i) (h : i < ixS t p b) : ¬ (t (151 + 4 * i) = p ∧ t (151 + 4 * i + 1) = b) := ixN_miss (a := fun i => t (151 + 4 * i)) (b := fun i => t (151 + 4 * i + 1)) h0 h
/-- numbers apart below a bound are no more than it -/
theorem pigeon : ∀ (m n : Nat) (f : Nat → Nat), (∀ i, i < n → f i < m) → (∀ i j, i < j → j < n → f i ≠ f j) → n ≤ m
  | 0, 0, _, _, _ => Nat.le_refl 0
  | 0, n + 1, f, h, _ => absurd (h 0 (by omega)) (by omega)
  | m + 1, 0, _, _, _ => by omega
  | m + 1, n + 1, f, h, hi => by
    have := pigeon m n (fun i => if f i = m then f n else f i) (fun i hn => by
      have h1 := h i (by omega)
      have h2 := h n (by omega)
      have h3 := hi i n hn (by omega)
      show (if f i = m then f n else f i) < m
      split <;> omega) (fun i j hij hj => by
      have h1 := hi i j hij (by omega)
      have h2 := hi i n (by omega) (by omega)
      have h3 := hi j n hj (by omega)
      show (if f i = m then f n else f i) ≠ (if f j = m then f n else f j)
      split <;> split <;> omega)
    omega
/-- what holds of the pairs -/
def WP (t : Int → Int) : Prop := (0 ≤ t 150 ∧ t 150 ≤ 484) ∧ (∀ i, 0 ≤ i → i < t 150 → 0 ≤ t (151 + 4 * i) ∧ t (151 + 4 * i) < 4 ∧ 0 ≤ t (151 + 4 * i + 1) ∧ t (151 + 4 * i + 1) ≤ 120) ∧ (∀ i j, 0 ≤ i → i < j → j < t 150 → ¬ (t (151 + 4 * i) = t (151 + 4 * j) ∧ t (151 + 4 * i + 1) = t (151 + 4 * j + 1)))
theorem WP_new {t : Int → Int} {p b : Int} (h : WP t) (hp : 0 ≤ p ∧ p < 4) (hb : 0 ≤ b ∧ b ≤ 120) (hx : ixS t p b = t 150) : t 150 < 484 := by
  obtain ⟨h1, h2, h3⟩ := h
  have hm : ∀ i, 0 ≤ i → i < t 150 → ¬ (t (151 + 4 * i) = p ∧ t (151 + 4 * i + 1) = b) := fun i i0 i1 => ixS_miss i0 (by omega)
  have := pigeon 484 ((t 150).toNat + 1) (fun i => if (i : Int) = t 150 then (p * 121 + b).toNat else (t (151 + 4 * i) * 121 + t (151 + 4 * i + 1)).toNat) (fun i hi => by
    show (if (i : Int) = t 150 then (p * 121 + b).toNat else (t (151 + 4 * i) * 121 + t (151 + 4 * i + 1)).toNat) < 484
    split
    · omega
    · have := h2 i (by omega) (by omega)
      omega) (fun i j hij hj => by
    show (if (i : Int) = t 150 then (p * 121 + b).toNat else (t (151 + 4 * i) * 121 + t (151 + 4 * i + 1)).toNat) ≠ (if (j : Int) = t 150 then (p * 121 + b).toNat else (t (151 + 4 * j) * 121 + t (151 + 4 * j + 1)).toNat)
    have a1 := h2 i (by omega) (by omega)
    rw [if_neg (by omega)]
    split
    · have a2 := hm i (by omega) (by omega)
      omega
    · have a2 := h2 j (by omega) (by omega)
      have a3 := h3 i j (by omega) (by omega) (by omega)
      omega)
  omega
theorem WP_notes {t : Int → Int} {p b won : Int} (h : WP t) (hp : 0 ≤ p ∧ p < 4) (hb : 0 ≤ b ∧ b ≤ 120) : WP (notesS t p b won) := by
  have hx := ixS_in (p := p) (b := b) h.1.1
  have hn := WP_new h hp hb
  have hh := fun q => ixS_hit (p := p) (b := b) h.1.1 q
  obtain ⟨h1, h2, h3⟩ := h
  have h150 := nS_150 (t := t) (p := p) (b := b) (won := won) hx.1
  refine ⟨?_, fun i i0 i1 => ?_, fun i j i0 ij j1 => ?_⟩
  · rw [h150]; split <;> omega
  · rw [h150] at i1
    by_cases hi : i = ixS t p b
    · rw [nS_0 hi, nS_1 hi]; omega
    · rw [nS_o (by omega) (by omega), nS_o (by omega) (by omega)]
      exact h2 i i0 (by split at i1 <;> omega)
  · rw [h150] at j1
    have hm : ∀ i, 0 ≤ i → i < ixS t p b → ¬ (t (151 + 4 * i) = p ∧ t (151 + 4 * i + 1) = b) := fun i i0 i1 => ixS_miss i0 i1
    by_cases hi : i = ixS t p b
    · rw [nS_0 hi, nS_1 hi, nS_o (by omega) (by omega), nS_o (by omega) (by omega)]
      have h4 := hh (by split at j1 <;> omega)
      have h5 := h3 i j i0 ij (by split at j1 <;> omega)
      rw [← hi] at h4
      rw [h4.1, h4.2] at h5
      exact h5
    · rw [nS_o (j := 151 + 4 * i) (by omega) (by omega), nS_o (j := 151 + 4 * i + 1) (by omega) (by omega)]
      by_cases hj : j = ixS t p b
      · rw [nS_0 hj, nS_1 hj]
        exact hm i i0 (by omega)
      · rw [nS_o (by omega) (by omega), nS_o (by omega) (by omega)]
        exact h3 i j i0 ij (by split at j1 <;> omega)
theorem inb_notes {t : Int → Int} {p b won : Int} (hx : 0 ≤ t 150 ∧ t 150 ≤ 484) (h : ∀ j, inb (t j)) (hp : inb p) (hb : inb b) : ∀ j, inb (notesS t p b won j) := by
  intro j
  unfold notesS
  split
  · exact hp
  · split
    · exact hb
    · split
      · exact inb_wr _
      · split
        · exact inb_wr _
        · split
          · unfold inb; split <;> omega
          · exact h j
