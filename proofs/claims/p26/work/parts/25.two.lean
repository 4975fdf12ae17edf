/-! ## what an open bid gains, between two -/
def gn (S x y : Int) : Int := if y < x then S else if x < y then -S else 0
def lastG (S a b : Int) : Int := if S ≤ 0 ∨ a = b then 0 else if b < a then S else -S
def py (s : Int → Int) (x y : Int) : Int := if y < x then x else if x = y then (if x < s 26 then x else s 26) else (if x < s 27 then x else s 27)
def ow (s : Int → Int) (p x y : Int) : Int := s (126 + 6 * p) - py s x y + (if s 28 = 1 ∧ x < y then s 1 + (py s x y + py s y x) else 0)
def gT (s : Int → Int) (p e x y : Int) : Int := gn (tabS s + s 5) x y + (if e < 2 ∨ s 4 < 2 then 0 else lastG ((if x = y then tabS s + s 5 else 0) + s 6) (ow s p x y) (ow s (1 - p) y x))
def mnP (g : Int → Int) : Nat → Int
  | 0 => 1000000
  | n + 1 => if g (n : Int) < mnP g n then g (n : Int) else mnP g n
def mxP (h : Int → Int) : Nat → Int
  | 0 => -1000000
  | n + 1 => if mxP h n < h (n : Int) then h (n : Int) else mxP h n
def abP (h : Int → Int) : Nat → Int
  | 0 => 0
  | n + 1 => if mxP h n < h (n : Int) then (n : Int) else abP h n
def hT (s : Int → Int) (p e x : Int) : Int := mnP (gT s p e x) (s (126 + 6 * (1 - p)) + 1).toNat
theorem mnP_s {g : Int → Int} {i : Int} (h : 0 ≤ i) : mnP g (i + 1).toNat = if g i < mnP g i.toNat then g i else mnP g i.toNat := by
  rw [toN h, mnP, toC h]
theorem mxP_s {g : Int → Int} {i : Int} (h : 0 ≤ i) : mxP g (i + 1).toNat = if mxP g i.toNat < g i then g i else mxP g i.toNat := by
  rw [toN h, mxP, toC h]
theorem abP_s {g : Int → Int} {i : Int} (h : 0 ≤ i) : abP g (i + 1).toNat = if mxP g i.toNat < g i then i else abP g i.toNat := by
  rw [toN h, abP, toC h]
theorem mnP_le {g : Int → Int} : ∀ {n : Nat} {i : Int}, 0 ≤ i → i < n → mnP g n ≤ g i
  | 0, i, h0, h1 => by omega
  | n + 1, i, h0, h1 => by
    unfold mnP
    by_cases hi : i = n
    · rw [hi]; split <;> omega
    · have := mnP_le (g := g) (n := n) h0 (by omega)
      split <;> omega
theorem mnP_anti {g : Int → Int} {n : Nat} : ∀ m : Nat, mnP g (n + m) ≤ mnP g n
  | 0 => Int.le_refl _
  | m + 1 => by
    have := mnP_anti (g := g) (n := n) m
    have e : mnP g (n + m + 1) = if g ((n + m : Nat) : Int) < mnP g (n + m) then g ((n + m : Nat) : Int) else mnP g (n + m) := rfl
    show mnP g (n + m + 1) ≤ mnP g n
    rw [e]
    split <;> omega
theorem mnP_b {g : Int → Int} {a b : Int} (hb : b ≤ 1000000) : ∀ {n : Nat}, 1 ≤ n → (∀ i : Int, 0 ≤ i → i < n → a ≤ g i ∧ g i ≤ b) → a ≤ mnP g n ∧ mnP g n ≤ b
  | 0, h, _ => by omega
  | 1, _, h => by
    have h0 := h 0 (by omega) (by omega)
    have e : mnP g 1 = if g ((0 : Nat) : Int) < 1000000 then g ((0 : Nat) : Int) else 1000000 := rfl
    rw [e]
    have e0 : g ((0 : Nat) : Int) = g 0 := rfl
    rw [e0]
    split <;> omega
  | n + 2, _, h => by
    have h1 := mnP_b (g := g) (a := a) hb (n := n + 1) (by omega) (fun i x y => h i x (by omega))
    have h2 := h ((n + 1 : Nat) : Int) (by omega) (by omega)
    have e : mnP g (n + 2) = if g ((n + 1 : Nat) : Int) < mnP g (n + 1) then g ((n + 1 : Nat) : Int) else mnP g (n + 1) := rfl
    rw [e]
    split <;> omega
theorem mxP_b {g : Int → Int} {b : Int} (hb : -1000000 ≤ b) : ∀ {n : Nat}, (∀ i : Int, 0 ≤ i → i < n → g i ≤ b) → -1000000 ≤ mxP g n ∧ mxP g n ≤ b
  | 0, _ => by unfold mxP; omega
  | n + 1, h => by
    have h1 := mxP_b (g := g) hb (n := n) (fun i x y => h i x (by omega))
    have h2 := h n (by omega) (by omega)
    unfold mxP
    split <;> omega
theorem abP_in {h : Int → Int} : ∀ {n : Nat}, 0 ≤ abP h n ∧ (abP h n < n ∨ n = 0)
  | 0 => by unfold abP; omega
  | n + 1 => by
    have h1 := abP_in (h := h) (n := n)
    unfold abP
    split
    · omega
    · rcases h1.2 with h2 | h2
      · omega
      · subst h2; unfold abP; omega
theorem abP_val {h : Int → Int} : ∀ {n : Nat}, 1 ≤ n → -1000000 < h 0 → mxP h n = h (abP h n)
  | 0, h1, _ => by omega
  | 1, _, h0 => by
    have e0 : h ((0 : Nat) : Int) = h 0 := rfl
    have e : mxP h 1 = if -1000000 < h ((0 : Nat) : Int) then h ((0 : Nat) : Int) else -1000000 := rfl
    have e2 : abP h 1 = if -1000000 < h ((0 : Nat) : Int) then ((0 : Nat) : Int) else 0 := rfl
    rw [e, e2, if_pos (by omega), if_pos (by omega)]
  | n + 2, _, h0 => by
    have h1 := abP_val (h := h) (n := n + 1) (by omega) h0
    have e : mxP h (n + 2) = if mxP h (n + 1) < h ((n + 1 : Nat) : Int) then h ((n + 1 : Nat) : Int) else mxP h (n + 1) := rfl
    have e2 : abP h (n + 2) = if mxP h (n + 1) < h ((n + 1 : Nat) : Int) then ((n + 1 : Nat) : Int) else abP h (n + 1) := rfl
    rw [e, e2]
    split
    · rfl
    · exact h1
theorem cn2 {f : Int → Int} {m : Int} : cnF f m 2 = (if f 0 = m then 1 else 0) + (if f 1 = m then 1 else 0) := by
  show 0 + (if f 0 = m then 1 else 0) + (if f 1 = m then 1 else 0) = _
  omega
theorem ls2 {f : Int → Int} {m : Int} : lsF f m 2 = if f 1 = m then 1 else if f 0 = m then 0 else -1 := rfl
theorem gr2 {f : Int → Int} (h0 : 0 ≤ f 0) : grF f 2 = if f 0 < f 1 then f 1 else f 0 := by
  have e : grF f 2 = if (if -1 < f 0 then f 0 else -1) < f 1 then f 1 else if -1 < f 0 then f 0 else -1 := rfl
  rw [e, if_pos (by omega : (-1 : Int) < f 0)]
theorem win2' {f : Int → Int} (h0 : 0 ≤ f 0) (h1 : 0 ≤ f 1) : winF f 2 = if f 0 < f 1 then 1 else if f 1 < f 0 then 0 else -1 := by
  unfold winF
  rw [gr2 h0, cn2, ls2]
  by_cases a : f 0 < f 1
  · rw [if_pos a, if_pos a, if_neg (by omega : ¬ f 0 = f 1), if_pos (rfl : f 1 = f 1), if_pos (by omega), if_pos (rfl : f 1 = f 1)]
  · rw [if_neg a, if_neg a, if_pos (rfl : f 0 = f 0)]
    by_cases b : f 1 < f 0
    · rw [if_pos b, if_neg (by omega : ¬ f 1 = f 0), if_pos (by omega), if_neg (by omega : ¬ f 1 = f 0), if_pos (rfl : f 0 = f 0)]
    · rw [if_neg b, if_pos (by omega : f 1 = f 0), if_neg (by omega)]
theorem win2 {f : Int → Int} {p : Int} (hp : p = 0 ∨ p = 1) (h0 : 0 ≤ f 0) (h1 : 0 ≤ f 1) : winF f 2 = if f (1 - p) < f p then p else if f p < f (1 - p) then 1 - p else -1 := by
  rw [win2' h0 h1]
  rcases hp with rfl | rfl
  · rw [show (1 : Int) - 0 = 1 by omega]
    by_cases a : f 0 < f 1
    · rw [if_pos a, if_neg (by omega), if_pos a]
    · rw [if_neg a, if_neg a]
  · rw [show (1 : Int) - 1 = 0 by omega]
theorem fee2 {s f : Int → Int} {p : Int} (hp : p = 0 ∨ p = 1) (h0 : 0 ≤ f 0) (h1 : 0 ≤ f 1) : feeF f 2 (s 26) (s 27) p = py s (f p) (f (1 - p)) := by
  unfold feeF py
  rw [win2 hp h0 h1, gr2 h0]
  by_cases a : f (1 - p) < f p
  · rw [if_pos a, if_pos rfl, if_pos a]
  · rw [if_neg a, if_neg a]
    by_cases b : f p < f (1 - p)
    · rw [if_pos b, if_neg (by omega), if_pos (by omega), if_neg (by omega : ¬ f p = f (1 - p))]
    · rw [if_neg b, if_neg (by omega), if_neg (by omega), if_pos (by omega : f p = f (1 - p))]
      have e : f p = if f 0 < f 1 then f 1 else f 0 := by
        rcases hp with rfl | rfl
        · rw [show (1 : Int) - 0 = 1 by omega] at a b
          rw [if_neg (by omega)]
        · rw [show (1 : Int) - 1 = 0 by omega] at a b
          rw [if_neg (by omega)]
          omega
      rw [if_pos e]
theorem got2 {s f : Int → Int} {p : Int} (hp : p = 0 ∨ p = 1) (h0 : 0 ≤ f 0) (h1 : 0 ≤ f 1) : gotF f 2 (s 1) (s 26) (s 27) (s 28) p = if s 28 = 1 ∧ f p < f (1 - p) then s 1 + (py s (f p) (f (1 - p)) + py s (f (1 - p)) (f p)) else 0 := by
  have hq : 1 - p = 0 ∨ 1 - p = 1 := by omega
  have e0 : ((0 : Nat) : Int) = 0 := rfl
  have e1 : ((1 : Nat) : Int) = 1 := rfl
  have hs : sg (feeF f 2 (s 26) (s 27)) 2 = py s (f p) (f (1 - p)) + py s (f (1 - p)) (f p) := by
    have a := fee2 (s := s) (f := f) hp h0 h1
    have b := fee2 (s := s) (f := f) hq h0 h1
    rw [show (1 : Int) - (1 - p) = p by omega] at b
    simp only [sg, e0, e1]
    rcases hp with rfl | rfl
    · rw [show (1 : Int) - 0 = 1 by omega] at a b ⊢
      rw [a, b]; omega
    · rw [show (1 : Int) - 1 = 0 by omega] at a b ⊢
      rw [a, b]; omega
  unfold gotF partF potF
  rw [hs, win2 hp h0 h1, show (((2 : Nat) : Int) - 1) = 1 by omega, Int.tdiv_one]
  by_cases a : f (1 - p) < f p
  · rw [if_pos a, if_pos rfl, if_neg (by omega)]
  · rw [if_neg a]
    by_cases b : f p < f (1 - p)
    · rw [if_pos b, if_neg (by omega)]
      by_cases c : s 28 = 1
      · rw [if_pos ⟨by omega, c⟩, if_pos ⟨c, b⟩]
      · rw [if_neg (by omega), if_neg (by omega)]
    · rw [if_neg b, if_neg (by omega), if_neg (by omega), if_neg (by omega)]
theorem py_b {s : Int → Int} (hw : WF s) {x y : Int} (hx : 0 ≤ x) : 0 ≤ py s x y ∧ py s x y ≤ x := by
  have h := hw.2.2.2.2.1
  unfold py
  split
  · omega
  · split
    · split <;> omega
    · split <;> omega
theorem lastG_b {S a b c : Int} (h : -c ≤ S ∧ S ≤ c) : -c ≤ lastG S a b ∧ lastG S a b ≤ c := by
  unfold lastG
  split
  · omega
  · split <;> omega
theorem gT_b {s : Int → Int} (hw : WF s) (h4 : 1 ≤ s 4) {p e x y : Int} : -900 ≤ gT s p e x y ∧ gT s p e x y ≤ 900 := by
  have hst := stake_b hw h4
  have h5 := hw.2.2.2.2.2.1
  have h1 : -400 ≤ gn (tabS s + s 5) x y ∧ gn (tabS s + s 5) x y ≤ 400 := by
    unfold gn
    split
    · omega
    · split <;> omega
  unfold gT
  by_cases h : e < 2 ∨ s 4 < 2
  · rw [if_pos h]; omega
  · rw [if_neg h]
    have h6 := h5 1 (by omega) (by omega)
    rw [show (5 : Int) + 1 = 6 by omega] at h6
    have h7 := lastG_b (S := (if x = y then tabS s + s 5 else 0) + s 6) (a := ow s p x y) (b := ow s (1 - p) y x) (c := 420) (by split <;> omega)
    omega
theorem hT_b {s : Int → Int} (hw : WF s) (h4 : 1 ≤ s 4) {p e x : Int} (hp : 0 ≤ 1 - p ∧ 1 - p < 4) : -900 ≤ hT s p e x ∧ hT s p e x ≤ 900 := by
  have h := (hw.2.2.2.1 (1 - p) hp.1 hp.2).1
  exact mnP_b (by omega) (by omega) (fun i _ _ => gT_b hw h4)
/-- the shape of an adviser -/
def shA (kd : KL) (P : PM) (D T O : Nat) : Prop := 3 ≤ D ∧ 3 ≤ T ∧ kd[D]? = some (2, 2) ∧ kd[T]? = some (0, 4) ∧ P D 0 = some O ∧ P D 1 = some T
