/-! ## the text: what is read -/
def chP (c : Int → Int) (n i : Int) : Int := if 0 ≤ i ∧ i < n then c i else -1
def dgP (c : Int → Int) (n i : Int) : Int := if 48 ≤ chP c n i ∧ chP c n i ≤ 57 then chP c n i - 48 else -1
def nvP (c : Int → Int) (n i : Int) : Int := if dgP c n i < 0 then -1 else if dgP c n (i + 1) < 0 then dgP c n i else 10 * dgP c n i + dgP c n (i + 1)
def neP (c : Int → Int) (n i : Int) : Int := if dgP c n i < 0 then i else if dgP c n (i + 1) < 0 then i + 1 else i + 2
def psP (c : Int → Int) (n ch i : Int) : Int := if chP c n i = ch then 1 else 0
theorem dgP_b {c : Int → Int} {n i : Int} : -1 ≤ dgP c n i ∧ dgP c n i ≤ 9 := by
  unfold dgP
  split <;> omega
theorem nvP_b {c : Int → Int} {n i : Int} : -1 ≤ nvP c n i ∧ nvP c n i ≤ 99 := by
  have h1 := dgP_b (c := c) (n := n) (i := i)
  have h2 := dgP_b (c := c) (n := n) (i := i + 1)
  unfold nvP
  split
  · omega
  · split <;> omega
theorem neP_b {c : Int → Int} {n i : Int} : i ≤ neP c n i ∧ neP c n i ≤ i + 2 := by
  unfold neP
  split
  · omega
  · split <;> omega
theorem psP_b {c : Int → Int} {n ch i : Int} : 0 ≤ psP c n ch i ∧ psP c n ch i ≤ 1 := by
  unfold psP
  split <;> omega
def shT (kd : KL) (P : PM) (X : Nat) : Prop := 3 ≤ X ∧ kd[X]? = some (8, 10) ∧ kd[X + 1]? = some (0, 60) ∧ P X 0 = some (X + 1)
/-- only the cells from a on up to b change, and only of X -/
def OX (X : Nat) (a b : Int) (F F' : FM) : Prop := (∀ j, j < a ∨ b < j → F' X j = F X j) ∧ ∀ k, k ≠ X → F' k = F k
theorem OX_rfl {X : Nat} {a b : Int} {F : FM} : OX X a b F F := ⟨fun _ _ => rfl, fun _ _ => rfl⟩
theorem OX_tr {X : Nat} {a b a' b' c e : Int} {F F' F'' : FM} (h : OX X a b F F') (h2 : OX X a' b' F' F'') (ha : c ≤ a ∧ c ≤ a' ∧ b ≤ e ∧ b' ≤ e) : OX X c e F F'' := ⟨fun j hj => by rw [h2.1 j (by omega), h.1 j (by omega)], fun k hk => by rw [h2.2 k hk, h.2 k hk]⟩
def OY (X : Nat) (F F' : FM) : Prop := (∀ j, j ≠ 6 → j ≠ 8 → j ≠ 9 → F' X j = F X j) ∧ ∀ k, k ≠ X → F' k = F k
theorem OY_of {X : Nat} {F F' : FM} (h : OX X 6 6 F F') : OY X F F' := ⟨fun j a _ _ => h.1 j (by omega), h.2⟩
theorem OY_tr {X : Nat} {F F' F'' : FM} (h : OY X F F') (h2 : OY X F' F'') : OY X F F'' := ⟨fun j a b c => by rw [h2.1 j a b c, h.1 j a b c], fun k hk => by rw [h2.2 k hk, h.2 k hk]⟩
theorem OY_st {X : Nat} {j v : Int} {F : FM} (h : j = 8 ∨ j = 9) : OY X F (stt F X j v) := ⟨fun i a b c => stt_j _ _ (by omega), fun k hk => stt_kr _ _ _ hk⟩
theorem OX_st {X : Nat} {a b j v : Int} {F : FM} (h : a ≤ j ∧ j ≤ b) : OX X a b F (stt F X j v) := ⟨fun i hi => stt_j _ _ (by omega), fun k hk => stt_kr _ _ _ hk⟩
