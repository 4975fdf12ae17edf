/-! ## the reference's world -/
def RWl (F : FM) (s : Int → Int) (m : Int) (σ : Int → Int → Int) (hs : Int) (sn : Int → Int) (n : Int) (c : Int → Int) : Prop := F 129 = s ∧ F 128 6 = m ∧ (∀ j, 0 ≤ j → j < m → PS F j = σ j) ∧ F 128 5 = hs ∧ (hs = 1 → F 133 = sn) ∧ F 128 9 = n ∧ F 134 = c ∧ F 128 7 = 0 ∧ Zr (F 129) ∧ Zr (F 131) ∧ Zr (F 132) ∧ Zr (F 133)
def Pch (F : FM) (m : Int) : FM → Prop := fun F' => (F' 128 6 = pmN m ∧ (∀ j, 0 ≤ j → j < pmN m → PS F' j = pmS m (PS F) (F 129) j)) ∧ (∀ j, j ≠ 6 → F' 128 j = F 128 j) ∧ ∀ k, k ≠ 128 → k ≠ 130 → F' k = F k
theorem pmS_congr {m : Int} {σ σ' : Int → Int → Int} {s : Int → Int} (hm : 0 ≤ m) (h : ∀ j, 0 ≤ j → j < m → σ j = σ' j) : ∀ j, 0 ≤ j → j < pmN m → m ≤ 4 → pmS m σ s j = pmS m σ' s j := fun j j0 j1 hm4 => by
  unfold pmN at j1
  unfold pmS
  by_cases hc : m < 4
  · rw [if_pos hc] at j1
    rw [if_pos hc, if_pos hc]
    by_cases hj : j = m
    · rw [if_pos hj, if_pos hj]
    · rw [if_neg hj, if_neg hj]; exact h j j0 (by omega)
  · rw [if_neg hc] at j1
    rw [if_neg hc, if_neg hc]
    by_cases hj : j = 3
    · rw [if_pos hj, if_pos hj]
    · rw [if_neg hj, if_neg hj]; exact h (j + 1) (by omega) (by omega)
theorem PS_setr {F : FM} {g : Int → Int} {k : Nat} (hk : k ≠ 130) : PS (setr F k g) = PS F := by
  funext j a
  unfold PS
  rw [setr_ne _ _ (fun z => hk z.symm)]
/-- a change, told of the world -/
theorem RW_pub {F F' : FM} {s t : Int → Int} {m : Int} {σ : Int → Int → Int} {hs : Int} {sn : Int → Int} {n : Int} {c : Int → Int} {a : Int} (hW : RWl F s m σ hs sn n c) (hm : 0 ≤ m ∧ m ≤ 4) (he : a ≤ -1000001 → t = s) (hz : Zr t) (h : if a ≤ -1000001 then F' = F else ∃ F1, Pch F m F1 ∧ F' = setr F1 129 t) : RWl F' t (tm a m) (tσ a m σ s) hs sn n c ∧ ∀ k, k < 128 → F' k = F k := by
  by_cases ha : a ≤ -1000001
  · rw [if_pos ha] at h
    subst h
    unfold tm tσ
    rw [if_pos ha, if_pos ha, he ha]
    exact ⟨hW, fun _ _ => rfl⟩
  · rw [if_neg ha] at h
    obtain ⟨F1, ⟨⟨p1, p2⟩, p3, p4⟩, rfl⟩ := h
    obtain ⟨r1, r2, r3, r4, r5, r6, r7, r8, z1, z2, z3, z4⟩ := hW
    unfold tm tσ
    rw [if_neg ha, if_neg ha]
    refine ⟨⟨setr_eq _ _ _, ?_, fun j j0 j1 => ?_, ?_, fun z => ?_, ?_, ?_, ?_, ?_, ?_, ?_, ?_⟩, fun k hk => ?_⟩
    · rw [setr_ne _ _ (by omega)]; exact p1
    · rw [PS_setr (by omega), p2 j j0 j1, r1]
      exact pmS_congr hm.1 r3 j j0 j1 hm.2
    · rw [setr_ne _ _ (by omega), p3 5 (by omega)]; exact r4
    · rw [setr_ne _ _ (by omega), p4 133 (by omega) (by omega)]; exact r5 z
    · rw [setr_ne _ _ (by omega), p3 9 (by omega)]; exact r6
    · rw [setr_ne _ _ (by omega), p4 134 (by omega) (by omega)]; exact r7
    · rw [setr_ne _ _ (by omega), p3 7 (by omega)]; exact r8
    · rw [setr_eq]; exact hz
    · rw [setr_ne _ _ (by omega), p4 131 (by omega) (by omega)]; exact z2
    · rw [setr_ne _ _ (by omega), p4 132 (by omega) (by omega)]; exact z3
    · rw [setr_ne _ _ (by omega), p4 133 (by omega) (by omega)]; exact z4
    · rw [setr_ne _ _ (by omega)]; exact p4 k (by omega) (by omega)
