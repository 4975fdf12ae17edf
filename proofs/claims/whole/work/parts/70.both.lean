/-! ## both sides side by side -/
theorem RW_FR {F F' : FM} {s : Int → Int} {m : Int} {σ : Int → Int → Int} {hs : Int} {sn : Int → Int} {n : Int} {c : Int → Int} (hW : RWl F s m σ hs sn n c) (h : ∀ k, 128 ≤ k → F' k = F k) : RWl F' s m σ hs sn n c := by
  have h5 := h 128 (by omega)
  refine RW_fr hW (by rw [h5]) (by rw [h5]) (by rw [h5]) (by rw [h5]; exact hW.2.2.2.2.2.2.2.1) (h 130 (by omega)) (h 133 (by omega)) (h 134 (by omega)) (by rw [h 129 (by omega)]; exact hW.1) ?_ ?_ ?_
  · rw [← hW.1]; exact hW.2.2.2.2.2.2.2.2.1
  · rw [h 131 (by omega)]; exact hW.2.2.2.2.2.2.2.2.2.1
  · rw [h 132 (by omega)]; exact hW.2.2.2.2.2.2.2.2.2.2.1
theorem shM_FR {kd : KL} {P P' : PM} (h : shM kd P) (hP : P' 128 = P 128) : shM kd P' := by
  unfold shM at *
  rw [hP]
  exact h
theorem CW_lt {kd : KL} {F F' : FM} {P : PM} {s : Int → Int} {m : Int} {σ : Int → Int → Int} {hs : Int} {sn : Int → Int} {n : Int} {c : Int → Int} (hW : CW kd F P s m σ hs sn n c) (hm : m ≤ 4) (hF : ∀ k, k < 128 → F' k = F k) : CW kd F' P s m σ hs sn n c := by
  obtain ⟨b, e, h, hX, a1, a2, a3, a4, a5, a6, a7, a8⟩ := hW
  have hb := isB_b hX.2.2.2.2.2.2.2.2.1.1
  refine ⟨b, e, h, hX, Rel_frame a1 (fun k x y => hF k (by omega)), by rw [hF 4 (by omega)]; exact a2, fun j j0 j1 => ?_, by rw [hF 3 (by omega)]; exact a4, fun z => ?_, by rw [hF 86 (by omega)]; exact a6, by rw [hF 87 (by omega)]; exact a7, by rw [hF 2 (by omega)]; exact a8⟩
  · have hj := isB_b (hX.2.2.2.2.2.2.2.2.2.1 j j0 (by omega)).1
    exact Rel_frame (a3 j j0 j1) (fun k x y => hF k (by omega))
  · exact Rel_frame (a5 z) (fun k x y => hF k (by omega))
/-- the number of rounds stays small, call by call -/
def IW (t : Int) (s : Int → Int) (m : Int) (σ : Int → Int → Int) (hs : Int) (sn : Int → Int) (n : Int) : Prop := AW s m σ hs sn n ∧ s 2 ≤ 30 * t ∧ (∀ j, 0 ≤ j → j < m → σ j 2 ≤ 30 * t) ∧ (hs = 1 → sn 2 ≤ 30 * t)
theorem IW_up {t : Int} {s : Int → Int} {m : Int} {σ : Int → Int → Int} {hs : Int} {sn : Int → Int} {n : Int} (h : IW t s m σ hs sn n) : IW (t + 1) s m σ hs sn n := ⟨h.1, by have := h.2.1; omega, fun j a b => by have := h.2.2.1 j a b; omega, fun z => by have := h.2.2.2 z; omega⟩
theorem IW_ch {t : Int} {s s' : Int → Int} {m : Int} {σ : Int → Int → Int} {hs : Int} {sn : Int → Int} {n : Int} (h : IW t s m σ hs sn n) (hw : WF s') (h2 : s' 2 ≤ 30 * (t + 1)) (a : Int) : IW (t + 1) s' (tm a m) (tσ a m σ s) hs sn n := by
  obtain ⟨⟨w1, w2, w3, w4, w5, w6⟩, i1, i2, i3⟩ := h
  unfold tm tσ
  by_cases ha : a ≤ -1000001
  · rw [if_pos ha, if_pos ha]
    exact ⟨⟨hw, w2, w3, w4, w5, w6⟩, h2, fun j x y => by have := i2 j x y; omega, fun z => by have := i3 z; omega⟩
  · rw [if_neg ha, if_neg ha]
    have hp : 0 ≤ pmN m ∧ pmN m ≤ 4 := by unfold pmN; split <;> omega
    have key : ∀ j, 0 ≤ j → j < pmN m → WF (pmS m σ s j) ∧ pmS m σ s j 2 ≤ 30 * t := fun j j0 j1 => by
      unfold pmN at j1
      unfold pmS
      by_cases hc : m < 4
      · rw [if_pos hc] at j1
        rw [if_pos hc]
        by_cases hj : j = m
        · rw [if_pos hj]; exact ⟨w1, i1⟩
        · rw [if_neg hj]; exact ⟨w3 j j0 (by omega), i2 j j0 (by omega)⟩
      · rw [if_neg hc] at j1
        rw [if_neg hc]
        by_cases hj : j = 3
        · rw [if_pos hj]; exact ⟨w1, i1⟩
        · rw [if_neg hj]; exact ⟨w3 (j + 1) (by omega) (by omega), i2 (j + 1) (by omega) (by omega)⟩
    exact ⟨⟨hw, hp, fun j x y => (key j x y).1, w4, w5, w6⟩, h2, fun j x y => by have := (key j x y).2; omega, fun z => by have := i3 z; omega⟩
theorem tSet_2 {s : Int → Int} {w v : Int} : tSet s w v 2 = s 2 := by
  unfold tSet
  by_cases z : w < 0 ∨ 2 < w
  · rw [if_pos z]
  · rw [if_neg z]
    by_cases y : v < 0 ∨ (if w = 2 then 1 else 5) < v
    · rw [if_pos y]
    · rw [if_neg y, set_o (by omega)]
theorem tBeg_2 {s : Int → Int} {n c : Int} (hw : WF s) : tBeg s n c 2 ≤ s 2 := by
  have h2 := hw.2.2.2.2.2.2.2.2.2.2.2.1
  unfold tBeg
  split
  · omega
  · split
    · omega
    · rw [beg_z (by omega) (by omega) (by omega) (by omega)]; omega
theorem IW_lot {t : Int} {s : Int → Int} {m : Int} {σ : Int → Int → Int} {hs : Int} {sn : Int → Int} {n v : Int} (h : IW t s m σ hs sn n) (a : Int) : IW (t + 1) (tLot s v) (tm a m) (tσ a m σ s) hs sn n := IW_ch h (WF_tLot h.1.1) (by rw [tLot_2 h.1.1]; have := h.2.1; omega) a
theorem IW_bid {t : Int} {s : Int → Int} {m : Int} {σ : Int → Int → Int} {hs : Int} {sn : Int → Int} {n p v : Int} (h : IW t s m σ hs sn n) (a : Int) : IW (t + 1) (tBid s p v) (tm a m) (tσ a m σ s) hs sn n := IW_ch h (WF_tBid h.1.1) (by rw [tBid_2]; have := h.2.1; omega) a
theorem IW_set {t : Int} {s : Int → Int} {m : Int} {σ : Int → Int → Int} {hs : Int} {sn : Int → Int} {n p v : Int} (h : IW t s m σ hs sn n) (a : Int) : IW (t + 1) (tSet s p v) (tm a m) (tσ a m σ s) hs sn n := IW_ch h (WF_tSet h.1.1) (by rw [tSet_2]; have := h.2.1; omega) a
theorem IW_beg {t : Int} {s : Int → Int} {m : Int} {σ : Int → Int → Int} {hs : Int} {sn : Int → Int} {n p v : Int} (h : IW t s m σ hs sn n) (a : Int) : IW (t + 1) (tBeg s p v) (tm a m) (tσ a m σ s) hs sn n := IW_ch h (WF_tBeg h.1.1) (by have := tBeg_2 (n := p) (c := v) h.1.1; have := h.2.1; omega) a
theorem IW_res {t : Int} {s : Int → Int} {m : Int} {σ : Int → Int → Int} {hs : Int} {sn : Int → Int} {n : Int} (h : IW t s m σ hs sn n) (ht : t ≤ 600) (a : Int) : IW (t + 1) (tRes s) (tm a m) (tσ a m σ s) hs sn n := by
  have h1 := h.2.1
  exact IW_ch h (WF_tRes h.1.1 (by omega)) (by have := tRes_2 h.1.1 (by omega); omega) a
theorem IW_rest {t : Int} {s : Int → Int} {m : Int} {σ : Int → Int → Int} {hs : Int} {sn : Int → Int} {n : Int} (h : IW t s m σ hs sn n) (a : Int) : IW (t + 1) (tRest hs sn s) (tm a m) (tσ a m σ s) hs sn n := by
  have h1 := h.2.1
  have h4 := h.1.2.2.2.1
  unfold tRest
  by_cases z : hs = 0
  · rw [if_pos z]; exact IW_ch h h.1.1 (by omega) a
  · rw [if_neg z]; exact IW_ch h (h.1.2.2.2.2.1 (by omega)) (by have := h.2.2.2 (by omega); omega) a
theorem IW_play {t : Int} {s : Int → Int} {m : Int} {σ : Int → Int → Int} {hs : Int} {sn : Int → Int} {n : Int} {c : Int → Int} (h : IW t s m σ hs sn n) (ht : t ≤ 600) (a : Int) : IW (t + 1) (tPlay c n s) (tm a m) (tσ a m σ s) hs sn n := by
  have h1 := h.2.1
  have hn := h.1.2.2.2.2.2
  have p1 := pfm_wf (c := c) (n := n) n.toNat (s := s) (pos := 0) (cm := 0) h.1.1 (by omega)
  have p2 := pfm_30 (c := c) (n := n) n.toNat (s := s) (pos := 0) (cm := 0) h.1.1 (by omega) (by omega)
  unfold tPlay PF
  by_cases z : (pfm c n n.toNat s 0 0).2.1 = 0
  · rw [if_pos z]; exact IW_ch h p1.1 (by omega) a
  · rw [if_neg z]; exact IW_ch h h.1.1 (by omega) a
theorem IW_keep {t : Int} {s : Int → Int} {m : Int} {σ : Int → Int → Int} {hs : Int} {sn : Int → Int} {n : Int} (h : IW t s m σ hs sn n) : IW (t + 1) s m σ 1 s n := by
  have h' := IW_up h
  exact ⟨⟨h.1.1, h.1.2.1, h.1.2.2.1, Or.inr rfl, fun _ => h.1.1, h.1.2.2.2.2.2⟩, h'.2.1, h'.2.2.1, fun _ => h'.2.1⟩
theorem IW_undo {t : Int} {s : Int → Int} {m : Int} {σ : Int → Int → Int} {hs : Int} {sn : Int → Int} {n : Int} (h : IW t s m σ hs sn n) : IW (t + 1) (if m = 0 then s else σ (m - 1)) (if m = 0 then m else m - 1) σ hs sn n := by
  have h' := IW_up h
  by_cases z : m = 0
  · rw [if_pos z, if_pos z]; exact h'
  · have hm := h.1.2.1
    rw [if_neg z, if_neg z]
    exact ⟨⟨h.1.2.2.1 _ (by omega) (by omega), by omega, fun j a b => h.1.2.2.1 j a (by omega), h.1.2.2.2⟩, h'.2.2.1 _ (by omega) (by omega), fun j a b => h'.2.2.1 j a (by omega), h'.2.2.2⟩
theorem IW_n {t : Int} {s : Int → Int} {m : Int} {σ : Int → Int → Int} {hs : Int} {sn : Int → Int} {n n' : Int} (h : IW t s m σ hs sn n) (hn : 0 ≤ n' ∧ n' ≤ 60) : IW (t + 1) s m σ hs sn n' := by
  have h' := IW_up h
  exact ⟨⟨h.1.1, h.1.2.1, h.1.2.2.1, h.1.2.2.2.1, h.1.2.2.2.2.1, hn⟩, h'.2⟩
theorem nType_b {n v : Int} (h : 0 ≤ n ∧ n ≤ 60) : 0 ≤ nType n v ∧ nType n v ≤ 60 := by
  unfold nType
  split
  · exact h
  · split <;> omega
theorem sp_rplayerOf {d : Nat} {kd : KL} {F : FM} {P : PM} {s : Int → Int} {m : Int} {σ : Int → Int → Int} {hs : Int} {sn : Int → Int} {n : Int} {c : Int → Int} {p w : Int} (hd : 2 ≤ d) (hM : shM kd P) (hW : RWl F s m σ hs sn n c) (hA : AW s m σ hs sn n)  : Sp d 109 [.inr (some 128), .inl p, .inl w] kd F P (QV kd P (fun r F' => r = rPlayerOf s p w ∧ RWl F' s m σ hs sn n c ∧ ∀ k, k < 128 → F' k = F k)) := by
  have h := sp_mplayerOf (F := F) (s := s) (p := p) (w := w) hd hM hA.1 
  rw [← setr_me hW.1] at h
  exact h.mono (fun rs q => by cases q; exact ⟨_, _, rfl, rfl, hW, fun _ _ => rfl⟩)
theorem sp_rlotOf {d : Nat} {kd : KL} {F : FM} {P : PM} {s : Int → Int} {m : Int} {σ : Int → Int → Int} {hs : Int} {sn : Int → Int} {n : Int} {c : Int → Int} {p w : Int} (hd : 2 ≤ d) (hM : shM kd P) (hW : RWl F s m σ hs sn n c) (hA : AW s m σ hs sn n)  : Sp d 110 [.inr (some 128), .inl p, .inl w] kd F P (QV kd P (fun r F' => r = rLotOf s p w ∧ RWl F' s m σ hs sn n c ∧ ∀ k, k < 128 → F' k = F k)) := by
  have h := sp_mlotOf (F := F) (s := s) (p := p) (w := w) hd hM hA.1 
  rw [← setr_me hW.1] at h
  exact h.mono (fun rs q => by cases q; exact ⟨_, _, rfl, rfl, hW, fun _ _ => rfl⟩)
theorem sp_rroundOf {d : Nat} {kd : KL} {F : FM} {P : PM} {s : Int → Int} {m : Int} {σ : Int → Int → Int} {hs : Int} {sn : Int → Int} {n : Int} {c : Int → Int} {p w : Int} (hd : 2 ≤ d) (hM : shM kd P) (hW : RWl F s m σ hs sn n c) (hA : AW s m σ hs sn n) (hwb : -2147483648 ≤ w ∧ w < 2147483648) : Sp d 111 [.inr (some 128), .inl p, .inl w] kd F P (QV kd P (fun r F' => r = rRoundOf s p w ∧ RWl F' s m σ hs sn n c ∧ ∀ k, k < 128 → F' k = F k)) := by
  have h := sp_mroundOf (F := F) (s := s) (b := p) (w := w) hd hM hA.1 hwb
  rw [← setr_me hW.1] at h
  exact h.mono (fun rs q => by cases q; exact ⟨_, _, rfl, rfl, hW, fun _ _ => rfl⟩)
theorem sp_rrecord {d : Nat} {kd : KL} {F : FM} {P : PM} {s : Int → Int} {m : Int} {σ : Int → Int → Int} {hs : Int} {sn : Int → Int} {n : Int} {c : Int → Int} {p w : Int} (hd : 2 ≤ d) (hM : shM kd P) (hW : RWl F s m σ hs sn n c) (hA : AW s m σ hs sn n)  : Sp d 112 [.inr (some 128), .inl p, .inl w] kd F P (QV kd P (fun r F' => r = rRecord s p w ∧ RWl F' s m σ hs sn n c ∧ ∀ k, k < 128 → F' k = F k)) := by
  have h := sp_mrecord (F := F) (s := s) (p := p) (w := w) hd hM hA.1 
  rw [← setr_me hW.1] at h
  exact h.mono (fun rs q => by cases q; exact ⟨_, _, rfl, rfl, hW, fun _ _ => rfl⟩)
theorem sp_rwinner {d : Nat} {kd : KL} {F : FM} {P : PM} {s : Int → Int} {m : Int} {σ : Int → Int → Int} {hs : Int} {sn : Int → Int} {n : Int} {c : Int → Int}  (hd : 2 ≤ d) (hM : shM kd P) (hW : RWl F s m σ hs sn n c) (hA : AW s m σ hs sn n)  : Sp d 115 [.inr (some 128)] kd F P (QV kd P (fun r F' => r = ldS (fun q => s (126 + 6 * q + 1)) (fun q => s (126 + 6 * q)) (s 0).toNat ∧ RWl F' s m σ hs sn n c ∧ ∀ k, k < 128 → F' k = F k)) := by
  have h := sp_mwinner (F := F) (s := s)  hd hM hA.1 
  rw [← setr_me hW.1] at h
  exact h.mono (fun rs q => by cases q; exact ⟨_, _, rfl, rfl, hW, fun _ _ => rfl⟩)
theorem sp_rsure {d : Nat} {kd : KL} {F : FM} {P : PM} {s : Int → Int} {m : Int} {σ : Int → Int → Int} {hs : Int} {sn : Int → Int} {n : Int} {c : Int → Int} {p : Int} (hd : 2 ≤ d) (hM : shM kd P) (hW : RWl F s m σ hs sn n c) (hA : AW s m σ hs sn n)  : Sp d 116 [.inr (some 128), .inl p] kd F P (QV kd P (fun r F' => r = aSure s p ∧ RWl F' s m σ hs sn n c ∧ ∀ k, k < 128 → F' k = F k)) := by
  have h := sp_msure (F := F) (s := s) (p := p) hd hM hA.1 
  rw [← setr_me hW.1] at h
  exact h.mono (fun rs q => by cases q; exact ⟨_, _, rfl, rfl, hW, fun _ _ => rfl⟩)
theorem sp_rchance {d : Nat} {kd : KL} {F : FM} {P : PM} {s : Int → Int} {m : Int} {σ : Int → Int → Int} {hs : Int} {sn : Int → Int} {n : Int} {c : Int → Int} {p : Int} (hd : 2 ≤ d) (hM : shM kd P) (hW : RWl F s m σ hs sn n c) (hA : AW s m σ hs sn n)  : Sp d 124 [.inr (some 128), .inl p] kd F P (QV kd P (fun r F' => r = aChance s p ∧ RWl F' s m σ hs sn n c ∧ ∀ k, k < 128 → F' k = F k)) := by
  have h := sp_mchance (F := F) (s := s) (p := p) hd hM hA.1 
  rw [← setr_me hW.1] at h
  exact h.mono (fun rs q => by cases q; exact ⟨_, _, rfl, rfl, hW, fun _ _ => rfl⟩)
theorem sp_rcount {d : Nat} {kd : KL} {F : FM} {P : PM} {s : Int → Int} {m : Int} {σ : Int → Int → Int} {hs : Int} {sn : Int → Int} {n : Int} {c : Int → Int} {w : Int} (hd : 3 ≤ d) (hM : shM kd P) (hW : RWl F s m σ hs sn n c) (hA : AW s m σ hs sn n)  : Sp d 114 [.inr (some 128), .inl w] kd F P (QV kd P (fun r F' => r = aCount s m hs n w ∧ RWl F' s m σ hs sn n c ∧ ∀ k, k < 128 → F' k = F k)) := by
  have h := sp_mcount (F := F) (s := s) (w := w) hd hM hA.1 (by rw [hW.2.2.2.1]; exact hA.2.2.2.1)
  rw [← setr_me hW.1] at h
  rw [hW.2.1, hW.2.2.2.1, hW.2.2.2.2.2.1] at h
  exact h.mono (fun rs q => by cases q; exact ⟨_, _, rfl, rfl, hW, fun _ _ => rfl⟩)
