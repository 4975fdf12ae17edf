theorem Zr_lot {s : Int → Int} {v : Int} (hw : WF s) (h : Zr s) : Zr (tLot s v) := fun j hj => by
  have := hw.2.1
  unfold tLot
  split
  · exact h j hj
  · split
    · exact h j hj
    · rw [lot_o (by omega) (by omega)]; exact h j hj
theorem Zr_bid {s : Int → Int} {p c : Int} (hw : WF s) (h : Zr s) : Zr (tBid s p c) := fun j hj => by
  have := hw.1
  unfold tBid
  split
  · exact h j hj
  · split
    · exact h j hj
    · rw [bid_o (by omega)]; exact h j hj
theorem Zr_set {s : Int → Int} {w v : Int} (h : Zr s) : Zr (tSet s w v) := fun j hj => by
  unfold tSet
  by_cases z : w < 0 ∨ 2 < w
  · rw [if_pos z]; exact h j hj
  · rw [if_neg z]
    by_cases y : v < 0 ∨ (if w = 2 then 1 else 5) < v
    · rw [if_pos y]; exact h j hj
    · rw [if_neg y, set_o (by omega)]; exact h j hj
theorem Zr_beg {s : Int → Int} {n c : Int} (h : Zr s) : Zr (tBeg s n c) := fun j hj => by
  unfold tBeg
  split
  · exact h j hj
  · split
    · exact h j hj
    · rw [beg_o (by omega)]; exact h j hj
theorem Zr_res {s : Int → Int} (hw : WF s) (h : Zr s) : Zr (tRes s) := fun j hj => by
  have w1 := hw.2.1
  unfold tRes
  split
  · exact h j hj
  · next z =>
    have hb := BD_of hw (by omega)
    rcases hj with a | a
    · rw [res_lo hw hb (by omega) (by omega) (by omega)]
      unfold r1S keepsS laysS
      rw [if_neg (by omega), if_neg (by omega), if_neg (by omega), if_neg (by omega), if_neg (by omega), if_neg (by omega), if_neg (by omega), if_neg (by omega), if_neg (by omega), if_neg (by omega), if_neg (by omega), if_neg (by omega), if_neg (by omega)]
      exact h j (Or.inl a)
    · rw [res_hi hw hb (by omega), r1_tabo hw (by omega) (by omega)]
      exact h j (Or.inr a)
theorem sp_rlot {d : Nat} {kd : KL} {F : FM} {P : PM} {s : Int → Int} {m : Int} {σ : Int → Int → Int} {hs : Int} {sn : Int → Int} {n : Int} {c : Int → Int} {v : Int} (hd : 3 ≤ d) (hM : shM kd P) (hW : RWl F s m σ hs sn n c) (hA : AW s m σ hs sn n) : Sp d 95 [.inr (some 128), .inl v] kd F P (QV kd P (fun r F' => r = aLot s v ∧ RWl F' (tLot s v) (tm (aLot s v) m) (tσ (aLot s v) m σ s) hs sn n c ∧ ∀ k, k < 128 → F' k = F k)) := by
  have r1 := hW.1
  have z1 := hW.2.2.2.2.2.2.2.2.1
  rw [r1] at z1
  have hw := hA.1
  have hF : F = setr F 129 s := setr_me r1
  have h := sp_mlot (d := d) (kd := kd) (F := F) (P := P) (s := s) (Pc := Pch F m) (v := v) (by omega) hM hw (by rw [← hF]; exact sp_mchanges (by omega) hM hW.2.2.2.2.2.2.2.1 hW.2.1 hA.2.1 hW.2.2.2.2.2.2.2.2.1) (fun F1 q => (q.2.2 129 (by omega) (by omega)).trans r1)
  rw [← hF] at h
  refine h.mono (fun rs q => ?_)
  obtain ⟨r, F', e, q1, q2⟩ := q
  have q3 := RW_pub hW hA.2.1 (fun z => aLot_e hw z) (Zr_lot hw z1) q2
  exact ⟨r, F', e, q1, q3.1, q3.2⟩
theorem sp_rbid {d : Nat} {kd : KL} {F : FM} {P : PM} {s : Int → Int} {m : Int} {σ : Int → Int → Int} {hs : Int} {sn : Int → Int} {n : Int} {c : Int → Int} {p v : Int} (hd : 3 ≤ d) (hM : shM kd P) (hW : RWl F s m σ hs sn n c) (hA : AW s m σ hs sn n) : Sp d 97 [.inr (some 128), .inl p, .inl v] kd F P (QV kd P (fun r F' => r = aBid s p v ∧ RWl F' (tBid s p v) (tm (aBid s p v) m) (tσ (aBid s p v) m σ s) hs sn n c ∧ ∀ k, k < 128 → F' k = F k)) := by
  have r1 := hW.1
  have z1 := hW.2.2.2.2.2.2.2.2.1
  rw [r1] at z1
  have hw := hA.1
  have hF : F = setr F 129 s := setr_me r1
  have h := sp_mbid (d := d) (kd := kd) (F := F) (P := P) (s := s) (Pc := Pch F m) (p := p) (c := v) (by omega) hM hw (by rw [← hF]; exact sp_mchanges (by omega) hM hW.2.2.2.2.2.2.2.1 hW.2.1 hA.2.1 hW.2.2.2.2.2.2.2.2.1) (fun F1 q => (q.2.2 129 (by omega) (by omega)).trans r1)
  rw [← hF] at h
  refine h.mono (fun rs q => ?_)
  obtain ⟨r, F', e, q1, q2⟩ := q
  have q3 := RW_pub hW hA.2.1 (fun z => aBid_e z) (Zr_bid hw z1) q2
  exact ⟨r, F', e, q1, q3.1, q3.2⟩
theorem sp_rresolve {d : Nat} {kd : KL} {F : FM} {P : PM} {s : Int → Int} {m : Int} {σ : Int → Int → Int} {hs : Int} {sn : Int → Int} {n : Int} {c : Int → Int}  (hd : 4 ≤ d) (hM : shM kd P) (hW : RWl F s m σ hs sn n c) (hA : AW s m σ hs sn n) : Sp d 107 [.inr (some 128)] kd F P (QV kd P (fun r F' => r = aRes s ∧ RWl F' (tRes s) (tm (aRes s) m) (tσ (aRes s) m σ s) hs sn n c ∧ ∀ k, k < 128 → F' k = F k)) := by
  have r1 := hW.1
  have z1 := hW.2.2.2.2.2.2.2.2.1
  rw [r1] at z1
  have hw := hA.1
  have hF : F = setr F 129 s := setr_me r1
  have h := sp_mresolve (d := d) (kd := kd) (F := F) (P := P) (s := s) (Pc := Pch F m) (by omega) hM hw (by rw [← hF]; exact sp_mchanges (by omega) hM hW.2.2.2.2.2.2.2.1 hW.2.1 hA.2.1 hW.2.2.2.2.2.2.2.2.1) (fun F1 q => (q.2.2 129 (by omega) (by omega)).trans r1)
  rw [← hF] at h
  refine h.mono (fun rs q => ?_)
  obtain ⟨r, F', e, q1, q2⟩ := q
  have q3 := RW_pub hW hA.2.1 (fun z => aRes_e hw z) (Zr_res hw z1) q2
  exact ⟨r, F', e, q1, q3.1, q3.2⟩
theorem sp_rset {d : Nat} {kd : KL} {F : FM} {P : PM} {s : Int → Int} {m : Int} {σ : Int → Int → Int} {hs : Int} {sn : Int → Int} {n : Int} {c : Int → Int} {p v : Int} (hd : 3 ≤ d) (hM : shM kd P) (hW : RWl F s m σ hs sn n c) (hA : AW s m σ hs sn n) : Sp d 108 [.inr (some 128), .inl p, .inl v] kd F P (QV kd P (fun r F' => r = aSet s p v ∧ RWl F' (tSet s p v) (tm (aSet s p v) m) (tσ (aSet s p v) m σ s) hs sn n c ∧ ∀ k, k < 128 → F' k = F k)) := by
  have r1 := hW.1
  have z1 := hW.2.2.2.2.2.2.2.2.1
  rw [r1] at z1
  have hw := hA.1
  have hF : F = setr F 129 s := setr_me r1
  have h := sp_mset (d := d) (kd := kd) (F := F) (P := P) (s := s) (Pc := Pch F m) (w := p) (v := v) (by omega) hM hw (by rw [← hF]; exact sp_mchanges (by omega) hM hW.2.2.2.2.2.2.2.1 hW.2.1 hA.2.1 hW.2.2.2.2.2.2.2.2.1) (fun F1 q => (q.2.2 129 (by omega) (by omega)).trans r1)
  rw [← hF] at h
  refine h.mono (fun rs q => ?_)
  obtain ⟨r, F', e, q1, q2⟩ := q
  have q3 := RW_pub hW hA.2.1 (fun z => aSet_e hw z) (Zr_set z1) q2
  exact ⟨r, F', e, q1, q3.1, q3.2⟩
theorem sp_rbegin {d : Nat} {kd : KL} {F : FM} {P : PM} {s : Int → Int} {m : Int} {σ : Int → Int → Int} {hs : Int} {sn : Int → Int} {n : Int} {c : Int → Int} {p v : Int} (hd : 3 ≤ d) (hM : shM kd P) (hW : RWl F s m σ hs sn n c) (hA : AW s m σ hs sn n) : Sp d 94 [.inr (some 128), .inl p, .inl v] kd F P (QV kd P (fun r F' => r = aBeg s p v ∧ RWl F' (tBeg s p v) (tm (aBeg s p v) m) (tσ (aBeg s p v) m σ s) hs sn n c ∧ ∀ k, k < 128 → F' k = F k)) := by
  have r1 := hW.1
  have z1 := hW.2.2.2.2.2.2.2.2.1
  rw [r1] at z1
  have hw := hA.1
  have hF : F = setr F 129 s := setr_me r1
  have h := sp_mbegin (d := d) (kd := kd) (F := F) (P := P) (s := s) (Pc := Pch F m) (n := p) (c := v) (by omega) hM hw (by rw [← hF]; exact sp_mchanges (by omega) hM hW.2.2.2.2.2.2.2.1 hW.2.1 hA.2.1 hW.2.2.2.2.2.2.2.2.1) (fun F1 q => (q.2.2 129 (by omega) (by omega)).trans r1)
  rw [← hF] at h
  refine h.mono (fun rs q => ?_)
  obtain ⟨r, F', e, q1, q2⟩ := q
  have q3 := RW_pub hW hA.2.1 (fun z => aBeg_e hw z) (Zr_beg z1) q2
  exact ⟨r, F', e, q1, q3.1, q3.2⟩
