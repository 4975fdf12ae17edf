/-! ## the class's object: row 3; its states at b (now), e (draft), h j (before), 70 (kept) -/
def isB (x : Nat) : Prop := x = 6 ∨ x = 22 ∨ x = 38 ∨ x = 54 ∨ x = 96 ∨ x = 112
def shX (kd : KL) (P : PM) (b e : Nat) (h : Int → Nat) : Prop :=
  kd[3]? = some (9, 8) ∧ (P 3 0 = some 4 ∧ P 3 1 = some 70 ∧ P 3 2 = some 86 ∧ P 3 3 = some 88 ∧ P 3 4 = some 91 ∧ P 3 5 = some b ∧ P 3 6 = some e) ∧ shH kd P 4 5 ∧ (∀ j, 0 ≤ j → j < 4 → P 5 j = some (h j)) ∧ (∀ x, (isB x ∨ x = 70) → shS kd P x) ∧ shT kd P 86 ∧ shO kd P 88 ∧ (shA kd P 91 95 92 ∧ shO kd P 92) ∧ (isB b ∧ isB e ∧ b ≠ e) ∧ (∀ j, 0 ≤ j → j < 4 → isB (h j) ∧ h j ≠ b ∧ h j ≠ e) ∧ (∀ i j, 0 ≤ i → i < j → j < 4 → h i ≠ h j) ∧ kd[2]? = some (0, 3)
theorem isB_b {x : Nat} (h : isB x) : 6 ≤ x ∧ x ≤ 112 ∧ (x + 16 ≤ 70 ∨ 96 ≤ x) := by unfold isB at h; omega
theorem isB_d {x y : Nat} (h : isB x) (h2 : isB y) (hn : x ≠ y) : x + 16 ≤ y ∨ y + 16 ≤ x := by unfold isB at *; omega
theorem shS_P {kd : KL} {P P' : PM} {B : Nat} (h : shS kd P B) (hP : ∀ k, B ≤ k → k < B + 16 → P' k = P k) : shS kd P' B := by
  unfold shS at *
  rw [hP B (by omega) (by omega), hP (B + 9) (by omega) (by omega), hP (B + 11) (by omega) (by omega)]
  exact h
/-- the same but for rows 3 and 5 -/
theorem shX_P {kd : KL} {P P' : PM} {b e b' e' : Nat} {h h' : Int → Nat} (hX : shX kd P b e h) (hP : ∀ k, k ≠ 3 → k ≠ 5 → P' k = P k) (h3 : P' 3 0 = some 4 ∧ P' 3 1 = some 70 ∧ P' 3 2 = some 86 ∧ P' 3 3 = some 88 ∧ P' 3 4 = some 91 ∧ P' 3 5 = some b' ∧ P' 3 6 = some e') (h5 : ∀ j, 0 ≤ j → j < 4 → P' 5 j = some (h' j)) (hb : isB b' ∧ isB e' ∧ b' ≠ e') (hh : ∀ j, 0 ≤ j → j < 4 → isB (h' j) ∧ h' j ≠ b' ∧ h' j ≠ e') (hi : ∀ i j, 0 ≤ i → i < j → j < 4 → h' i ≠ h' j) : shX kd P' b' e' h' := by
  obtain ⟨a1, a2, a3, a4, a5, a6, a7, a8, a9, a10, a11, a12⟩ := hX
  refine ⟨a1, h3, ?_, h5, fun x hx => ?_, ?_, ?_, ?_, hb, hh, hi, a12⟩
  · unfold shH at *
    rw [hP 4 (by omega) (by omega)]; exact a3
  · exact shS_P (a5 x hx) (fun k k0 k1 => hP k (by unfold isB at hx; omega) (by unfold isB at hx; omega))
  · unfold shT at *
    rw [hP 86 (by omega) (by omega)]; exact a6
  · unfold shO at *
    rw [hP 88 (by omega) (by omega)]; exact a7
  · refine ⟨?_, ?_⟩
    · unfold shA at *
      rw [hP 91 (by omega) (by omega)]; exact a8.1
    · unfold shO at *
      rw [hP 92 (by omega) (by omega)]; exact a8.2
/-- what the rows of the class's object hold -/
def DX (F : FM) (b : Nat) (h : Int → Nat) (s : Int → Int) (m : Int) (σ : Int → Int → Int) (hs : Int) (sn : Int → Int) (n : Int) (c : Int → Int) : Prop :=
  Rel b F s ∧ F 4 1 = m ∧ (∀ j, 0 ≤ j → j < m → Rel (h j) F (σ j)) ∧ F 3 7 = hs ∧ (hs = 1 → Rel 70 F sn) ∧ F 86 1 = n ∧ F 87 = c ∧ (F 2 0 = 5 ∧ F 2 1 = 5 ∧ F 2 2 = 1)
def CW (kd : KL) (F : FM) (P : PM) (s : Int → Int) (m : Int) (σ : Int → Int → Int) (hs : Int) (sn : Int → Int) (n : Int) (c : Int → Int) : Prop := ∃ b e h, shX kd P b e h ∧ DX F b h s m σ hs sn n c
/-- what holds of all these games -/
def AW (s : Int → Int) (m : Int) (σ : Int → Int → Int) (hs : Int) (sn : Int → Int) (n : Int) : Prop :=
  WF s ∧ (0 ≤ m ∧ m ≤ 4) ∧ (∀ j, 0 ≤ j → j < m → WF (σ j)) ∧ (hs = 0 ∨ hs = 1) ∧ (hs = 1 → WF sn) ∧ (0 ≤ n ∧ n ≤ 60)
/-- nothing of the other side changes -/
def FR (F F' : FM) (P P' : PM) : Prop := ∀ k, (k < 3 ∨ 128 ≤ k) → F' k = F k ∧ P' k = P k
def pmN (m : Int) : Int := if m < 4 then m + 1 else 4
def pmS (m : Int) (σ : Int → Int → Int) (s : Int → Int) : Int → Int → Int := fun j => if m < 4 then (if j = m then s else σ j) else (if j = 3 then s else σ (j + 1))
/-- cells that change leave the data as it is, if they lie in the draft, the outcome, the adviser's trial or the text's scratch -/
theorem DX_frame {kd : KL} {P : PM} {b e : Nat} {h : Int → Nat} {F F' : FM} {s : Int → Int} {m : Int} {σ : Int → Int → Int} {hs : Int} {sn : Int → Int} {n : Int} {c : Int → Int} (hX : shX kd P b e h) (hD : DX F b h s m σ hs sn n c) (hm : m ≤ 4) (hF : ∀ k, (k < e ∨ e + 16 ≤ k) → k ≠ 86 → (k < 88 ∨ 91 ≤ k) → (k < 92 ∨ 96 ≤ k) → F' k = F k) (h1 : F' 86 1 = F 86 1) : DX F' b h s m σ hs sn n c := by
  obtain ⟨a1, a2, a3, a4, a5, a6, a7, a8, a9, a10, a11, a12⟩ := hX
  obtain ⟨d1, d2, d3, d4, d5, d6, d7, d8⟩ := hD
  have be := isB_b a9.2.1
  have fr : ∀ x, (isB x ∨ x = 70) → x ≠ e → ∀ k, x ≤ k → k < x + 16 → F' k = F k := fun x hx hn k k0 k1 => by
    have hd : x + 16 ≤ e ∨ e + 16 ≤ x := by
      rcases hx with z | z
      · exact isB_d z a9.2.1 hn
      · omega
    have hb : x + 16 ≤ 86 ∨ 96 ≤ x := by
      rcases hx with z | z
      · have := isB_b z; omega
      · omega
    exact hF k (by omega) (by omega) (by omega) (by omega)
  refine ⟨Rel_frame d1 (fr b (Or.inl a9.1) a9.2.2), ?_, fun j j0 j1 => ?_, ?_, fun z => ?_, by rw [h1]; exact d6, ?_, ?_⟩
  · rw [hF 4 (by omega) (by omega) (by omega) (by omega)]; exact d2
  · have := a10 j j0 (by omega)
    exact Rel_frame (d3 j j0 j1) (fr _ (Or.inl this.1) this.2.2)
  · rw [hF 3 (by omega) (by omega) (by omega) (by omega)]; exact d4
  · exact Rel_frame (d5 z) (fr 70 (Or.inr rfl) (by omega))
  · rw [hF 87 (by omega) (by omega) (by omega) (by omega)]; exact d7
  · rw [hF 2 (by omega) (by omega) (by omega) (by omega)]; exact d8
theorem shX_b {kd : KL} {P : PM} {b e : Nat} {h : Int → Nat} (hX : shX kd P b e h) : shS kd P b := hX.2.2.2.2.1 b (Or.inl hX.2.2.2.2.2.2.2.2.1.1)
theorem shX_e {kd : KL} {P : PM} {b e : Nat} {h : Int → Nat} (hX : shX kd P b e h) : shS kd P e := hX.2.2.2.2.1 e (Or.inl hX.2.2.2.2.2.2.2.2.1.2.1)
theorem shX_n {kd : KL} {P : PM} {b e : Nat} {h : Int → Nat} (hX : shX kd P b e h) : shS kd P 70 := hX.2.2.2.2.1 70 (Or.inr rfl)
theorem sp_freshDraft {d : Nat} {kd : KL} {F : FM} {P : PM} {b e : Nat} {h : Int → Nat} {s : Int → Int} (hd : 5 ≤ d) (hX : shX kd P b e h) (hR : Rel b F s) (hw : WF s) : Sp d 84 [.inr (some 3)] kd F P (QP kd (fun v F' P' => v = e ∧ P' = P ∧ Rel e F' s ∧ ∀ k, (k < e ∨ e + 16 ≤ k) → F' k = F k)) := by
  refine Sp_of (me := mX7_freshDraft) (by omega) pX7_freshDraft ⟨rfl, Nat.le_of_ble_eq_true rfl⟩ ?_
  have hSb := shX_b hX
  have hSe := shX_e hX
  have h9 := hX.2.2.2.2.2.2.2.2.1
  refine R_aload_n fX7_freshDraft_0 rfl ?_
  refine R_getP 6 fX7_freshDraft_1 hX.1 (by omega) rfl rfl rfl hX.2.1.2.2.2.2.2.2 ?_
  refine R_aload_n fX7_freshDraft_4 rfl ?_
  refine R_getP 5 fX7_freshDraft_5 hX.1 (by omega) rfl rfl rfl hX.2.1.2.2.2.2.2.1 ?_
  refine R_callN fX7_freshDraft_8 rfl rfl pX5_copyFrom rfl ⟨Nat.le_of_ble_eq_true rfl, rcv_v rfl (shS_3 hSe 0) (shS_k0 hSe)⟩ (sp_copyFrom (by omega) hSe hSb (isB_d h9.1 h9.2.1 h9.2.2) hR hw) (fun F1 q => ?_)
  refine R_aload_n fX7_freshDraft_11 rfl ?_
  refine R_getP 6 fX7_freshDraft_12 hX.1 (by omega) rfl rfl rfl hX.2.1.2.2.2.2.2.2 ?_
  refine R_areturn fX7_freshDraft_15 rfl ?_
  exact ⟨_, _, _, rfl, rfl, rfl, q.1, q.2⟩
theorem sp_adopt {d : Nat} {kd : KL} {F : FM} {P : PM} {b e : Nat} {h : Int → Nat} {s : Int → Int} {m : Int} {σ : Int → Int → Int} {hs : Int} {sn : Int → Int} {n : Int} {c : Int → Int} {a : Int} {t : Int → Int} (hd : 2 ≤ d) (hX : shX kd P b e h) (hD : DX F b h s m σ hs sn n c) (hm : 0 ≤ m ∧ m ≤ 4) (ht : ¬ a ≤ -1000001 → Rel e F t) : Sp d 85 [.inr (some 3), .inl a] kd F P (QI kd (fun r F' P' => r = a ∧ (if a ≤ -1000001 then CW kd F' P' s m σ hs sn n c else CW kd F' P' t (pmN m) (pmS m σ s) hs sn n c) ∧ FR F F' P P')) := by
  refine Sp_of (me := mX7_adopt) (by omega) pX7_adopt ⟨rfl, Nat.le_of_ble_eq_true rfl⟩ ?_
  have hSb := shX_b hX
  have hSe := shX_e hX
  obtain ⟨a1, a2, a3, a4, a5, a6, a7, a8, a9, a10, a11, a12⟩ := id hX
  obtain ⟨d1, d2, d3, d4, d5, d6, d7, d8⟩ := id hD
  have bb := isB_b a9.1
  have be := isB_b a9.2.1
  have hh : ∀ j, 0 ≤ j → j < 4 → P 5 j = some (h j) ∧ 3 ≤ h j ∧ kd[h j]? = some (7, 17) := fun j j0 j1 => ⟨a4 j j0 j1, by have := isB_b (a10 j j0 j1).1; omega, shS_k0 (a5 _ (Or.inl (a10 j j0 j1).1))⟩
  refine R_iload_n fX7_adopt_0 rfl ?_
  refine R_callE fX7_adopt_1 rfl rfl pX7_isError rfl ⟨Nat.le_of_ble_eq_true rfl, rfl⟩ (sp_isError (by omega)) ?_
  refine R_if_eq fX7_adopt_4 rfl (fun h4 => ?_) (fun h4 => ?_)
  · refine R_aload_n fX7_adopt_9 rfl ?_
    refine R_getP 0 fX7_adopt_10 a1 (by omega) rfl rfl rfl hX.2.1.1 ?_
    refine R_aload_n fX7_adopt_13 rfl ?_
    refine R_getP 5 fX7_adopt_14 a1 (by omega) rfl rfl rfl hX.2.1.2.2.2.2.2.1 ?_
    refine R_callP fX7_adopt_17 rfl rfl pX1_add rfl ⟨Nat.le_of_ble_eq_true rfl, rcv_v rfl (by omega) hX.2.2.1.2.2.2.1⟩ (sp_histAdd (by omega) a3 hh (by omega) ⟨by omega, shS_k0 hSb⟩) (fun v F1 P1 q => ?_)
    have hv : isB v ∧ v ≠ b ∧ v ≠ e := by
      split at q
      · rw [q.1]; exact a10 _ (by omega) (by omega)
      · rw [q.1]; exact a10 _ (by omega) (by omega)
    have hF1 : ∀ k, k ≠ 4 → F1 k = F k := fun k hk => by
      split at q
      · rw [q.2.1]; exact stt_kr _ _ _ hk
      · rw [q.2.1]
    have hF4 : F1 4 1 = pmN m := by
      unfold pmN
      rw [d2] at q
      split at q
      · next z => rw [q.2.1, if_pos z, stt_eq]
      · next z => rw [q.2.1, if_neg z, d2]; omega
    have hP1 : ∀ k, k ≠ 5 → P1 k = P k := fun k hk => by
      split at q
      · rw [q.2.2]; exact stp_kr _ _ _ hk
      · exact q.2.2.2.2 k hk
    have bv := isB_b hv.1
    obtain ⟨h', hh5, hhB, hhi, hhR⟩ : ∃ h' : Int → Nat, (∀ j, 0 ≤ j → j < 4 → P1 5 j = some (h' j)) ∧ (∀ j, 0 ≤ j → j < 4 → isB (h' j) ∧ h' j ≠ e ∧ h' j ≠ v) ∧ (∀ i j, 0 ≤ i → i < j → j < 4 → h' i ≠ h' j) ∧ (∀ j, 0 ≤ j → j < pmN m → (h' j = b ∧ pmS m σ s j = s) ∨ ∃ i, 0 ≤ i ∧ i < m ∧ h' j = h i ∧ pmS m σ s j = σ i) := by
      rw [d2] at q
      by_cases hm4 : m < 4
      · rw [if_pos hm4] at q
        obtain ⟨q1, q2, q3⟩ := q
        refine ⟨fun j => if j = m then b else h j, fun j j0 j1 => ?_, fun j j0 j1 => ?_, fun i j i0 ij j1 => ?_, fun j j0 j1 => ?_⟩
        · rw [q3]
          show _ = some (if j = m then b else h j)
          by_cases hj : j = m
          · rw [hj, stp_eq, if_pos rfl]
          · rw [stp_j _ _ hj, if_neg hj]; exact a4 j j0 j1
        · show isB (if j = m then b else h j) ∧ (if j = m then b else h j) ≠ e ∧ (if j = m then b else h j) ≠ v
          by_cases hj : j = m
          · rw [if_pos hj]; exact ⟨a9.1, a9.2.2, fun z => hv.2.1 z.symm⟩
          · rw [if_neg hj]
            have h10 := a10 j j0 j1
            refine ⟨h10.1, h10.2.2, fun z => ?_⟩
            rw [q1] at z
            rcases (by omega : j < m ∨ m < j) with y | y
            · exact a11 j m j0 y hm4 z
            · exact a11 m j (by omega) y j1 z.symm
        · show (if i = m then b else h i) ≠ (if j = m then b else h j)
          by_cases hi : i = m
          · rw [if_pos hi, if_neg (by omega)]; exact fun z => (a10 j (by omega) j1).2.1 z.symm
          · rw [if_neg hi]
            by_cases hj : j = m
            · rw [if_pos hj]; exact (a10 i i0 (by omega)).2.1
            · rw [if_neg hj]; exact a11 i j i0 ij j1
        · unfold pmN at j1
          rw [if_pos hm4] at j1
          unfold pmS
          rw [if_pos hm4]
          by_cases hj : j = m
          · exact Or.inl ⟨if_pos hj, if_pos hj⟩
          · exact Or.inr ⟨j, j0, by omega, if_neg hj, if_neg hj⟩
      · rw [if_neg hm4] at q
        obtain ⟨q1, q2, q3, q4, q5⟩ := q
        refine ⟨fun j => if j = 3 then b else h (j + 1), fun j j0 j1 => ?_, fun j j0 j1 => ?_, fun i j i0 ij j1 => ?_, fun j j0 j1 => ?_⟩
        · show _ = some (if j = 3 then b else h (j + 1))
          by_cases hj : j = 3
          · rw [hj, if_pos rfl]; exact q4
          · rw [if_neg hj]; exact q3 j j0 (by omega)
        · show isB (if j = 3 then b else h (j + 1)) ∧ (if j = 3 then b else h (j + 1)) ≠ e ∧ (if j = 3 then b else h (j + 1)) ≠ v
          by_cases hj : j = 3
          · rw [if_pos hj]; exact ⟨a9.1, a9.2.2, fun z => hv.2.1 z.symm⟩
          · rw [if_neg hj]
            have h10 := a10 (j + 1) (by omega) (by omega)
            refine ⟨h10.1, h10.2.2, fun z => ?_⟩
            rw [q1] at z
            exact a11 0 (j + 1) (by omega) (by omega) (by omega) z.symm
        · show (if i = 3 then b else h (i + 1)) ≠ (if j = 3 then b else h (j + 1))
          rw [if_neg (by omega)]
          by_cases hj : j = 3
          · rw [if_pos hj]; exact (a10 (i + 1) (by omega) (by omega)).2.1
          · rw [if_neg hj]; exact a11 (i + 1) (j + 1) (by omega) (by omega) (by omega)
        · unfold pmN at j1
          rw [if_neg hm4] at j1
          unfold pmS
          rw [if_neg hm4]
          by_cases hj : j = 3
          · exact Or.inl ⟨if_pos hj, if_pos hj⟩
          · exact Or.inr ⟨j + 1, by omega, by omega, if_neg hj, if_neg hj⟩
    have p3 : P1 3 = P 3 := hP1 3 (by omega)
    have a2e : P1 3 6 = some e := by rw [p3]; exact a2.2.2.2.2.2.2
    have hng : ¬ a ≤ -1000001 := fun z => by rw [if_pos z] at h4; omega
    refine R_astore_n fX7_adopt_20 rfl ?_
    refine R_aload_n fX7_adopt_21 rfl ?_
    refine R_aload_n fX7_adopt_22 rfl ?_
    refine R_getP 6 fX7_adopt_23 a1 (by omega) rfl rfl rfl a2e ?_
    refine R_putP 5 fX7_adopt_26 a1 (by omega) rfl rfl rfl ?_
    refine R_aload_n fX7_adopt_29 rfl ?_
    refine R_aload_n fX7_adopt_30 rfl ?_
    refine R_putP 6 fX7_adopt_31 a1 (by omega) rfl rfl rfl ?_
    refine R_iload_n fX7_adopt_34 rfl ?_
    refine R_ireturn fX7_adopt_35 rfl ?_
    refine ⟨_, _, _, rfl, rfl, ?_, fun k hk => ⟨hF1 k (by omega), ?_⟩⟩
    · rw [if_neg hng]
      refine ⟨e, v, h', shX_P hX (fun k k3 k5 => ?_) ⟨?_, ?_, ?_, ?_, ?_, ?_, ?_⟩ (fun j j0 j1 => ?_) ⟨a9.2.1, hv.1, fun z => hv.2.2 z.symm⟩ hhB hhi, Rel_frame (ht hng) (fun k k0 k1 => hF1 k (by omega)), hF4, fun j j0 j1 => ?_, ?_, fun z => ?_, ?_, ?_, ?_⟩
      · rw [stp_kr _ _ _ k3, stp_kr _ _ _ k3]; exact hP1 k k5
      · rw [stp_j _ _ (by omega), stp_j _ _ (by omega), p3]; exact a2.1
      · rw [stp_j _ _ (by omega), stp_j _ _ (by omega), p3]; exact a2.2.1
      · rw [stp_j _ _ (by omega), stp_j _ _ (by omega), p3]; exact a2.2.2.1
      · rw [stp_j _ _ (by omega), stp_j _ _ (by omega), p3]; exact a2.2.2.2.1
      · rw [stp_j _ _ (by omega), stp_j _ _ (by omega), p3]; exact a2.2.2.2.2.1
      · rw [stp_j _ _ (by omega), stp_eq]
      · rw [stp_eq]
      · rw [stp_kr _ _ _ (by omega), stp_kr _ _ _ (by omega)]; exact hh5 j j0 j1
      · rcases hhR j j0 j1 with ⟨x, y⟩ | ⟨i, i0, i1, x, y⟩
        · rw [x, y]
          exact Rel_frame d1 (fun k k0 k1 => hF1 k (by omega))
        · rw [x, y]
          have := isB_b (a10 i i0 (by omega)).1
          exact Rel_frame (d3 i i0 i1) (fun k k0 k1 => hF1 k (by omega))
      · rw [hF1 3 (by omega)]; exact d4
      · exact Rel_frame (d5 z) (fun k k0 k1 => hF1 k (by omega))
      · rw [hF1 86 (by omega)]; exact d6
      · rw [hF1 87 (by omega)]; exact d7
      · rw [hF1 2 (by omega)]; exact d8
    · rw [stp_kr _ _ _ (by omega), stp_kr _ _ _ (by omega)]; exact hP1 k (by omega)
  · refine R_iload_n fX7_adopt_7 rfl ?_
    refine R_ireturn fX7_adopt_8 rfl ?_
    refine ⟨_, _, _, rfl, rfl, ?_, fun _ _ => ⟨rfl, rfl⟩⟩
    rw [if_pos (by by_cases z : a ≤ -1000001
                   · exact z
                   · rw [if_neg z] at h4; omega)]
    exact ⟨b, e, h, hX, hD⟩
