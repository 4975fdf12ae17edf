/-! ## the winner of a round, pure -/
def grF (f : Int → Int) : Nat → Int
  | 0 => -1
  | n + 1 => if grF f n < f (n : Int) then f (n : Int) else grF f n
def cnF (f : Int → Int) (m : Int) (n : Nat) : Int := sg (fun p => if f p = m then 1 else 0) n
def lsF (f : Int → Int) (m : Int) : Nat → Int
  | 0 => -1
  | n + 1 => if f (n : Int) = m then (n : Int) else lsF f m n
def winF (f : Int → Int) (n : Nat) : Int := if cnF f (grF f n) n = 1 then lsF f (grF f n) n else -1
theorem toN {i : Int} (h : 0 ≤ i) : (i + 1).toNat = i.toNat + 1 := by omega
theorem toC {i : Int} (h : 0 ≤ i) : ((i.toNat : Nat) : Int) = i := by omega
theorem grF_s {f : Int → Int} {i : Int} (h : 0 ≤ i) : grF f (i + 1).toNat = if grF f i.toNat < f i then f i else grF f i.toNat := by
  rw [toN h, grF, toC h]
theorem lsF_s {f : Int → Int} {m i : Int} (h : 0 ≤ i) : lsF f m (i + 1).toNat = if f i = m then i else lsF f m i.toNat := by
  rw [toN h, lsF, toC h]
theorem cnF_s {f : Int → Int} {m i : Int} (h : 0 ≤ i) : cnF f m (i + 1).toNat = cnF f m i.toNat + if f i = m then 1 else 0 := sg_s h
theorem grF_le {f : Int → Int} : ∀ {n : Nat} {p : Int}, 0 ≤ p → p < n → f p ≤ grF f n
  | 0, p, h0, h1 => by omega
  | n + 1, p, h0, h1 => by
    unfold grF
    by_cases hp : p = n
    · subst hp; split <;> omega
    · have := grF_le (f := f) (n := n) h0 (by omega)
      split <;> omega
theorem grF_b {f : Int → Int} {b : Int} (hb : -1 ≤ b) : ∀ {n : Nat}, (∀ p : Int, 0 ≤ p → p < n → f p ≤ b) → -1 ≤ grF f n ∧ grF f n ≤ b
  | 0, _ => by unfold grF; omega
  | n + 1, h => by
    have h1 := grF_b (n := n) hb (fun p h0 h1 => h p h0 (by omega))
    have h2 := h n (by omega) (by omega)
    unfold grF
    split <;> omega
theorem cnF_0 {f : Int → Int} {m : Int} : ∀ {n : Nat}, (∀ p : Int, 0 ≤ p → p < n → f p ≠ m) → cnF f m n = 0
  | 0, _ => rfl
  | n + 1, h => by
    show cnF f m n + (if f n = m then 1 else 0) = 0
    rw [cnF_0 (n := n) (fun p h0 h1 => h p h0 (by omega)), if_neg (h n (by omega) (by omega))]
    rfl
theorem cnF_nn {f : Int → Int} {m : Int} : ∀ {n : Nat}, 0 ≤ cnF f m n ∧ cnF f m n ≤ n
  | 0 => by show 0 ≤ (0 : Int) ∧ (0 : Int) ≤ _; omega
  | n + 1 => by
    have := cnF_nn (f := f) (m := m) (n := n)
    show 0 ≤ cnF f m n + (if f n = m then 1 else 0) ∧ cnF f m n + (if f n = m then 1 else 0) ≤ _
    split <;> omega
theorem cnF_pos {f : Int → Int} : ∀ {n : Nat}, 0 ≤ grF f n → 1 ≤ cnF f (grF f n) n
  | 0, h => by unfold grF at h; omega
  | n + 1, h => by
    show 1 ≤ cnF f (grF f (n + 1)) n + (if f n = grF f (n + 1) then 1 else 0)
    have h2 := cnF_nn (f := f) (m := grF f (n + 1)) (n := n)
    unfold grF at h h2 ⊢
    split
    · next hc => rw [if_pos rfl]; rw [if_pos hc] at h2; omega
    · next hc =>
      rw [if_neg hc] at h
      have := cnF_pos (f := f) (n := n) h
      split <;> omega
theorem grF_congr {f g : Int → Int} : ∀ {n : Nat}, (∀ p : Int, 0 ≤ p → p < n → f p = g p) → grF f n = grF g n
  | 0, _ => rfl
  | n + 1, h => by unfold grF; rw [grF_congr (n := n) (fun p h0 h1 => h p h0 (by omega)), h n (by omega) (by omega)]
theorem lsF_congr {f g : Int → Int} {m : Int} : ∀ {n : Nat}, (∀ p : Int, 0 ≤ p → p < n → f p = g p) → lsF f m n = lsF g m n
  | 0, _ => rfl
  | n + 1, h => by unfold lsF; rw [lsF_congr (n := n) (fun p h0 h1 => h p h0 (by omega)), h n (by omega) (by omega)]
theorem cnF_congr {f g : Int → Int} {m : Int} {n : Nat} (h : ∀ p : Int, 0 ≤ p → p < n → f p = g p) : cnF f m n = cnF g m n := sg_congr (fun i h0 h1 => by rw [h i h0 h1])
theorem winF_congr {f g : Int → Int} {n : Nat} (h : ∀ p : Int, 0 ≤ p → p < n → f p = g p) : winF f n = winF g n := by
  unfold winF
  rw [grF_congr h, cnF_congr h, lsF_congr h]
theorem lsF_in {f : Int → Int} {m : Int} : ∀ {n : Nat}, -1 ≤ lsF f m n ∧ lsF f m n < n ∧ (0 ≤ lsF f m n → f (lsF f m n) = m)
  | 0 => by unfold lsF; omega
  | n + 1 => by
    have h := lsF_in (f := f) (m := m) (n := n)
    unfold lsF
    split
    · next hc => exact ⟨by omega, by omega, fun _ => hc⟩
    · exact ⟨h.1, by omega, h.2.2⟩
theorem winF_in {f : Int → Int} {n : Nat} : -1 ≤ winF f n ∧ (winF f n < n ∨ n = 0) := by
  have h := lsF_in (f := f) (m := grF f n) (n := n)
  unfold winF
  split <;> omega
/-- what a player pays -/
def feeF (f : Int → Int) (n : Nat) (tie oth p : Int) : Int := if p = winF f n then f p else if winF f n ≠ -1 then (if f p < oth then f p else oth) else if f p = grF f n then (if f p < tie then f p else tie) else 0
theorem feeF_b {f : Int → Int} {n : Nat} {tie oth p : Int} (h : 0 ≤ f p) (ht : 0 ≤ tie) (ho : 0 ≤ oth) : 0 ≤ feeF f n tie oth p ∧ feeF f n tie oth p ≤ f p := by
  unfold feeF
  split
  · omega
  · split
    · split <;> omega
    · split
      · split <;> omega
      · omega
def potF (f : Int → Int) (n : Nat) (pot tie oth : Int) : Int := pot + sg (feeF f n tie oth) n
def partF (f : Int → Int) (n : Nat) (pot tie oth shr : Int) : Int := if winF f n ≠ -1 ∧ shr = 1 then Int.tdiv (potF f n pot tie oth) (n - 1) else 0
def gotF (f : Int → Int) (n : Nat) (pot tie oth shr p : Int) : Int := if p = winF f n then 0 else partF f n pot tie oth shr
/-! ## the shape of an outcome; what stays when other cells change -/
def shO (kd : KL) (P : PM) (O : Nat) : Prop := 3 ≤ O ∧ kd[O]? = some (4, 6) ∧ kd[O + 1]? = some (0, 4) ∧ kd[O + 2]? = some (0, 4) ∧ P O 4 = some (O + 1) ∧ P O 5 = some (O + 2)
theorem shO_3 {kd : KL} {P : PM} {O : Nat} (h : shO kd P O) (j : Nat) : 3 ≤ O + j := Nat.le_trans h.1 (Nat.le_add_right O j)
theorem Rel_frame {B : Nat} {F F' : FM} {s : Int → Int} (h : Rel B F s) (hF : ∀ k, B ≤ k → k < B + 16 → F' k = F k) : Rel B F' s := by
  unfold Rel at *
  rw [hF B (by omega) (by omega), hF (B + 1) (by omega) (by omega), hF (B + 2) (by omega) (by omega), hF (B + 3) (by omega) (by omega), hF (B + 4) (by omega) (by omega), hF (B + 5) (by omega) (by omega), hF (B + 6) (by omega) (by omega), hF (B + 7) (by omega) (by omega), hF (B + 8) (by omega) (by omega), hF (B + 9) (by omega) (by omega), hF (B + 10) (by omega) (by omega), hF (B + 11) (by omega) (by omega), hF (B + 12) (by omega) (by omega), hF (B + 13) (by omega) (by omega), hF (B + 14) (by omega) (by omega), hF (B + 15) (by omega) (by omega)]
  exact h
theorem sp_findWinner {d : Nat} {kd : KL} {F : FM} {P : PM} {O A : Nat} {n : Int} (hd : 1 ≤ d) (hO : shO kd P O) (hA : kd[A]? = some (0, 4)) (hAO : A ≠ O) (hn : 0 ≤ n ∧ n ≤ 4) (hf : ∀ p, 0 ≤ p → p < n → 0 ≤ F A p ∧ F A p ≤ 120) : Sp d 12 [.inr (some O), .inl n, .inr (some A)] kd F P (QN kd P (fun F' => F' O 0 = winF (F A) n.toNat ∧ F' O 1 = grF (F A) n.toNat ∧ F' O 2 = cnF (F A) (grF (F A) n.toNat) n.toNat ∧ ∀ k, k ≠ O → F' k = F k)) := by
  refine Sp_of (me := mX2_findWinner) (by omega) pX2_findWinner ⟨rfl, Nat.le_of_ble_eq_true rfl⟩ ?_
  have lp : ∀ (N : Nat) (i : Int) (G : FM), 0 ≤ i → i ≤ n → (G O 0 = winF (F A) i.toNat ∧ G O 1 = grF (F A) i.toNat ∧ G O 2 = cnF (F A) (grF (F A) i.toNat) i.toNat ∧ ∀ k, k ≠ O → G k = F k) → n - i < N → Rn (d - 1) mX2_findWinner 17 [some (.inr (some O)), some (.inl n), some (.inr (some A)), some (.inl i)] [] kd G P (QN kd P (fun F' => F' O 0 = winF (F A) n.toNat ∧ F' O 1 = grF (F A) n.toNat ∧ F' O 2 = cnF (F A) (grF (F A) n.toNat) n.toNat ∧ ∀ k, k ≠ O → F' k = F k)) := by
    intro N
    induction N with
    | zero => intro i G h0 h1 h2 h5; omega
    | succ N ih =>
      intro i G h0 h1 h2 h5
      obtain ⟨g0, g1, g2, g3⟩ := id h2
      have hcn := cnF_nn (f := F A) (m := grF (F A) i.toNat) (n := i.toNat)
      refine R_iload_n fX2_findWinner_17 rfl ?_
      refine R_iload_n fX2_findWinner_18 rfl ?_
      refine R_icmp_ge fX2_findWinner_19 rfl (fun h19 => ?_) (fun h19 => ?_)
      · refine R_return fX2_findWinner_83 rfl ⟨_, rfl, ?_⟩
        rw [show i = n by omega] at h2
        exact h2
      · have ha : G A = F A := g3 A hAO
        have hfi := hf i h0 (by omega)
        refine R_aload_n fX2_findWinner_22 rfl ?_
        refine R_iload_n fX2_findWinner_23 rfl ?_
        refine R_iaload fX2_findWinner_24 hA (by omega) ?_
        refine R_aload_n fX2_findWinner_25 rfl ?_
        refine R_getI 1 fX2_findWinner_26 hO.2.1 hO.1 rfl rfl rfl ?_
        rw [ha, g1]
        refine R_icmp_le fX2_findWinner_29 rfl (fun h29 => ?_) (fun h29 => ?_)
        · refine R_aload_n fX2_findWinner_52 rfl ?_
          refine R_iload_n fX2_findWinner_53 rfl ?_
          refine R_iaload fX2_findWinner_54 hA (by omega) ?_
          refine R_aload_n fX2_findWinner_55 rfl ?_
          refine R_getI 1 fX2_findWinner_56 hO.2.1 hO.1 rfl rfl rfl ?_
          rw [ha, g1]
          refine R_icmp_ne fX2_findWinner_59 rfl (fun h59 => ?_) (fun h59 => ?_)
          · refine R_iinc fX2_findWinner_77 rfl (by omega) ?_
            refine R_goto fX2_findWinner_80 rfl ?_
            first
            | (have hq : F A i > grF (F A) i.toNat := by omega
               have hgr : grF (F A) (i + 1).toNat = F A i := by rw [grF_s h0]; first | rw [if_pos (by omega)] | rw [if_neg (by omega)]
               have hcs : cnF (F A) (grF (F A) (i + 1).toNat) (i + 1).toNat = 1 := by
                 rw [hgr, cnF_s h0]
                 rw [cnF_0 (fun p p0 p1 => by have := grF_le (f := F A) (n := i.toNat) p0 p1; omega), if_pos rfl]; rfl
               have hws : winF (F A) (i + 1).toNat = i := by
                 unfold winF
                 rw [hcs, hgr, lsF_s h0]
                 rw [if_pos rfl, if_pos rfl]
               refine ih _ _ (by omega) (by omega) ⟨?_, ?_, ?_, fun k hk => ?_⟩ (by omega)
               · try simp (disch := omega) only [stt_k, stt_j, stt_eq]
                 first | exact hws.symm | (rw [hws]; omega) | (rw [hws]; exact g0)
               · try simp (disch := omega) only [stt_k, stt_j, stt_eq]
                 first | (rw [hgr, ha]; done) | (rw [hgr]; exact g1)
               · try simp (disch := omega) only [stt_k, stt_j, stt_eq]
                 first | (rw [hcs]; done) | (rw [hcs, g2]; done) | (rw [hcs]; exact g2)
               · try simp (disch := omega) only [stt_kr]
                 exact g3 k hk)
            | (have hq : F A i = grF (F A) i.toNat := by omega
               have hgr : grF (F A) (i + 1).toNat = grF (F A) i.toNat := by rw [grF_s h0]; first | rw [if_pos (by omega)] | rw [if_neg (by omega)]
               have hcs : cnF (F A) (grF (F A) (i + 1).toNat) (i + 1).toNat = cnF (F A) (grF (F A) i.toNat) i.toNat + 1 := by
                 rw [hgr, cnF_s h0]
                 rw [if_pos (by omega)]
               have hws : winF (F A) (i + 1).toNat = -1 := by
                 unfold winF
                 rw [hcs, hgr, lsF_s h0]
                 rw [if_neg (by have := cnF_pos (f := F A) (n := i.toNat) (by omega); omega)]
               refine ih _ _ (by omega) (by omega) ⟨?_, ?_, ?_, fun k hk => ?_⟩ (by omega)
               · try simp (disch := omega) only [stt_k, stt_j, stt_eq]
                 first | exact hws.symm | (rw [hws]; omega) | (rw [hws]; exact g0)
               · try simp (disch := omega) only [stt_k, stt_j, stt_eq]
                 first | (rw [hgr, ha]; done) | (rw [hgr]; exact g1)
               · try simp (disch := omega) only [stt_k, stt_j, stt_eq]
                 first | (rw [hcs]; done) | (rw [hcs, g2]; done) | (rw [hcs]; exact g2)
               · try simp (disch := omega) only [stt_kr]
                 exact g3 k hk)
            | (have hq : F A i < grF (F A) i.toNat := by omega
               have hgr : grF (F A) (i + 1).toNat = grF (F A) i.toNat := by rw [grF_s h0]; first | rw [if_pos (by omega)] | rw [if_neg (by omega)]
               have hcs : cnF (F A) (grF (F A) (i + 1).toNat) (i + 1).toNat = cnF (F A) (grF (F A) i.toNat) i.toNat := by
                 rw [hgr, cnF_s h0]
                 rw [if_neg (by omega), Int.add_zero]
               have hws : winF (F A) (i + 1).toNat = winF (F A) i.toNat := by
                 unfold winF
                 rw [hcs, hgr, lsF_s h0]
                 rw [if_neg (show ¬ F A i = grF (F A) i.toNat by omega)]; (try rfl)
               refine ih _ _ (by omega) (by omega) ⟨?_, ?_, ?_, fun k hk => ?_⟩ (by omega)
               · try simp (disch := omega) only [stt_k, stt_j, stt_eq]
                 first | exact hws.symm | (rw [hws]; omega) | (rw [hws]; exact g0)
               · try simp (disch := omega) only [stt_k, stt_j, stt_eq]
                 first | (rw [hgr, ha]; done) | (rw [hgr]; exact g1)
               · try simp (disch := omega) only [stt_k, stt_j, stt_eq]
                 first | (rw [hcs]; done) | (rw [hcs, g2]; done) | (rw [hcs]; exact g2)
               · try simp (disch := omega) only [stt_kr]
                 exact g3 k hk)
          · refine R_aload_n fX2_findWinner_62 rfl ?_
            refine R_dup fX2_findWinner_63 ?_
            refine R_getI 2 fX2_findWinner_64 hO.2.1 hO.1 rfl rfl rfl ?_
            refine R_iconst fX2_findWinner_67 ?_
            refine R_iadd fX2_findWinner_68 (by rw [g2]; omega) ?_
            refine R_putI 2 fX2_findWinner_69 hO.2.1 hO.1 rfl rfl rfl ?_
            refine R_aload_n fX2_findWinner_72 rfl ?_
            refine R_iconst fX2_findWinner_73 ?_
            refine R_putI 0 fX2_findWinner_74 hO.2.1 hO.1 rfl rfl rfl ?_
            refine R_iinc fX2_findWinner_77 rfl (by omega) ?_
            refine R_goto fX2_findWinner_80 rfl ?_
            first
            | (have hq : F A i > grF (F A) i.toNat := by omega
               have hgr : grF (F A) (i + 1).toNat = F A i := by rw [grF_s h0]; first | rw [if_pos (by omega)] | rw [if_neg (by omega)]
               have hcs : cnF (F A) (grF (F A) (i + 1).toNat) (i + 1).toNat = 1 := by
                 rw [hgr, cnF_s h0]
                 rw [cnF_0 (fun p p0 p1 => by have := grF_le (f := F A) (n := i.toNat) p0 p1; omega), if_pos rfl]; rfl
               have hws : winF (F A) (i + 1).toNat = i := by
                 unfold winF
                 rw [hcs, hgr, lsF_s h0]
                 rw [if_pos rfl, if_pos rfl]
               refine ih _ _ (by omega) (by omega) ⟨?_, ?_, ?_, fun k hk => ?_⟩ (by omega)
               · try simp (disch := omega) only [stt_k, stt_j, stt_eq]
                 first | exact hws.symm | (rw [hws]; omega) | (rw [hws]; exact g0)
               · try simp (disch := omega) only [stt_k, stt_j, stt_eq]
                 first | (rw [hgr, ha]; done) | (rw [hgr]; exact g1)
               · try simp (disch := omega) only [stt_k, stt_j, stt_eq]
                 first | (rw [hcs]; done) | (rw [hcs, g2]; done) | (rw [hcs]; exact g2)
               · try simp (disch := omega) only [stt_kr]
                 exact g3 k hk)
            | (have hq : F A i = grF (F A) i.toNat := by omega
               have hgr : grF (F A) (i + 1).toNat = grF (F A) i.toNat := by rw [grF_s h0]; first | rw [if_pos (by omega)] | rw [if_neg (by omega)]
               have hcs : cnF (F A) (grF (F A) (i + 1).toNat) (i + 1).toNat = cnF (F A) (grF (F A) i.toNat) i.toNat + 1 := by
                 rw [hgr, cnF_s h0]
                 rw [if_pos (by omega)]
               have hws : winF (F A) (i + 1).toNat = -1 := by
                 unfold winF
                 rw [hcs, hgr, lsF_s h0]
                 rw [if_neg (by have := cnF_pos (f := F A) (n := i.toNat) (by omega); omega)]
               refine ih _ _ (by omega) (by omega) ⟨?_, ?_, ?_, fun k hk => ?_⟩ (by omega)
               · try simp (disch := omega) only [stt_k, stt_j, stt_eq]
                 first | exact hws.symm | (rw [hws]; omega) | (rw [hws]; exact g0)
               · try simp (disch := omega) only [stt_k, stt_j, stt_eq]
                 first | (rw [hgr, ha]; done) | (rw [hgr]; exact g1)
               · try simp (disch := omega) only [stt_k, stt_j, stt_eq]
                 first | (rw [hcs]; done) | (rw [hcs, g2]; done) | (rw [hcs]; exact g2)
               · try simp (disch := omega) only [stt_kr]
                 exact g3 k hk)
            | (have hq : F A i < grF (F A) i.toNat := by omega
               have hgr : grF (F A) (i + 1).toNat = grF (F A) i.toNat := by rw [grF_s h0]; first | rw [if_pos (by omega)] | rw [if_neg (by omega)]
               have hcs : cnF (F A) (grF (F A) (i + 1).toNat) (i + 1).toNat = cnF (F A) (grF (F A) i.toNat) i.toNat := by
                 rw [hgr, cnF_s h0]
                 rw [if_neg (by omega), Int.add_zero]
               have hws : winF (F A) (i + 1).toNat = winF (F A) i.toNat := by
                 unfold winF
                 rw [hcs, hgr, lsF_s h0]
                 rw [if_neg (show ¬ F A i = grF (F A) i.toNat by omega)]; (try rfl)
               refine ih _ _ (by omega) (by omega) ⟨?_, ?_, ?_, fun k hk => ?_⟩ (by omega)
               · try simp (disch := omega) only [stt_k, stt_j, stt_eq]
                 first | exact hws.symm | (rw [hws]; omega) | (rw [hws]; exact g0)
               · try simp (disch := omega) only [stt_k, stt_j, stt_eq]
                 first | (rw [hgr, ha]; done) | (rw [hgr]; exact g1)
               · try simp (disch := omega) only [stt_k, stt_j, stt_eq]
                 first | (rw [hcs]; done) | (rw [hcs, g2]; done) | (rw [hcs]; exact g2)
               · try simp (disch := omega) only [stt_kr]
                 exact g3 k hk)
        · refine R_aload_n fX2_findWinner_32 rfl ?_
          refine R_aload_n fX2_findWinner_33 rfl ?_
          refine R_iload_n fX2_findWinner_34 rfl ?_
          refine R_iaload fX2_findWinner_35 hA (by omega) ?_
          refine R_putI 1 fX2_findWinner_36 hO.2.1 hO.1 rfl rfl rfl ?_
          refine R_aload_n fX2_findWinner_39 rfl ?_
          refine R_iconst fX2_findWinner_40 ?_
          refine R_putI 2 fX2_findWinner_41 hO.2.1 hO.1 rfl rfl rfl ?_
          refine R_aload_n fX2_findWinner_44 rfl ?_
          refine R_iload_n fX2_findWinner_45 rfl ?_
          refine R_putI 0 fX2_findWinner_46 hO.2.1 hO.1 rfl rfl rfl ?_
          refine R_goto fX2_findWinner_49 rfl ?_
          refine R_iinc fX2_findWinner_77 rfl (by omega) ?_
          refine R_goto fX2_findWinner_80 rfl ?_
          first
          | (have hq : F A i > grF (F A) i.toNat := by omega
             have hgr : grF (F A) (i + 1).toNat = F A i := by rw [grF_s h0]; first | rw [if_pos (by omega)] | rw [if_neg (by omega)]
             have hcs : cnF (F A) (grF (F A) (i + 1).toNat) (i + 1).toNat = 1 := by
               rw [hgr, cnF_s h0]
               rw [cnF_0 (fun p p0 p1 => by have := grF_le (f := F A) (n := i.toNat) p0 p1; omega), if_pos rfl]; rfl
             have hws : winF (F A) (i + 1).toNat = i := by
               unfold winF
               rw [hcs, hgr, lsF_s h0]
               rw [if_pos rfl, if_pos rfl]
             refine ih _ _ (by omega) (by omega) ⟨?_, ?_, ?_, fun k hk => ?_⟩ (by omega)
             · try simp (disch := omega) only [stt_k, stt_j, stt_eq]
               first | exact hws.symm | (rw [hws]; omega) | (rw [hws]; exact g0)
             · try simp (disch := omega) only [stt_k, stt_j, stt_eq]
               first | (rw [hgr, ha]; done) | (rw [hgr]; exact g1)
             · try simp (disch := omega) only [stt_k, stt_j, stt_eq]
               first | (rw [hcs]; done) | (rw [hcs, g2]; done) | (rw [hcs]; exact g2)
             · try simp (disch := omega) only [stt_kr]
               exact g3 k hk)
          | (have hq : F A i = grF (F A) i.toNat := by omega
             have hgr : grF (F A) (i + 1).toNat = grF (F A) i.toNat := by rw [grF_s h0]; first | rw [if_pos (by omega)] | rw [if_neg (by omega)]
             have hcs : cnF (F A) (grF (F A) (i + 1).toNat) (i + 1).toNat = cnF (F A) (grF (F A) i.toNat) i.toNat + 1 := by
               rw [hgr, cnF_s h0]
               rw [if_pos (by omega)]
             have hws : winF (F A) (i + 1).toNat = -1 := by
               unfold winF
               rw [hcs, hgr, lsF_s h0]
               rw [if_neg (by have := cnF_pos (f := F A) (n := i.toNat) (by omega); omega)]
             refine ih _ _ (by omega) (by omega) ⟨?_, ?_, ?_, fun k hk => ?_⟩ (by omega)
             · try simp (disch := omega) only [stt_k, stt_j, stt_eq]
               first | exact hws.symm | (rw [hws]; omega) | (rw [hws]; exact g0)
             · try simp (disch := omega) only [stt_k, stt_j, stt_eq]
               first | (rw [hgr, ha]; done) | (rw [hgr]; exact g1)
             · try simp (disch := omega) only [stt_k, stt_j, stt_eq]
               first | (rw [hcs]; done) | (rw [hcs, g2]; done) | (rw [hcs]; exact g2)
             · try simp (disch := omega) only [stt_kr]
               exact g3 k hk)
          | (have hq : F A i < grF (F A) i.toNat := by omega
             have hgr : grF (F A) (i + 1).toNat = grF (F A) i.toNat := by rw [grF_s h0]; first | rw [if_pos (by omega)] | rw [if_neg (by omega)]
             have hcs : cnF (F A) (grF (F A) (i + 1).toNat) (i + 1).toNat = cnF (F A) (grF (F A) i.toNat) i.toNat := by
               rw [hgr, cnF_s h0]
               rw [if_neg (by omega), Int.add_zero]
             have hws : winF (F A) (i + 1).toNat = winF (F A) i.toNat := by
               unfold winF
               rw [hcs, hgr, lsF_s h0]
               rw [if_neg (show ¬ F A i = grF (F A) i.toNat by omega)]; (try rfl)
             refine ih _ _ (by omega) (by omega) ⟨?_, ?_, ?_, fun k hk => ?_⟩ (by omega)
             · try simp (disch := omega) only [stt_k, stt_j, stt_eq]
               first | exact hws.symm | (rw [hws]; omega) | (rw [hws]; exact g0)
             · try simp (disch := omega) only [stt_k, stt_j, stt_eq]
               first | (rw [hgr, ha]; done) | (rw [hgr]; exact g1)
             · try simp (disch := omega) only [stt_k, stt_j, stt_eq]
               first | (rw [hcs]; done) | (rw [hcs, g2]; done) | (rw [hcs]; exact g2)
             · try simp (disch := omega) only [stt_kr]
               exact g3 k hk)
  refine R_aload_n fX2_findWinner_0 rfl ?_
  refine R_iconst fX2_findWinner_1 ?_
  refine R_putI 1 fX2_findWinner_2 hO.2.1 hO.1 rfl rfl rfl ?_
  refine R_aload_n fX2_findWinner_5 rfl ?_
  refine R_iconst fX2_findWinner_6 ?_
  refine R_putI 2 fX2_findWinner_7 hO.2.1 hO.1 rfl rfl rfl ?_
  refine R_aload_n fX2_findWinner_10 rfl ?_
  refine R_iconst fX2_findWinner_11 ?_
  refine R_putI 0 fX2_findWinner_12 hO.2.1 hO.1 rfl rfl rfl ?_
  refine R_iconst fX2_findWinner_15 ?_
  refine R_istore_n fX2_findWinner_16 rfl ?_
  refine lp 5 0 _ (by omega) (by omega) ⟨?_, ?_, ?_, fun k hk => ?_⟩ (by omega)
  · simp (disch := omega) only [stt_k, stt_j, stt_eq]; rfl
  · simp (disch := omega) only [stt_k, stt_j, stt_eq]; rfl
  · simp (disch := omega) only [stt_k, stt_j, stt_eq]; rfl
  · simp (disch := omega) only [stt_kr]
theorem sp_payment {d : Nat} {kd : KL} {F : FM} {P : PM} {O C : Nat} {p b : Int} (hd : 3 ≤ d) (hO : shO kd P O) (hC : kd[C]? = some (0, 3)) : Sp d 13 [.inr (some O), .inr (some C), .inl p, .inl b] kd F P (QE kd F P (if p = F O 0 then b else if F O 0 ≠ -1 then (if b < F C 1 then b else F C 1) else if b = F O 1 then (if b < F C 0 then b else F C 0) else 0)) := by
  refine Sp_of (me := mX2_payment) (by omega) pX2_payment ⟨rfl, Nat.le_of_ble_eq_true rfl⟩ ?_
  refine R_iload_n fX2_payment_0 rfl ?_
  refine R_aload_n fX2_payment_1 rfl ?_
  refine R_getI 0 fX2_payment_2 hO.2.1 hO.1 rfl rfl rfl ?_
  refine R_icmp_ne fX2_payment_5 rfl (fun h5 => ?_) (fun h5 => ?_)
  · refine R_aload_n fX2_payment_10 rfl ?_
    refine R_getI 0 fX2_payment_11 hO.2.1 hO.1 rfl rfl rfl ?_
    refine R_iconst fX2_payment_14 ?_
    refine R_icmp_eq fX2_payment_15 rfl (fun h15 => ?_) (fun h15 => ?_)
    · refine R_iload_n fX2_payment_26 rfl ?_
      refine R_aload_n fX2_payment_27 rfl ?_
      refine R_getI 1 fX2_payment_28 hO.2.1 hO.1 rfl rfl rfl ?_
      refine R_icmp_ne fX2_payment_31 rfl (fun h31 => ?_) (fun h31 => ?_)
      · refine R_iconst fX2_payment_44 ?_
        refine R_ireturn fX2_payment_45 rfl ?_
        simp only [QE]; rw [if_neg h5, if_neg (show ¬ F O 0 ≠ -1 from fun z => z h15)]; first | rw [if_pos h31] | rw [if_neg h31]
      · refine R_aload_n fX2_payment_34 rfl ?_
        refine R_iconst fX2_payment_35 ?_
        refine R_iaload fX2_payment_36 hC (by decide) ?_
        refine R_iload_n fX2_payment_37 rfl ?_
        refine R_min fX2_payment_38 (by omega) rfl ?_
        refine R_goto fX2_payment_41 rfl ?_
        refine R_ireturn fX2_payment_45 rfl ?_
        simp only [QE]; rw [if_neg h5, if_neg (show ¬ F O 0 ≠ -1 from fun z => z h15)]; first | rw [if_pos h31] | rw [if_neg h31]
    · refine R_aload_n fX2_payment_18 rfl ?_
      refine R_iconst fX2_payment_19 ?_
      refine R_iaload fX2_payment_20 hC (by decide) ?_
      refine R_iload_n fX2_payment_21 rfl ?_
      refine R_min fX2_payment_22 (by omega) rfl ?_
      refine R_ireturn fX2_payment_25 rfl ?_
      simp only [QE]; rw [if_neg h5, if_pos h15]
  · refine R_iload_n fX2_payment_8 rfl ?_
    refine R_ireturn fX2_payment_9 rfl ?_
    simp only [QE]; rw [if_pos h5]
theorem sp_sharePot {d : Nat} {kd : KL} {F : FM} {P : PM} {O : Nat} {n : Int} (hd : 1 ≤ d) (hO : shO kd P O) (hn : 2 ≤ n ∧ n ≤ 4) (hp : 0 ≤ F O 3 ∧ F O 3 ≤ 1000) : Sp d 14 [.inr (some O), .inl n] kd F P (QN kd P (fun F' => (∀ p, 0 ≤ p → p < n → F' (O + 2) p = if p = F O 0 then F (O + 2) p else Int.tdiv (F O 3) (n - 1)) ∧ F' O 3 = F O 3 - Int.tdiv (F O 3) (n - 1) * (n - 1) ∧ (∀ j, j ≠ 3 → F' O j = F O j) ∧ ∀ k, k ≠ O → k ≠ O + 2 → F' k = F k)) := by
  refine Sp_of (me := mX2_sharePot) (by omega) pX2_sharePot ⟨rfl, Nat.le_of_ble_eq_true rfl⟩ ?_
  have hdiv : 0 ≤ Int.tdiv (F O 3) (n - 1) ∧ Int.tdiv (F O 3) (n - 1) ≤ 1000 ∧ 0 ≤ Int.tdiv (F O 3) (n - 1) * (n - 1) ∧ Int.tdiv (F O 3) (n - 1) * (n - 1) ≤ 1000 := by
    rw [Int.tdiv_eq_ediv_of_nonneg hp.1]
    have h1 := Int.ediv_nonneg hp.1 (show 0 ≤ n - 1 by omega)
    have h2 := Int.ediv_mul_le (F O 3) (show n - 1 ≠ 0 by omega)
    have h3 := Int.mul_nonneg h1 (show 0 ≤ n - 1 by omega)
    have h4 := Int.ediv_le_self (n - 1) hp.1
    omega
  generalize hq : Int.tdiv (F O 3) (n - 1) = q at hdiv ⊢
  have lp : ∀ (N : Nat) (i : Int) (G : FM), 0 ≤ i → i ≤ n → (∀ p, 0 ≤ p → p < i → G (O + 2) p = if p = F O 0 then F (O + 2) p else q) → (∀ p, i ≤ p → G (O + 2) p = F (O + 2) p) → (∀ k, k ≠ O + 2 → G k = F k) → n - i < N → Rn (d - 1) mX2_sharePot 20 [some (.inr (some O)), some (.inl n), some (.inl (n - 1)), some (.inl q), some (.inl i)] [] kd G P (QN kd P (fun F' => (∀ p, 0 ≤ p → p < n → F' (O + 2) p = if p = F O 0 then F (O + 2) p else q) ∧ F' O 3 = F O 3 - q * (n - 1) ∧ (∀ j, j ≠ 3 → F' O j = F O j) ∧ ∀ k, k ≠ O → k ≠ O + 2 → F' k = F k)) := by
    intro N
    induction N with
    | zero => intro i G h0 h1 h2 h3 h4 h5; omega
    | succ N ih =>
      intro i G h0 h1 h2 h3 h4 h5
      refine R_iload fX2_sharePot_20 rfl ?_
      refine R_iload_n fX2_sharePot_22 rfl ?_
      refine R_icmp_ge fX2_sharePot_23 rfl (fun h23 => ?_) (fun h23 => ?_)
      · have hG3 := congrFun (h4 O (by omega)) 3
        refine R_aload_n fX2_sharePot_49 rfl ?_
        refine R_dup fX2_sharePot_50 ?_
        refine R_getI 3 fX2_sharePot_51 hO.2.1 hO.1 rfl rfl rfl ?_
        refine R_iload_n fX2_sharePot_54 rfl ?_
        refine R_iload_n fX2_sharePot_55 rfl ?_
        refine R_imul fX2_sharePot_56 (by omega) ?_
        refine R_isub fX2_sharePot_57 (by rw [hG3]; omega) ?_
        refine R_putI 3 fX2_sharePot_58 hO.2.1 hO.1 rfl rfl rfl ?_
        refine R_return fX2_sharePot_61 rfl ⟨_, rfl, fun p p0 p1 => ?_, ?_, fun j hj => ?_, fun k hk hk2 => ?_⟩
        · simp (disch := omega) only [stt_k]
          exact h2 p p0 (by omega)
        · simp (disch := omega) only [stt_eq]
          rw [hG3]
        · simp (disch := omega) only [stt_j]
          exact congrFun (h4 O (by omega)) j
        · simp (disch := omega) only [stt_kr]
          exact h4 k hk2
      · have hG0 := congrFun (h4 O (by omega)) 0
        refine R_iload fX2_sharePot_26 rfl ?_
        refine R_aload_n fX2_sharePot_28 rfl ?_
        refine R_getI 0 fX2_sharePot_29 hO.2.1 hO.1 rfl rfl rfl ?_
        refine R_icmp_eq fX2_sharePot_32 rfl (fun h32 => ?_) (fun h32 => ?_)
        · refine R_iinc fX2_sharePot_43 rfl (by omega) ?_
          refine R_goto fX2_sharePot_46 rfl ?_
          refine ih _ _ (by omega) (by omega) (fun p p0 p1 => ?_) (fun p p0 => ?_) (fun k hk => ?_) (by omega)
          · by_cases hpi : p = i
            · subst hpi
              try simp (disch := omega) only [stt_eq]
              first | (rw [if_pos (by omega)]; exact h3 _ (by omega)) | rw [if_neg (by omega)]
            · try simp (disch := omega) only [stt_j]
              exact h2 p p0 (by omega)
          · try simp (disch := omega) only [stt_j]
            exact h3 p (by omega)
          · try simp (disch := omega) only [stt_kr]
            exact h4 k hk
        · refine R_aload_n fX2_sharePot_35 rfl ?_
          refine R_getP 5 fX2_sharePot_36 hO.2.1 hO.1 rfl rfl rfl hO.2.2.2.2.2 ?_
          refine R_iload fX2_sharePot_39 rfl ?_
          refine R_iload_n fX2_sharePot_41 rfl ?_
          refine R_iastore fX2_sharePot_42 hO.2.2.2.1 (shO_3 hO 2) (by omega) ?_
          refine R_iinc fX2_sharePot_43 rfl (by omega) ?_
          refine R_goto fX2_sharePot_46 rfl ?_
          refine ih _ _ (by omega) (by omega) (fun p p0 p1 => ?_) (fun p p0 => ?_) (fun k hk => ?_) (by omega)
          · by_cases hpi : p = i
            · subst hpi
              try simp (disch := omega) only [stt_eq]
              first | (rw [if_pos (by omega)]; exact h3 _ (by omega)) | rw [if_neg (by omega)]
            · try simp (disch := omega) only [stt_j]
              exact h2 p p0 (by omega)
          · try simp (disch := omega) only [stt_j]
            exact h3 p (by omega)
          · try simp (disch := omega) only [stt_kr]
            exact h4 k hk
  refine R_iload_n fX2_sharePot_0 rfl ?_
  refine R_iconst fX2_sharePot_1 ?_
  refine R_isub fX2_sharePot_2 (by omega) ?_
  refine R_istore_n fX2_sharePot_3 rfl ?_
  refine R_iload_n fX2_sharePot_4 rfl ?_
  refine R_iconst fX2_sharePot_5 ?_
  refine R_icmp_ge fX2_sharePot_6 rfl (fun h6 => ?_) (fun h6 => absurd h6 (by omega))
  refine R_aload_n fX2_sharePot_10 rfl ?_
  refine R_getI 3 fX2_sharePot_11 hO.2.1 hO.1 rfl rfl rfl ?_
  refine R_iload_n fX2_sharePot_14 rfl ?_
  refine R_idivV fX2_sharePot_15 (by omega) (show wr (Int.tdiv (F O 3) (n - 1)) = q by rw [hq]; exact wr_id (by unfold inb; omega)) ?_
  refine R_istore_n fX2_sharePot_16 rfl ?_
  refine R_iconst fX2_sharePot_17 ?_
  refine R_istore fX2_sharePot_18 rfl ?_
  exact lp 5 0 F (by omega) (by omega) (fun p p0 p1 => by omega) (fun p _ => rfl) (fun _ _ => rfl) (by omega)
theorem sp_coinsBehind {d : Nat} {kd : KL} {F : FM} {P : PM} {O B : Nat} {p : Int} (hd : 1 ≤ d) (hO : shO kd P O) (hS : shS kd P B) (hp : 0 ≤ p ∧ p < 4) (hb : -1000000 ≤ F (B + 1) p ∧ F (B + 1) p ≤ 1000000 ∧ -1000000 ≤ F (O + 1) p ∧ F (O + 1) p ≤ 1000000 ∧ -1000000 ≤ F (O + 2) p ∧ F (O + 2) p ≤ 1000000) : Sp d 15 [.inr (some O), .inr (some B), .inl p] kd F P (QE kd F P (F (B + 1) p - F (O + 1) p + F (O + 2) p)) := by
  refine Sp_of (me := mX2_coinsBehind) (by omega) pX2_coinsBehind ⟨rfl, Nat.le_of_ble_eq_true rfl⟩ ?_
  refine R_aload_n fX2_coinsBehind_0 rfl ?_
  refine R_getP 7 fX2_coinsBehind_1 (shS_k0 hS) (shS_3 hS 0) rfl rfl rfl (shS_p7 hS) ?_
  refine R_iload_n fX2_coinsBehind_4 rfl ?_
  refine R_iaload fX2_coinsBehind_5 (shS_k1 hS) (by omega) ?_
  refine R_aload_n fX2_coinsBehind_6 rfl ?_
  refine R_getP 4 fX2_coinsBehind_7 hO.2.1 hO.1 rfl rfl rfl hO.2.2.2.2.1 ?_
  refine R_iload_n fX2_coinsBehind_10 rfl ?_
  refine R_iaload fX2_coinsBehind_11 hO.2.2.1 (by omega) ?_
  refine R_isub fX2_coinsBehind_12 (by omega) ?_
  refine R_aload_n fX2_coinsBehind_13 rfl ?_
  refine R_getP 5 fX2_coinsBehind_14 hO.2.1 hO.1 rfl rfl rfl hO.2.2.2.2.2 ?_
  refine R_iload_n fX2_coinsBehind_17 rfl ?_
  refine R_iaload fX2_coinsBehind_18 hO.2.2.2.1 (by omega) ?_
  refine R_iadd fX2_coinsBehind_19 (by omega) ?_
  refine R_ireturn fX2_coinsBehind_20 rfl ?_
  rfl
theorem sp_work {d : Nat} {kd : KL} {F : FM} {P : PM} {O A B : Nat} {s : Int → Int} (hd : 4 ≤ d) (hO : shO kd P O) (hS : shS kd P B) (hA : kd[A]? = some (0, 4)) (hA3 : 3 ≤ A) (hAO : A < O ∨ O + 3 ≤ A) (hBO : B + 16 ≤ O ∨ O + 3 ≤ B) (hR : Rel B F s) (hw : WF s) (hf : ∀ p, 0 ≤ p → p < s 0 → 0 ≤ F A p ∧ F A p ≤ 120) : Sp d 11 [.inr (some O), .inr (some B), .inr (some A)] kd F P (QN kd P (fun F' => F' O 0 = winF (F A) (s 0).toNat ∧ F' O 1 = grF (F A) (s 0).toNat ∧ F' O 2 = cnF (F A) (grF (F A) (s 0).toNat) (s 0).toNat ∧ F' O 3 = potF (F A) (s 0).toNat (s 1) (s 26) (s 27) - partF (F A) (s 0).toNat (s 1) (s 26) (s 27) (s 28) * (s 0 - 1) ∧ (∀ p, 0 ≤ p → p < s 0 → F' (O + 1) p = feeF (F A) (s 0).toNat (s 26) (s 27) p ∧ F' (O + 2) p = gotF (F A) (s 0).toNat (s 1) (s 26) (s 27) (s 28) p) ∧ ∀ k, (k < O ∨ O + 3 ≤ k) → F' k = F k)) := by
  refine Sp_of (me := mX2_work) (by omega) pX2_work ⟨rfl, Nat.le_of_ble_eq_true rfl⟩ ?_
  obtain ⟨w0, w1, w2, w3, w4, w5, w6, w7, w8, w9, w10, w11, w12, w13⟩ := id hw
  have hfee : ∀ p, 0 ≤ p → p < s 0 → 0 ≤ feeF (F A) (s 0).toNat (s 26) (s 27) p ∧ feeF (F A) (s 0).toNat (s 26) (s 27) p ≤ 120 := fun p p0 p1 => by
    have h1 := feeF_b (f := F A) (n := (s 0).toNat) (tie := s 26) (oth := s 27) (p := p) (hf p p0 p1).1 (by omega) (by omega)
    have h2 := (hf p p0 p1).2
    omega
  have hpot := sg_bound (f := feeF (F A) (s 0).toNat (s 26) (s 27)) (a := 0) (b := 120) (n := (s 0).toNat) (fun i h0 h1 => hfee i h0 (by omega))
  have hpot2 : 0 ≤ s 1 ∧ s 1 ≤ 120 := by
    have h3 := sg_bound (f := fun p => s (126 + 6 * p)) (a := 0) (b := 120) (n := (s 0).toNat) (fun i h0 h1 => ⟨(w3 i h0 (by omega)).1, (w3 i h0 (by omega)).2.1⟩)
    omega
  have lp : ∀ (N : Nat) (i : Int) (G : FM), 0 ≤ i → i ≤ s 0 → (G O 0 = winF (F A) (s 0).toNat ∧ G O 1 = grF (F A) (s 0).toNat ∧ G O 2 = cnF (F A) (grF (F A) (s 0).toNat) (s 0).toNat ∧ G O 3 = s 1 + sg (feeF (F A) (s 0).toNat (s 26) (s 27)) i.toNat) → (∀ p, 0 ≤ p → p < i → G (O + 1) p = feeF (F A) (s 0).toNat (s 26) (s 27) p ∧ G (O + 2) p = 0) → (∀ k, (k < O ∨ O + 3 ≤ k) → G k = F k) → s 0 - i < N → Rn (d - 1) mX2_work 19 [some (.inr (some O)), some (.inr (some B)), some (.inr (some A)), some (.inl i)] [] kd G P (QN kd P (fun F' => F' O 0 = winF (F A) (s 0).toNat ∧ F' O 1 = grF (F A) (s 0).toNat ∧ F' O 2 = cnF (F A) (grF (F A) (s 0).toNat) (s 0).toNat ∧ F' O 3 = potF (F A) (s 0).toNat (s 1) (s 26) (s 27) - partF (F A) (s 0).toNat (s 1) (s 26) (s 27) (s 28) * (s 0 - 1) ∧ (∀ p, 0 ≤ p → p < s 0 → F' (O + 1) p = feeF (F A) (s 0).toNat (s 26) (s 27) p ∧ F' (O + 2) p = gotF (F A) (s 0).toNat (s 1) (s 26) (s 27) (s 28) p) ∧ ∀ k, (k < O ∨ O + 3 ≤ k) → F' k = F k)) := by
    intro N
    induction N with
    | zero => intro i G h0 h1 h2 h3 h4 h5; omega
    | succ N ih =>
      intro i G h0 h1 h2 h3 h4 h5
      obtain ⟨g0, g1, g2, g3⟩ := id h2
      have hRG : Rel B G s := Rel_frame hR (fun k k0 k1 => h4 k (by omega))
      obtain ⟨r0, r1, r2, r3, r4, r5, r6, rp, rse, rt, rl, rg1, rg2, rg, rn, rr⟩ := id hRG
      have hGA : G A = F A := h4 A hAO
      have hsgb := sg_bound (f := feeF (F A) (s 0).toNat (s 26) (s 27)) (a := 0) (b := 120) (n := i.toNat) (fun i h0 h1 => hfee i h0 (by omega))
      refine R_iload_n fX2_work_19 rfl ?_
      refine R_aload_n fX2_work_20 rfl ?_
      refine R_getI 0 fX2_work_21 (shS_k0 hS) (shS_3 hS 0) rfl rfl rfl ?_
      refine R_icmp_ge fX2_work_24 rfl (fun h24 => ?_) (fun h24 => ?_)
      · refine R_aload_n fX2_work_73 rfl ?_
        refine R_getI 0 fX2_work_74 hO.2.1 hO.1 rfl rfl rfl ?_
        have hi : i = s 0 := by omega
        subst hi
        refine R_iconst fX2_work_77 ?_
        refine R_icmp_eq fX2_work_78 rfl (fun h78 => ?_) (fun h78 => ?_)
        · first
          | (have hpart : partF (F A) (s 0).toNat (s 1) (s 26) (s 27) (s 28) = 0 := by
               unfold partF
               first | rw [if_neg (fun z => z.1 (by rw [← g0]; exact h78))] | rw [if_neg (fun z => h88 (by rw [rse 2 (by omega) (by omega)]; exact z.2))]
             refine R_return fX2_work_99 rfl ⟨_, rfl, g0, g1, g2, ?_, fun p p0 p1 => ⟨(h3 p p0 p1).1, ?_⟩, h4⟩
             · rw [hpart, g3]; unfold potF; omega
             · rw [(h3 p p0 p1).2]; unfold gotF; rw [hpart]; split <;> rfl)
          | (have hpart : partF (F A) (s 0).toNat (s 1) (s 26) (s 27) (s 28) = Int.tdiv (G O 3) (s 0 - 1) := by
               unfold partF
               rw [if_pos ⟨by rw [← g0]; exact h78, by rw [← h88, rse 2 (by omega) (by omega)]; rfl⟩, g3, toC h0]
               rfl
             rw [r0] at hq
             obtain ⟨q1, q2, q3, q4⟩ := hq
             refine R_return fX2_work_99 rfl ⟨_, rfl, ?_, ?_, ?_, ?_, fun p p0 p1 => ⟨?_, ?_⟩, fun k hk => ?_⟩
             · rw [q3 0 (by omega)]; exact g0
             · rw [q3 1 (by omega)]; exact g1
             · rw [q3 2 (by omega)]; exact g2
             · rw [q2, hpart, g3]; rfl
             · rw [q4 (O + 1) (by omega) (by omega)]; exact (h3 p p0 p1).1
             · rw [q1 p p0 p1, (h3 p p0 p1).2, g0, ← hpart]; rfl
             · rw [q4 k (by omega) (by omega)]; exact h4 k hk)
        · refine R_aload_n fX2_work_81 rfl ?_
          refine R_getP 13 fX2_work_82 (shS_k0 hS) (shS_3 hS 0) rfl rfl rfl (shS_p13 hS) ?_
          refine R_iconst fX2_work_85 ?_
          refine R_iaload fX2_work_86 (shS_k7 hS) (by omega) ?_
          refine R_iconst fX2_work_87 ?_
          refine R_icmp_ne fX2_work_88 rfl (fun h88 => ?_) (fun h88 => ?_)
          · first
            | (have hpart : partF (F A) (s 0).toNat (s 1) (s 26) (s 27) (s 28) = 0 := by
                 unfold partF
                 first | rw [if_neg (fun z => z.1 (by rw [← g0]; exact h78))] | rw [if_neg (fun z => h88 (by rw [rse 2 (by omega) (by omega)]; exact z.2))]
               refine R_return fX2_work_99 rfl ⟨_, rfl, g0, g1, g2, ?_, fun p p0 p1 => ⟨(h3 p p0 p1).1, ?_⟩, h4⟩
               · rw [hpart, g3]; unfold potF; omega
               · rw [(h3 p p0 p1).2]; unfold gotF; rw [hpart]; split <;> rfl)
            | (have hpart : partF (F A) (s 0).toNat (s 1) (s 26) (s 27) (s 28) = Int.tdiv (G O 3) (s 0 - 1) := by
                 unfold partF
                 rw [if_pos ⟨by rw [← g0]; exact h78, by rw [← h88, rse 2 (by omega) (by omega)]; rfl⟩, g3, toC h0]
                 rfl
               rw [r0] at hq
               obtain ⟨q1, q2, q3, q4⟩ := hq
               refine R_return fX2_work_99 rfl ⟨_, rfl, ?_, ?_, ?_, ?_, fun p p0 p1 => ⟨?_, ?_⟩, fun k hk => ?_⟩
               · rw [q3 0 (by omega)]; exact g0
               · rw [q3 1 (by omega)]; exact g1
               · rw [q3 2 (by omega)]; exact g2
               · rw [q2, hpart, g3]; rfl
               · rw [q4 (O + 1) (by omega) (by omega)]; exact (h3 p p0 p1).1
               · rw [q1 p p0 p1, (h3 p p0 p1).2, g0, ← hpart]; rfl
               · rw [q4 k (by omega) (by omega)]; exact h4 k hk)
          · refine R_aload_n fX2_work_91 rfl ?_
            refine R_aload_n fX2_work_92 rfl ?_
            refine R_getI 0 fX2_work_93 (shS_k0 hS) (shS_3 hS 0) rfl rfl rfl ?_
            refine R_callN fX2_work_96 rfl rfl pX2_sharePot rfl ⟨Nat.le_of_ble_eq_true rfl, rcv_v rfl hO.1 hO.2.1⟩ (sp_sharePot (by omega) hO ⟨by omega, by omega⟩ ⟨by rw [g3]; omega, by rw [g3]; omega⟩) (fun F' hq => ?_)
            first
            | (have hpart : partF (F A) (s 0).toNat (s 1) (s 26) (s 27) (s 28) = 0 := by
                 unfold partF
                 first | rw [if_neg (fun z => z.1 (by rw [← g0]; exact h78))] | rw [if_neg (fun z => h88 (by rw [rse 2 (by omega) (by omega)]; exact z.2))]
               refine R_return fX2_work_99 rfl ⟨_, rfl, g0, g1, g2, ?_, fun p p0 p1 => ⟨(h3 p p0 p1).1, ?_⟩, h4⟩
               · rw [hpart, g3]; unfold potF; omega
               · rw [(h3 p p0 p1).2]; unfold gotF; rw [hpart]; split <;> rfl)
            | (have hpart : partF (F A) (s 0).toNat (s 1) (s 26) (s 27) (s 28) = Int.tdiv (G O 3) (s 0 - 1) := by
                 unfold partF
                 rw [if_pos ⟨by rw [← g0]; exact h78, by rw [← h88, rse 2 (by omega) (by omega)]; rfl⟩, g3, toC h0]
                 rfl
               rw [r0] at hq
               obtain ⟨q1, q2, q3, q4⟩ := hq
               refine R_return fX2_work_99 rfl ⟨_, rfl, ?_, ?_, ?_, ?_, fun p p0 p1 => ⟨?_, ?_⟩, fun k hk => ?_⟩
               · rw [q3 0 (by omega)]; exact g0
               · rw [q3 1 (by omega)]; exact g1
               · rw [q3 2 (by omega)]; exact g2
               · rw [q2, hpart, g3]; rfl
               · rw [q4 (O + 1) (by omega) (by omega)]; exact (h3 p p0 p1).1
               · rw [q1 p p0 p1, (h3 p p0 p1).2, g0, ← hpart]; rfl
               · rw [q4 k (by omega) (by omega)]; exact h4 k hk)
      · have hfi := hfee i h0 (by omega)
        refine R_aload_n fX2_work_27 rfl ?_
        refine R_getP 4 fX2_work_28 hO.2.1 hO.1 rfl rfl rfl hO.2.2.2.2.1 ?_
        refine R_iload_n fX2_work_31 rfl ?_
        refine R_aload_n fX2_work_32 rfl ?_
        refine R_aload_n fX2_work_33 rfl ?_
        refine R_getP 13 fX2_work_34 (shS_k0 hS) (shS_3 hS 0) rfl rfl rfl (shS_p13 hS) ?_
        refine R_iload_n fX2_work_37 rfl ?_
        refine R_aload_n fX2_work_38 rfl ?_
        refine R_iload_n fX2_work_39 rfl ?_
        refine R_iaload fX2_work_40 hA (by omega) ?_
        refine R_callE fX2_work_41 rfl rfl pX2_payment rfl ⟨Nat.le_of_ble_eq_true rfl, rcv_v rfl hO.1 hO.2.1⟩ (sp_payment (by omega) hO (shS_k7 hS)) ?_
        rw [show (if i = G O 0 then G A i else if G O 0 ≠ -1 then (if G A i < G (B + 7) 1 then G A i else G (B + 7) 1) else if G A i = G O 1 then (if G A i < G (B + 7) 0 then G A i else G (B + 7) 0) else 0) = feeF (F A) (s 0).toNat (s 26) (s 27) i by
          rw [hGA, g0, g1, rse 0 (by omega) (by omega), rse 1 (by omega) (by omega)]; rfl]
        refine R_iastore fX2_work_44 hO.2.2.1 (shO_3 hO 1) (by omega) ?_
        refine R_aload_n fX2_work_45 rfl ?_
        refine R_getP 5 fX2_work_46 hO.2.1 hO.1 rfl rfl rfl hO.2.2.2.2.2 ?_
        refine R_iload_n fX2_work_49 rfl ?_
        refine R_iconst fX2_work_50 ?_
        refine R_iastore fX2_work_51 hO.2.2.2.1 (shO_3 hO 2) (by omega) ?_
        refine R_aload_n fX2_work_52 rfl ?_
        refine R_dup fX2_work_53 ?_
        refine R_getI 3 fX2_work_54 hO.2.1 hO.1 rfl rfl rfl ?_
        refine R_aload_n fX2_work_57 rfl ?_
        refine R_getP 4 fX2_work_58 hO.2.1 hO.1 rfl rfl rfl hO.2.2.2.2.1 ?_
        refine R_iload_n fX2_work_61 rfl ?_
        refine R_iaload fX2_work_62 hO.2.2.1 (by omega) ?_
        refine R_iadd fX2_work_63 (by simp (disch := omega) only [stt_k, stt_eq]; rw [g3]; omega) ?_
        refine R_putI 3 fX2_work_64 hO.2.1 hO.1 rfl rfl rfl ?_
        refine R_iinc fX2_work_67 rfl (by omega) ?_
        refine R_goto fX2_work_70 rfl ?_
        refine ih _ _ (by omega) (by omega) ⟨?_, ?_, ?_, ?_⟩ (fun p p0 p1 => ?_) (fun k hk => ?_) (by omega)
        · simp (disch := omega) only [stt_k, stt_j]; exact g0
        · simp (disch := omega) only [stt_k, stt_j]; exact g1
        · simp (disch := omega) only [stt_k, stt_j]; exact g2
        · simp (disch := omega) only [stt_k, stt_eq]; rw [g3, sg_s h0]; omega
        · by_cases hpi : p = i
          · subst hpi
            simp (disch := omega) only [stt_k, stt_eq]
            first | exact ⟨rfl, rfl⟩ | exact ⟨trivial, trivial⟩
          · simp (disch := omega) only [stt_k, stt_j]
            exact h3 p p0 (by omega)
        · simp (disch := omega) only [stt_kr]
          exact h4 k hk
  obtain ⟨r0, r1, r2, r3, r4, r5, r6, rp, rse, rt, rl, rg1, rg2, rg, rn, rr⟩ := id hR
  refine R_aload_n fX2_work_0 rfl ?_
  refine R_aload_n fX2_work_1 rfl ?_
  refine R_getI 0 fX2_work_2 (shS_k0 hS) (shS_3 hS 0) rfl rfl rfl ?_
  refine R_aload_n fX2_work_5 rfl ?_
  refine R_callN fX2_work_6 rfl rfl pX2_findWinner rfl ⟨Nat.le_of_ble_eq_true rfl, rcv_v rfl hO.1 hO.2.1⟩ (sp_findWinner (by omega) hO hA (by omega) ⟨by omega, by omega⟩ (fun p p0 p1 => hf p p0 (by omega))) (fun F1 hq => ?_)
  rw [r0] at hq
  obtain ⟨q0, q1, q2, q3⟩ := hq
  have hq1 := congrFun (q3 B (by omega)) 1
  refine R_aload_n fX2_work_9 rfl ?_
  refine R_aload_n fX2_work_10 rfl ?_
  refine R_getI 1 fX2_work_11 (shS_k0 hS) (shS_3 hS 0) rfl rfl rfl ?_
  refine R_putI 3 fX2_work_14 hO.2.1 hO.1 rfl rfl rfl ?_
  refine R_iconst fX2_work_17 ?_
  refine R_istore_n fX2_work_18 rfl ?_
  refine lp 5 0 _ (by omega) (by omega) ⟨?_, ?_, ?_, ?_⟩ (fun p p0 p1 => by omega) (fun k hk => ?_) (by omega)
  · simp (disch := omega) only [stt_j]; exact q0
  · simp (disch := omega) only [stt_j]; exact q1
  · simp (disch := omega) only [stt_j]; exact q2
  · simp (disch := omega) only [stt_eq]; rw [hq1, r1]; simp [sg]
  · simp (disch := omega) only [stt_kr]; exact q3 k (by omega)
