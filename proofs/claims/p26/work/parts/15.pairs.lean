/-- the first place of a pair from k on, n places on at the most -/
def ixN (a b : Int → Int) (p q k : Int) : Nat → Int
  | 0 => k
  | n + 1 => if a k = p ∧ b k = q then k else ixN a b p q (k + 1) n
theorem ixN_congr {a b a' b' : Int → Int} {p q : Int} : ∀ {n : Nat} {k : Int}, (∀ i, k ≤ i → i < k + n → a i = a' i ∧ b i = b' i) → ixN a b p q k n = ixN a' b' p q k n
  | 0, _, _ => rfl
  | n + 1, k, h => by
    obtain ⟨h1, h2⟩ := h k (by omega) (by omega)
    unfold ixN
    rw [h1, h2, ixN_congr (n := n) (fun i h0 h1 => h i (by omega) (by omega))]
theorem ixN_in {a b : Int → Int} {p q : Int} : ∀ {n : Nat} {k : Int}, k ≤ ixN a b p q k n ∧ ixN a b p q k n ≤ k + n
  | 0, k => by unfold ixN; omega
  | n + 1, k => by
    have h := ixN_in (a := a) (b := b) (p := p) (q := q) (n := n) (k := k + 1)
    unfold ixN
    split <;> omega
theorem ixN_hit {a b : Int → Int} {p q : Int} : ∀ {n : Nat} {k : Int}, ixN a b p q k n < k + n → a (ixN a b p q k n) = p ∧ b (ixN a b p q k n) = q
  | 0, k, h => by unfold ixN at h; omega
  | n + 1, k, h => by
    unfold ixN at h ⊢
    split
    · next hc => exact hc
    · next hc =>
      rw [if_neg hc] at h
      exact ixN_hit (by omega)
theorem ixN_miss {a b : Int → Int} {p q : Int} : ∀ {n : Nat} {k i : Int}, k ≤ i → i < ixN a b p q k n → ¬ (a i = p ∧ b i = q)
  | 0, k, i, h0, h => by unfold ixN at h; omega
  | n + 1, k, i, h0, h => by
    unfold ixN at h
    split at h
    · omega
    · next hc =>
      by_cases hk : i = k
      · subst hk; exact hc
      · exact ixN_miss (n := n) (by omega) h
theorem ixN_t {a b : Int → Int} {p q k : Int} {n : Nat} (h : a k = p ∧ b k = q) : ixN a b p q k (n + 1) = k := by
  unfold ixN
  rw [if_pos h]
theorem ixN_f {a b : Int → Int} {p q k : Int} {n : Nat} (h : ¬ (a k = p ∧ b k = q)) : ixN a b p q k (n + 1) = ixN a b p q (k + 1) n := by
  rw [ixN, if_neg h]
def ixS (t : Int → Int) (p q : Int) : Int := ixN (fun i => t (151 + 4 * i)) (fun i => t (151 + 4 * i + 1)) p q 0 (t 150).toNat
def notesS (t : Int → Int) (p b won : Int) : Int → Int := fun j =>
  if j = 151 + 4 * ixS t p b then p else if j = 151 + 4 * ixS t p b + 1 then b else if j = 151 + 4 * ixS t p b + 2 then wr ((if ixS t p b = t 150 then 0 else t j) + 1) else if j = 151 + 4 * ixS t p b + 3 then wr ((if ixS t p b = t 150 then 0 else t j) + won) else if j = 150 then (if ixS t p b = t 150 then t 150 + 1 else t 150) else t j
theorem nS_150 {t : Int → Int} {p b won : Int} (h : 0 ≤ ixS t p b) : notesS t p b won 150 = if ixS t p b = t 150 then t 150 + 1 else t 150 := by
  unfold notesS
  rw [if_neg (by omega), if_neg (by omega), if_neg (by omega), if_neg (by omega), if_pos rfl]
theorem nS_0 {t : Int → Int} {p b won i : Int} (h : i = ixS t p b) : notesS t p b won (151 + 4 * i) = p := by
  unfold notesS
  rw [if_pos (by omega)]
theorem nS_1 {t : Int → Int} {p b won i : Int} (h : i = ixS t p b) : notesS t p b won (151 + 4 * i + 1) = b := by
  unfold notesS
  rw [if_neg (by omega), if_pos (by omega)]
theorem nS_2 {t : Int → Int} {p b won i : Int} (h : i = ixS t p b) : notesS t p b won (151 + 4 * i + 2) = wr ((if ixS t p b = t 150 then 0 else t (151 + 4 * i + 2)) + 1) := by
  unfold notesS
  rw [if_neg (by omega), if_neg (by omega), if_pos (by omega)]
theorem nS_3 {t : Int → Int} {p b won i : Int} (h : i = ixS t p b) : notesS t p b won (151 + 4 * i + 3) = wr ((if ixS t p b = t 150 then 0 else t (151 + 4 * i + 3)) + won) := by
  unfold notesS
  rw [if_neg (by omega), if_neg (by omega), if_neg (by omega), if_pos (by omega)]
theorem nS_o {t : Int → Int} {p b won j : Int} (h : j ≠ 150) (h2 : j < 151 + 4 * ixS t p b ∨ 151 + 4 * ixS t p b + 4 ≤ j) : notesS t p b won j = t j := by
  unfold notesS
  rw [if_neg (by omega), if_neg (by omega), if_neg (by omega), if_neg (by omega), if_neg h]
/-- the pairs of the class's state -/
def RelN (B : Nat) (F : FM) (s : Int → Int) : Prop := F (B + 11) 4 = s 150 ∧ ∀ i, 0 ≤ i → i < s 150 → F (B + 12) i = s (151 + 4 * i) ∧ F (B + 13) i = s (151 + 4 * i + 1) ∧ F (B + 14) i = s (151 + 4 * i + 2) ∧ F (B + 15) i = s (151 + 4 * i + 3)
theorem ixS_rel {B : Nat} {F : FM} {t : Int → Int} {p q : Int} (h : RelN B F t) : ixN (F (B + 12)) (F (B + 13)) p q 0 (t 150).toNat = ixS t p q := ixN_congr (fun i h0 h1 => ⟨(h.2 i h0 (by omega)).1, (h.2 i h0 (by omega)).2.1⟩)
theorem sp_indexOf {d : Nat} {kd : KL} {F : FM} {P : PM} {B : Nat} {t : Int → Int} {p q : Int} (hd : 1 ≤ d) (hS : shS kd P B) (hR : RelN B F t) (hb : 0 ≤ t 150 ∧ t 150 ≤ 484) : Sp d 20 [.inr (some (B + 11)), .inl p, .inl q] kd F P (QE kd F P (ixS t p q)) := by
  refine Sp_of (me := mX3_indexOf) (by omega) pX3_indexOf ⟨rfl, Nat.le_of_ble_eq_true rfl⟩ ?_
  rw [← ixS_rel hR]
  have h150 := hR.1
  have lp : ∀ (n : Nat) (i : Int), 0 ≤ i → i ≤ t 150 → ixN (F (B + 12)) (F (B + 13)) p q 0 (t 150).toNat = ixN (F (B + 12)) (F (B + 13)) p q i (t 150 - i).toNat → t 150 - i < n → Rn (d - 1) mX3_indexOf 2 [some (.inr (some (B + 11))), some (.inl p), some (.inl q), some (.inl i)] [] kd F P (QE kd F P (ixN (F (B + 12)) (F (B + 13)) p q 0 (t 150).toNat)) := by
    intro n
    induction n with
    | zero => intro i h0 h1 h2 h5; omega
    | succ n ih =>
      intro i h0 h1 h2 h5
      refine R_iload_n fX3_indexOf_2 rfl ?_
      refine R_aload_n fX3_indexOf_3 rfl ?_
      refine R_getI 4 fX3_indexOf_4 (shS_k11 hS) (shS_3 hS 11) rfl rfl rfl ?_
      refine R_icmp_ge fX3_indexOf_7 rfl (fun h7 => ?_) (fun h7 => ?_)
      · refine R_aload_n fX3_indexOf_38 rfl ?_
        refine R_getI 4 fX3_indexOf_39 (shS_k11 hS) (shS_3 hS 11) rfl rfl rfl ?_
        refine R_ireturn fX3_indexOf_42 rfl ?_
        simp only [QE]; rw [h2, h150, show (t 150 - i).toNat = 0 by omega]; unfold ixN; rw [show i = t 150 by omega]
      · have hn : (t 150 - i).toNat = (t 150 - (i + 1)).toNat + 1 := by omega
        refine R_aload_n fX3_indexOf_10 rfl ?_
        refine R_getP 0 fX3_indexOf_11 (shS_k11 hS) (shS_3 hS 11) rfl rfl rfl (shS_r0 hS) ?_
        refine R_iload_n fX3_indexOf_14 rfl ?_
        refine R_iaload fX3_indexOf_15 (shS_k12 hS) (by omega) ?_
        refine R_iload_n fX3_indexOf_16 rfl ?_
        refine R_icmp_ne fX3_indexOf_17 rfl (fun h17 => ?_) (fun h17 => ?_)
        · refine R_iinc fX3_indexOf_32 rfl (by omega) ?_
          refine R_goto fX3_indexOf_35 rfl ?_
          refine ih _ (by omega) (by omega) ?_ (by omega)
          rw [h2, hn, ixN_f (fun z => by first | exact h17 z.1 | exact h27 z.2)]
        · refine R_aload_n fX3_indexOf_20 rfl ?_
          refine R_getP 1 fX3_indexOf_21 (shS_k11 hS) (shS_3 hS 11) rfl rfl rfl (shS_r1 hS) ?_
          refine R_iload_n fX3_indexOf_24 rfl ?_
          refine R_iaload fX3_indexOf_25 (shS_k13 hS) (by omega) ?_
          refine R_iload_n fX3_indexOf_26 rfl ?_
          refine R_icmp_ne fX3_indexOf_27 rfl (fun h27 => ?_) (fun h27 => ?_)
          · refine R_iinc fX3_indexOf_32 rfl (by omega) ?_
            refine R_goto fX3_indexOf_35 rfl ?_
            refine ih _ (by omega) (by omega) ?_ (by omega)
            rw [h2, hn, ixN_f (fun z => by first | exact h17 z.1 | exact h27 z.2)]
          · refine R_iload_n fX3_indexOf_30 rfl ?_
            refine R_ireturn fX3_indexOf_31 rfl ?_
            simp only [QE]; rw [h2, hn, ixN_t ⟨h17, h27⟩]
  refine R_iconst fX3_indexOf_0 ?_
  refine R_istore_n fX3_indexOf_1 rfl ?_
  exact lp 500 0 (by omega) (by omega) (by rw [Int.sub_zero]) (by omega)
theorem sp_note {d : Nat} {kd : KL} {F : FM} {P : PM} {B : Nat} {t : Int → Int} {p b won : Int} (hd : 2 ≤ d) (hS : shS kd P B) (hR : RelN B F t) (hb : 0 ≤ t 150 ∧ t 150 ≤ 484) (hnew : ixS t p b = t 150 → t 150 < 484) (hwon : won = 0 ∨ won = 1) (hin : ∀ j, inb (t j)) : Sp d 19 [.inr (some (B + 11)), .inl p, .inl b, .inl won] kd F P (QN kd P (fun F' => RelN B F' (notesS t p b won) ∧ ∀ k, (k < B + 11 ∨ B + 16 ≤ k) → F' k = F k)) := by
  refine Sp_of (me := mX3_note) (by omega) pX3_note ⟨rfl, Nat.le_of_ble_eq_true rfl⟩ ?_
  have h150 := hR.1
  have hx : 0 ≤ ixS t p b ∧ ixS t p b ≤ t 150 := by
    have h := ixN_in (a := fun i => t (151 + 4 * i)) (b := fun i => t (151 + 4 * i + 1)) (p := p) (q := b) (n := (t 150).toNat) (k := 0)
    unfold ixS
    omega
  have hhit : ixS t p b < t 150 → t (151 + 4 * ixS t p b) = p ∧ t (151 + 4 * ixS t p b + 1) = b := fun h => ixN_hit (a := fun i => t (151 + 4 * i)) (b := fun i => t (151 + 4 * i + 1)) (by unfold ixS at h; omega)
  have hrr := hR.2
  refine R_aload_n fX3_note_0 rfl ?_
  refine R_iload_n fX3_note_1 rfl ?_
  refine R_iload_n fX3_note_2 rfl ?_
  refine R_callE fX3_note_3 rfl rfl pX3_indexOf rfl ⟨Nat.le_of_ble_eq_true rfl, rcv_v rfl (shS_3 hS 11) (shS_k11 hS)⟩ (sp_indexOf (by omega) hS hR hb) ?_
  refine R_istore fX3_note_6 rfl ?_
  refine R_iload fX3_note_8 rfl ?_
  refine R_sipush fX3_note_10 ?_
  refine R_icmp_lt fX3_note_13 rfl (fun h13 => ?_) (fun h13 => ?_)
  · refine R_iload fX3_note_17 rfl ?_
    refine R_aload_n fX3_note_19 rfl ?_
    refine R_getI 4 fX3_note_20 (shS_k11 hS) (shS_3 hS 11) rfl rfl rfl ?_
    refine R_icmp_ne fX3_note_23 rfl (fun h23 => ?_) (fun h23 => ?_)
    · refine R_aload_n fX3_note_68 rfl ?_
      refine R_getP 2 fX3_note_69 (shS_k11 hS) (shS_3 hS 11) rfl rfl rfl (shS_r2 hS) ?_
      refine R_iload fX3_note_72 rfl ?_
      refine R_dup2 fX3_note_74 ?_
      refine R_iaload fX3_note_75 (shS_k14 hS) (by omega) ?_
      refine R_iconst fX3_note_76 ?_
      refine R_iaddV fX3_note_77 (rfl) ?_
      refine R_iastore fX3_note_78 (shS_k14 hS) (shS_3 hS 14) (by omega) ?_
      refine R_iload_n fX3_note_79 rfl ?_
      refine R_if_eq fX3_note_80 rfl (fun h80 => ?_) (fun h80 => ?_)
      · refine R_return fX3_note_94 rfl ?_
        first
        | (have hXn : ixS t p b = t 150 := by omega
           refine ⟨_, rfl, ⟨?_, fun i i0 i1 => ?_⟩, ?_⟩
           · rw [nS_150 hx.1]
             simp (disch := omega) only [stt_k, stt_j, stt_eq]
             first | (rw [if_pos (by omega)]; omega) | (rw [if_neg (by omega)]; omega)
           · rw [nS_150 hx.1] at i1
             by_cases hiX : i = ixS t p b
             · rw [nS_0 hiX, nS_1 hiX, nS_2 hiX, nS_3 hiX]
               simp (disch := omega) only [stt_k, stt_j, stt_eq]
               rw [if_pos hXn, if_pos hXn]
               rw [hiX]
               simp (disch := omega) only [stt_k, stt_j, stt_eq]
               rcases hwon with hwon | hwon <;> subst hwon <;> first | (exfalso; omega) | (refine ⟨?_, ?_, ?_, ?_⟩ <;> first | rfl | trivial)
             · rw [nS_o (by omega) (by omega), nS_o (by omega) (by omega), nS_o (by omega) (by omega), nS_o (by omega) (by omega)]
               simp (disch := omega) only [stt_k, stt_j, stt_eq]
               exact hrr i i0 (by split at i1 <;> omega)
           · intro k hk
             funext j
             simp (disch := omega) only [stt_k])
        | (have hXn : ¬ ixS t p b = t 150 := by omega
           refine ⟨_, rfl, ⟨?_, fun i i0 i1 => ?_⟩, ?_⟩
           · rw [nS_150 hx.1]
             simp (disch := omega) only [stt_k, stt_j, stt_eq]
             first | (rw [if_pos (by omega)]; omega) | (rw [if_neg (by omega)]; omega)
           · rw [nS_150 hx.1] at i1
             by_cases hiX : i = ixS t p b
             · rw [nS_0 hiX, nS_1 hiX, nS_2 hiX, nS_3 hiX]
               simp (disch := omega) only [stt_k, stt_j, stt_eq]
               rw [if_neg hXn, if_neg hXn]
               have h4 := hrr i i0 (by omega)
               have h5 := hhit (by omega)
               rw [hiX] at h4 ⊢
               simp (disch := omega) only [stt_k, stt_j, stt_eq]
               rw [h4.1, h4.2.1, h4.2.2.1, h4.2.2.2, h5.1, h5.2]
               rcases hwon with hwon | hwon <;> subst hwon <;> first | (exfalso; omega) | exact ⟨rfl, rfl, rfl, rfl⟩ | exact ⟨rfl, rfl, rfl, by rw [Int.add_zero, wr_id (hin _)]⟩ | simp [wr_id (hin _)]
             · rw [nS_o (by omega) (by omega), nS_o (by omega) (by omega), nS_o (by omega) (by omega), nS_o (by omega) (by omega)]
               simp (disch := omega) only [stt_k, stt_j, stt_eq]
               exact hrr i i0 (by split at i1 <;> omega)
           · intro k hk
             funext j
             simp (disch := omega) only [stt_k])
      · refine R_aload_n fX3_note_83 rfl ?_
        refine R_getP 3 fX3_note_84 (shS_k11 hS) (shS_3 hS 11) rfl rfl rfl (shS_r3 hS) ?_
        refine R_iload fX3_note_87 rfl ?_
        refine R_dup2 fX3_note_89 ?_
        refine R_iaload fX3_note_90 (shS_k15 hS) (by omega) ?_
        refine R_iconst fX3_note_91 ?_
        refine R_iaddV fX3_note_92 (rfl) ?_
        refine R_iastore fX3_note_93 (shS_k15 hS) (shS_3 hS 15) (by omega) ?_
        refine R_return fX3_note_94 rfl ?_
        first
        | (have hXn : ixS t p b = t 150 := by omega
           refine ⟨_, rfl, ⟨?_, fun i i0 i1 => ?_⟩, ?_⟩
           · rw [nS_150 hx.1]
             simp (disch := omega) only [stt_k, stt_j, stt_eq]
             first | (rw [if_pos (by omega)]; omega) | (rw [if_neg (by omega)]; omega)
           · rw [nS_150 hx.1] at i1
             by_cases hiX : i = ixS t p b
             · rw [nS_0 hiX, nS_1 hiX, nS_2 hiX, nS_3 hiX]
               simp (disch := omega) only [stt_k, stt_j, stt_eq]
               rw [if_pos hXn, if_pos hXn]
               rw [hiX]
               simp (disch := omega) only [stt_k, stt_j, stt_eq]
               rcases hwon with hwon | hwon <;> subst hwon <;> first | (exfalso; omega) | (refine ⟨?_, ?_, ?_, ?_⟩ <;> first | rfl | trivial)
             · rw [nS_o (by omega) (by omega), nS_o (by omega) (by omega), nS_o (by omega) (by omega), nS_o (by omega) (by omega)]
               simp (disch := omega) only [stt_k, stt_j, stt_eq]
               exact hrr i i0 (by split at i1 <;> omega)
           · intro k hk
             funext j
             simp (disch := omega) only [stt_k])
        | (have hXn : ¬ ixS t p b = t 150 := by omega
           refine ⟨_, rfl, ⟨?_, fun i i0 i1 => ?_⟩, ?_⟩
           · rw [nS_150 hx.1]
             simp (disch := omega) only [stt_k, stt_j, stt_eq]
             first | (rw [if_pos (by omega)]; omega) | (rw [if_neg (by omega)]; omega)
           · rw [nS_150 hx.1] at i1
             by_cases hiX : i = ixS t p b
             · rw [nS_0 hiX, nS_1 hiX, nS_2 hiX, nS_3 hiX]
               simp (disch := omega) only [stt_k, stt_j, stt_eq]
               rw [if_neg hXn, if_neg hXn]
               have h4 := hrr i i0 (by omega)
               have h5 := hhit (by omega)
               rw [hiX] at h4 ⊢
               simp (disch := omega) only [stt_k, stt_j, stt_eq]
               rw [h4.1, h4.2.1, h4.2.2.1, h4.2.2.2, h5.1, h5.2]
               rcases hwon with hwon | hwon <;> subst hwon <;> first | (exfalso; omega) | exact ⟨rfl, rfl, rfl, rfl⟩ | exact ⟨rfl, rfl, rfl, by rw [Int.add_zero, wr_id (hin _)]⟩ | simp [wr_id (hin _)]
             · rw [nS_o (by omega) (by omega), nS_o (by omega) (by omega), nS_o (by omega) (by omega), nS_o (by omega) (by omega)]
               simp (disch := omega) only [stt_k, stt_j, stt_eq]
               exact hrr i i0 (by split at i1 <;> omega)
           · intro k hk
             funext j
             simp (disch := omega) only [stt_k])
    · refine R_aload_n fX3_note_26 rfl ?_
      refine R_getP 0 fX3_note_27 (shS_k11 hS) (shS_3 hS 11) rfl rfl rfl (shS_r0 hS) ?_
      refine R_iload fX3_note_30 rfl ?_
      refine R_iload_n fX3_note_32 rfl ?_
      refine R_iastore fX3_note_33 (shS_k12 hS) (shS_3 hS 12) (by omega) ?_
      refine R_aload_n fX3_note_34 rfl ?_
      refine R_getP 1 fX3_note_35 (shS_k11 hS) (shS_3 hS 11) rfl rfl rfl (shS_r1 hS) ?_
      refine R_iload fX3_note_38 rfl ?_
      refine R_iload_n fX3_note_40 rfl ?_
      refine R_iastore fX3_note_41 (shS_k13 hS) (shS_3 hS 13) (by omega) ?_
      refine R_aload_n fX3_note_42 rfl ?_
      refine R_getP 2 fX3_note_43 (shS_k11 hS) (shS_3 hS 11) rfl rfl rfl (shS_r2 hS) ?_
      refine R_iload fX3_note_46 rfl ?_
      refine R_iconst fX3_note_48 ?_
      refine R_iastore fX3_note_49 (shS_k14 hS) (shS_3 hS 14) (by omega) ?_
      refine R_aload_n fX3_note_50 rfl ?_
      refine R_getP 3 fX3_note_51 (shS_k11 hS) (shS_3 hS 11) rfl rfl rfl (shS_r3 hS) ?_
      refine R_iload fX3_note_54 rfl ?_
      refine R_iconst fX3_note_56 ?_
      refine R_iastore fX3_note_57 (shS_k15 hS) (shS_3 hS 15) (by omega) ?_
      refine R_aload_n fX3_note_58 rfl ?_
      refine R_dup fX3_note_59 ?_
      refine R_getI 4 fX3_note_60 (shS_k11 hS) (shS_3 hS 11) rfl rfl rfl ?_
      refine R_iconst fX3_note_63 ?_
      refine R_iadd fX3_note_64 (by simp (disch := omega) only [stt_k, stt_j, stt_eq]; omega) ?_
      refine R_putI 4 fX3_note_65 (shS_k11 hS) (shS_3 hS 11) rfl rfl rfl ?_
      refine R_aload_n fX3_note_68 rfl ?_
      refine R_getP 2 fX3_note_69 (shS_k11 hS) (shS_3 hS 11) rfl rfl rfl (shS_r2 hS) ?_
      refine R_iload fX3_note_72 rfl ?_
      refine R_dup2 fX3_note_74 ?_
      refine R_iaload fX3_note_75 (shS_k14 hS) (by omega) ?_
      refine R_iconst fX3_note_76 ?_
      refine R_iaddV fX3_note_77 (rfl) ?_
      refine R_iastore fX3_note_78 (shS_k14 hS) (shS_3 hS 14) (by omega) ?_
      refine R_iload_n fX3_note_79 rfl ?_
      refine R_if_eq fX3_note_80 rfl (fun h80 => ?_) (fun h80 => ?_)
      · refine R_return fX3_note_94 rfl ?_
        first
        | (have hXn : ixS t p b = t 150 := by omega
           refine ⟨_, rfl, ⟨?_, fun i i0 i1 => ?_⟩, ?_⟩
           · rw [nS_150 hx.1]
             simp (disch := omega) only [stt_k, stt_j, stt_eq]
             first | (rw [if_pos (by omega)]; omega) | (rw [if_neg (by omega)]; omega)
           · rw [nS_150 hx.1] at i1
             by_cases hiX : i = ixS t p b
             · rw [nS_0 hiX, nS_1 hiX, nS_2 hiX, nS_3 hiX]
               simp (disch := omega) only [stt_k, stt_j, stt_eq]
               rw [if_pos hXn, if_pos hXn]
               rw [hiX]
               simp (disch := omega) only [stt_k, stt_j, stt_eq]
               rcases hwon with hwon | hwon <;> subst hwon <;> first | (exfalso; omega) | (refine ⟨?_, ?_, ?_, ?_⟩ <;> first | rfl | trivial)
             · rw [nS_o (by omega) (by omega), nS_o (by omega) (by omega), nS_o (by omega) (by omega), nS_o (by omega) (by omega)]
               simp (disch := omega) only [stt_k, stt_j, stt_eq]
               exact hrr i i0 (by split at i1 <;> omega)
           · intro k hk
             funext j
             simp (disch := omega) only [stt_k])
        | (have hXn : ¬ ixS t p b = t 150 := by omega
           refine ⟨_, rfl, ⟨?_, fun i i0 i1 => ?_⟩, ?_⟩
           · rw [nS_150 hx.1]
             simp (disch := omega) only [stt_k, stt_j, stt_eq]
             first | (rw [if_pos (by omega)]; omega) | (rw [if_neg (by omega)]; omega)
           · rw [nS_150 hx.1] at i1
             by_cases hiX : i = ixS t p b
             · rw [nS_0 hiX, nS_1 hiX, nS_2 hiX, nS_3 hiX]
               simp (disch := omega) only [stt_k, stt_j, stt_eq]
               rw [if_neg hXn, if_neg hXn]
               have h4 := hrr i i0 (by omega)
               have h5 := hhit (by omega)
               rw [hiX] at h4 ⊢
               simp (disch := omega) only [stt_k, stt_j, stt_eq]
               rw [h4.1, h4.2.1, h4.2.2.1, h4.2.2.2, h5.1, h5.2]
               rcases hwon with hwon | hwon <;> subst hwon <;> first | (exfalso; omega) | exact ⟨rfl, rfl, rfl, rfl⟩ | exact ⟨rfl, rfl, rfl, by rw [Int.add_zero, wr_id (hin _)]⟩ | simp [wr_id (hin _)]
             · rw [nS_o (by omega) (by omega), nS_o (by omega) (by omega), nS_o (by omega) (by omega), nS_o (by omega) (by omega)]
               simp (disch := omega) only [stt_k, stt_j, stt_eq]
               exact hrr i i0 (by split at i1 <;> omega)
           · intro k hk
             funext j
             simp (disch := omega) only [stt_k])
      · refine R_aload_n fX3_note_83 rfl ?_
        refine R_getP 3 fX3_note_84 (shS_k11 hS) (shS_3 hS 11) rfl rfl rfl (shS_r3 hS) ?_
        refine R_iload fX3_note_87 rfl ?_
        refine R_dup2 fX3_note_89 ?_
        refine R_iaload fX3_note_90 (shS_k15 hS) (by omega) ?_
        refine R_iconst fX3_note_91 ?_
        refine R_iaddV fX3_note_92 (rfl) ?_
        refine R_iastore fX3_note_93 (shS_k15 hS) (shS_3 hS 15) (by omega) ?_
        refine R_return fX3_note_94 rfl ?_
        first
        | (have hXn : ixS t p b = t 150 := by omega
           refine ⟨_, rfl, ⟨?_, fun i i0 i1 => ?_⟩, ?_⟩
           · rw [nS_150 hx.1]
             simp (disch := omega) only [stt_k, stt_j, stt_eq]
             first | (rw [if_pos (by omega)]; omega) | (rw [if_neg (by omega)]; omega)
           · rw [nS_150 hx.1] at i1
             by_cases hiX : i = ixS t p b
             · rw [nS_0 hiX, nS_1 hiX, nS_2 hiX, nS_3 hiX]
               simp (disch := omega) only [stt_k, stt_j, stt_eq]
               rw [if_pos hXn, if_pos hXn]
               rw [hiX]
               simp (disch := omega) only [stt_k, stt_j, stt_eq]
               rcases hwon with hwon | hwon <;> subst hwon <;> first | (exfalso; omega) | (refine ⟨?_, ?_, ?_, ?_⟩ <;> first | rfl | trivial)
             · rw [nS_o (by omega) (by omega), nS_o (by omega) (by omega), nS_o (by omega) (by omega), nS_o (by omega) (by omega)]
               simp (disch := omega) only [stt_k, stt_j, stt_eq]
               exact hrr i i0 (by split at i1 <;> omega)
           · intro k hk
             funext j
             simp (disch := omega) only [stt_k])
        | (have hXn : ¬ ixS t p b = t 150 := by omega
           refine ⟨_, rfl, ⟨?_, fun i i0 i1 => ?_⟩, ?_⟩
           · rw [nS_150 hx.1]
             simp (disch := omega) only [stt_k, stt_j, stt_eq]
             first | (rw [if_pos (by omega)]; omega) | (rw [if_neg (by omega)]; omega)
           · rw [nS_150 hx.1] at i1
             by_cases hiX : i = ixS t p b
             · rw [nS_0 hiX, nS_1 hiX, nS_2 hiX, nS_3 hiX]
               simp (disch := omega) only [stt_k, stt_j, stt_eq]
               rw [if_neg hXn, if_neg hXn]
               have h4 := hrr i i0 (by omega)
               have h5 := hhit (by omega)
               rw [hiX] at h4 ⊢
               simp (disch := omega) only [stt_k, stt_j, stt_eq]
               rw [h4.1, h4.2.1, h4.2.2.1, h4.2.2.2, h5.1, h5.2]
               rcases hwon with hwon | hwon <;> subst hwon <;> first | (exfalso; omega) | exact ⟨rfl, rfl, rfl, rfl⟩ | exact ⟨rfl, rfl, rfl, by rw [Int.add_zero, wr_id (hin _)]⟩ | simp [wr_id (hin _)]
             · rw [nS_o (by omega) (by omega), nS_o (by omega) (by omega), nS_o (by omega) (by omega), nS_o (by omega) (by omega)]
               simp (disch := omega) only [stt_k, stt_j, stt_eq]
               exact hrr i i0 (by split at i1 <;> omega)
           · intro k hk
             funext j
             simp (disch := omega) only [stt_k])
  · refine R_return fX3_note_16 rfl ?_
    exfalso; omega
