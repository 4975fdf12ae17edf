theorem feeF_congr {f g : Int → Int} {n : Nat} {a b p : Int} (h : ∀ p : Int, 0 ≤ p → p < n → f p = g p) (h0 : 0 ≤ p) (h1 : p < n) : feeF f n a b p = feeF g n a b p := by
  unfold feeF
  rw [winF_congr h, grF_congr h, h p h0 h1]
theorem potF_congr {f g : Int → Int} {n : Nat} {a b c : Int} (h : ∀ p : Int, 0 ≤ p → p < n → f p = g p) : potF f n a b c = potF g n a b c := by
  unfold potF
  rw [sg_congr (fun i x y => feeF_congr h x y)]
theorem partF_congr {f g : Int → Int} {n : Nat} {a b c e : Int} (h : ∀ p : Int, 0 ≤ p → p < n → f p = g p) : partF f n a b c e = partF g n a b c e := by
  unfold partF
  rw [winF_congr h, potF_congr h]
theorem gotF_congr {f g : Int → Int} {n : Nat} {a b c e p : Int} (h : ∀ p : Int, 0 ≤ p → p < n → f p = g p) : gotF f n a b c e p = gotF g n a b c e p := by
  unfold gotF
  rw [winF_congr h, partF_congr h]
theorem sg_full {f : Int → Int} : ∀ {n : Nat}, (∀ i : Int, 0 ≤ i → i < n → f i ≤ 1) → (n : Int) ≤ sg f n → ∀ i : Int, 0 ≤ i → i < n → f i = 1
  | 0, _, _, i, h0, h1 => by omega
  | n + 1, h, hs, i, h0, h1 => by
    have h2 := h n (by omega) (by omega)
    have hs2 : ((n + 1 : Nat) : Int) ≤ sg f n + f n := hs
    have hb : ∀ m : Nat, m ≤ n → sg f m ≤ m := by
      intro m
      induction m with
      | zero => intro _; exact Int.le_refl 0
      | succ m ih =>
        intro hm
        have a1 := ih (by omega)
        have a2 := h m (by omega) (by omega)
        show sg f m + f m ≤ ((m + 1 : Nat) : Int)
        omega
    have hn := hb n (Nat.le_refl n)
    by_cases hi : i = n
    · rw [hi]; omega
    · exact sg_full (n := n) (fun i a b => h i a (by omega)) (by omega) i h0 (by omega)
theorem BD_of {s : Int → Int} (hw : WF s) (h : s 0 ≤ bidsS s) : BD s := by
  have h0 := hw.1
  intro p a b
  have h1 := sg_full (f := fun p => if s (126 + 6 * p + 2) = -1 then 0 else 1) (n := (s 0).toNat) (fun i _ _ => by show (if s (126 + 6 * i + 2) = -1 then (0 : Int) else 1) ≤ 1; split <;> omega) (by unfold bidsS at h; omega) p a (by omega)
  have h2 := (hw.2.2.2.1 p a (by omega)).2.2.1
  have h3 : (if s (126 + 6 * p + 2) = -1 then (0 : Int) else 1) = 1 := h1
  show 0 ≤ s (126 + 6 * p + 2)
  split at h3 <;> omega
def aRes (s : Int → Int) : Int := if s 4 = 0 ∨ bidsS s < s 0 then -1000002 else wnS s
def tRes (s : Int → Int) : Int → Int := if s 4 = 0 ∨ bidsS s < s 0 then s else resS s
theorem WF_tRes {s : Int → Int} (hw : WF s) (h2 : s 2 < 20000) : WF (tRes s) := by
  have := hw.2.1
  unfold tRes
  split
  · exact hw
  · exact WF_res hw (BD_of hw (by omega)) (by omega) h2
theorem Rel_res {B : Nat} {F F' : FM} {s : Int → Int} (hw : WF s) (hb : BD s) (h4 : 1 ≤ s 4) (h2 : s 2 < 20000) (hR : Rel B F s)
    (f0 : F' B 0 = s 0) (f1 : F' B 1 = PT s - PA s * (s 0 - 1)) (f2 : F' B 2 = s 2 + 1) (f3 : F' B 3 = wr (s 3 + (if wnS s < 0 then 1 else 0))) (f4 : F' B 4 = if 0 ≤ wnS s then 0 else s 25 + 1) (f5 : F' B 5 = if 0 ≤ wnS s then 0 else tabS s + s 5) (f6 : F' B 6 = s 4 - 1)
    (fp : ∀ p, 0 ≤ p → p < s 0 → F' (B + 1) p = s (126 + 6 * p) - FE s p + GO s p ∧ F' (B + 2) p = (if p = wnS s then wr (s (126 + 6 * p + 1) + (tabS s + s 5)) else s (126 + 6 * p + 1)) ∧ F' (B + 3) p = -1 ∧ F' (B + 4) p = (if p = wnS s then wr (s (126 + 6 * p + 3) + 1) else s (126 + 6 * p + 3)) ∧ F' (B + 5) p = wr (s (126 + 6 * p + 4) + FE s p) ∧ F' (B + 6) p = wr (s (126 + 6 * p + 5) + GO s p))
    (fo : ∀ p, s 0 ≤ p → p < 4 → F' (B + 1) p = F (B + 1) p ∧ F' (B + 2) p = F (B + 2) p ∧ F' (B + 3) p = F (B + 3) p ∧ F' (B + 4) p = F (B + 4) p ∧ F' (B + 5) p = F (B + 5) p ∧ F' (B + 6) p = F (B + 6) p)
    (fs : F' (B + 7) = F (B + 7)) (fl1 : 0 ≤ wnS s → ∀ k, 0 ≤ k → k < s 4 - 1 → F' (B + 8) k = F (B + 8) (s 25 + 1 + k)) (fl2 : wnS s < 0 → F' (B + 8) = F (B + 8))
    (l2 : F' (B + 9) 2 = (F (B + 9) 2 + 1) % 12) (l1 : F' (B + 9) 1 = (if F (B + 9) 1 + 1 < 12 then F (B + 9) 1 + 1 else 12)) (c0 : F' (B + 10) ((F (B + 9) 2 + 1) % 12 * 8) = wnS s) (c1 : F' (B + 10) ((F (B + 9) 2 + 1) % 12 * 8 + 1) = grF (bdS s) (s 0).toNat) (c2 : F' (B + 10) ((F (B + 9) 2 + 1) % 12 * 8 + 2) = tabS s + s 5) (c3 : F' (B + 10) ((F (B + 9) 2 + 1) % 12 * 8 + 3) = cnF (bdS s) (grF (bdS s) (s 0).toNat) (s 0).toNat) (c4 : ∀ q, 0 ≤ q → q < 4 → F' (B + 10) ((F (B + 9) 2 + 1) % 12 * 8 + 4 + q) = F (B + 3) q) (co : ∀ j, (j < (F (B + 9) 2 + 1) % 12 * 8 ∨ (F (B + 9) 2 + 1) % 12 * 8 + 8 ≤ j) → F' (B + 10) j = F (B + 10) j)
    (fn : RelN B F' (prS s (s 0).toNat)) : Rel B F' (resS s) := by
  obtain ⟨r0, r1, r2, r3, r4, r5, r6, rp, rse, rt, rl, rg1, rg2, rg, rn, rr⟩ := id hR
  obtain ⟨w0, w1, w2, w3, w4, w5, w6, w7, w8, w9, w10, w11, w12, w13⟩ := id hw
  have hwn := wnS_in hw
  have lo : ∀ {j : Int}, j < 126 → j ≠ 1 → j ≠ 25 → resS s j = r1S s j := fun a b c => res_lo hw hb a b c
  have e29 : resS s 29 = if s 29 + 1 < 12 then s 29 + 1 else 12 := by rw [lo (by omega) (by omega) (by omega), r1_29 hw]
  have e4 : resS s 4 = s 4 - 1 := by rw [lo (by omega) (by omega) (by omega), r1_4 hw]
  have e25 := res_25 hw hb
  have hpr := (prS_wp hw (bd_b hw hb) (s 0).toNat (by omega)).1.1
  have htab : ∀ k, 0 ≤ k → k ≤ s 25 → resS s (2087 + k) = if k = s 25 then s 5 else s (2087 + k) := fun k a b => by
    rw [res_hi hw hb (by omega)]
    by_cases hk : k = s 25
    · rw [hk, r1_tab hw, if_pos rfl]
    · rw [r1_tabo hw (by omega) (by omega), if_neg hk]
  have hrow : ∀ k, 0 ≤ k → k < s 4 - 1 → resS s (5 + k) = s (5 + (k + 1)) := fun k a b => by
    rw [lo (by omega) (by omega) (by omega), r1_row hw (by omega), show 5 + k + 1 = 5 + (k + 1) by omega]
  refine ⟨?_, ?_, ?_, ?_, ?_, ?_, ?_, fun p p0 p1 => ?_, fun k k0 k1 => ?_, fun k k0 k1 => ?_, fun k k0 k1 => ?_, ?_, ?_, fun b j b0 b1 j0 j1 => ?_, ?_, fun i i0 i1 => ?_⟩
  · rw [lo (by omega) (by omega) (by omega), r1_same hw (by omega)]; exact f0
  · rw [res_1 hw hb]; exact f1
  · rw [lo (by omega) (by omega) (by omega), r1_2 hw, wr_id (by unfold inb; omega)]; exact f2
  · rw [lo (by omega) (by omega) (by omega), r1_3 hw]; exact f3
  · rw [e25]; exact f4
  · rw [f5]
    unfold tabS
    rw [e25]
    by_cases hc : 0 ≤ wnS s
    · rw [if_pos hc, if_pos hc]; rfl
    · rw [if_neg hc, if_neg hc, sg_s (by omega), htab (s 25) (by omega) (by omega), if_pos rfl]
      rw [sg_congr (f := fun k => resS s (2087 + k)) (g := fun k => s (2087 + k)) (fun i a b => by show resS s (2087 + i) = s (2087 + i); rw [htab i a (by omega), if_neg (by omega)])]
  · rw [e4]; exact f6
  · by_cases hp : p < s 0
    · obtain ⟨x0, x1, x2, x3, x4, x5⟩ := res_pl hw hb p0 hp
      rw [x0, x1, x2, x3, x4, x5]
      exact fp p p0 hp
    · have y := fun c h => res_po (p := p) (c := c) hw hb (by omega) p1 h
      have y0 := y 0 (by omega)
      rw [Int.add_zero] at y0
      obtain ⟨x0, x1, x2, x3, x4, x5⟩ := fo p (by omega) p1
      rw [y0, y 1 (by omega), y 2 (by omega), y 3 (by omega), y 4 (by omega), y 5 (by omega), x0, x1, x2, x3, x4, x5]
      exact rp p p0 p1
  · rw [lo (by omega) (by omega) (by omega), r1_same hw (by omega), fs]
    exact rse k k0 k1
  · rw [e25] at k1
    by_cases hc : 0 ≤ wnS s
    · rw [if_pos hc] at k1; omega
    · rw [if_neg hc] at k1
      rw [fl2 (by omega), htab k k0 (by omega)]
      by_cases hk : k = s 25
      · have h := rl 0 (by omega) (by omega)
        rw [Int.add_zero, Int.add_zero] at h
        rw [if_pos hk, hk]
        exact h
      · rw [if_neg hk]
        exact rt k k0 (by omega)
  · rw [e4] at k1
    rw [hrow k k0 k1, e25]
    by_cases hc : 0 ≤ wnS s
    · rw [if_pos hc, Int.zero_add, fl1 hc k k0 k1, show s 25 + 1 + k = s 25 + (k + 1) by omega]
      exact rl (k + 1) (by omega) (by omega)
    · rw [if_neg hc, fl2 (by omega), show s 25 + 1 + k = s 25 + (k + 1) by omega]
      exact rl (k + 1) (by omega) (by omega)
  · rw [l1, e29, rg1]
  · rw [l2]; omega
  · rw [e29] at b1
    rw [l2]
    generalize hL : (F (B + 9) 2 + 1) % 12 = L at *
    have hLb : 0 ≤ L ∧ L < 12 := by omega
    by_cases hb0 : b = 0
    · subst hb0
      rw [show (L + 12 - 0) % 12 = L by omega, show (30 : Int) + 8 * 0 + j = 30 + j by omega]
      rcases (by omega : j = 0 ∨ j = 1 ∨ j = 2 ∨ j = 3 ∨ 4 ≤ j) with rfl | rfl | rfl | rfl | h
      · rw [Int.add_zero, Int.add_zero, lo (by omega) (by omega) (by omega), r1_30]; exact c0
      · rw [lo (by omega) (by omega) (by omega), show (30 : Int) + 1 = 31 by omega, r1_31]; exact c1
      · rw [lo (by omega) (by omega) (by omega), show (30 : Int) + 2 = 32 by omega, r1_32]; exact c2
      · rw [lo (by omega) (by omega) (by omega), show (30 : Int) + 3 = 33 by omega, r1_33]; exact c3
      · have h5 := c4 (j - 4) (by omega) (by omega)
        rw [show L * 8 + 4 + (j - 4) = L * 8 + j by omega] at h5
        rw [lo (by omega) (by omega) (by omega), show 30 + j = 34 + (j - 4) by omega, r1_bid hw (by omega), h5]
        exact (rp (j - 4) (by omega) (by omega)).2.2.1
    · have h5 := rg (b - 1) j (by omega) (by split at b1 <;> omega) j0 j1
      rw [show 30 + 8 * (b - 1) + j = 30 + 8 * b + j - 8 by omega] at h5
      rw [lo (by split at b1 <;> omega) (by omega) (by omega), r1_log hw (by split at b1 <;> omega), ← h5, show (F (B + 9) 2 + 12 - (b - 1)) % 12 = (L + 12 - b) % 12 by omega]
      have hb12 : b < 12 := by split at b1 <;> omega
      exact co _ (by omega)
  · rw [res_pr hw hb (by omega) (by omega)]; exact fn.1
  · rw [res_pr hw hb (by omega) (by omega)] at i1
    rw [res_pr hw hb (by omega) (by omega), res_pr hw hb (by omega) (by omega), res_pr hw hb (by omega) (by omega), res_pr hw hb (by omega) (by omega)]
    exact fn.2 i i0 i1
theorem sp_settle {d : Nat} {kd : KL} {F : FM} {P : PM} {B : Nat} {s : Int → Int} {O : Nat} (hd : 5 ≤ d) (hS : shS kd P B) (hR : Rel B F s) (hw : WF s) (hO : shO kd P O) (hBO : B + 16 ≤ O ∨ O + 3 ≤ B) (h2 : s 2 < 20000) : Sp d 34 [.inr (some B), .inr (some O)] kd F P (QV kd P (fun r F' => r = aRes s ∧ Rel B F' (tRes s) ∧ ∀ k, (k < B ∨ B + 16 ≤ k) → (k < O ∨ O + 3 ≤ k) → F' k = F k)) := by
  refine Sp_of (me := mX5_settle) (by omega) pX5_settle ⟨rfl, Nat.le_of_ble_eq_true rfl⟩ ?_
  obtain ⟨r0, r1, r2, r3, r4, r5, r6, rp, rse, rt, rl, rg1, rg2, rg, rn, rr⟩ := id hR
  obtain ⟨w0, w1, w2, w3, w4, w5, w6, w7, w8, w9, w10, w11, w12, w13⟩ := id hw
  have hf3 : ∀ p : Int, 0 ≤ p → p < ((s 0).toNat : Nat) → F (B + 3) p = bdS s p := fun p a b => (rp p a (by omega)).2.2.1
  have main : ∀ (hc : ¬ (s 4 = 0 ∨ bidsS s < s 0)) (F2 : FM) (st : Int), st = tabS s + s 5 → BD s →
      (F2 O 0 = wnS s ∧ F2 O 3 = PT s - PA s * (s 0 - 1) ∧ ∀ p, 0 ≤ p → p < s 0 → F2 (O + 1) p = FE s p ∧ F2 (O + 2) p = GO s p) →
      (F2 (B + 9) 2 = (F (B + 9) 2 + 1) % 12 ∧ F2 (B + 9) 1 = (if F (B + 9) 1 + 1 < 12 then F (B + 9) 1 + 1 else 12) ∧ F2 (B + 10) ((F (B + 9) 2 + 1) % 12 * 8) = wnS s ∧ F2 (B + 10) ((F (B + 9) 2 + 1) % 12 * 8 + 1) = grF (bdS s) (s 0).toNat ∧ F2 (B + 10) ((F (B + 9) 2 + 1) % 12 * 8 + 2) = tabS s + s 5 ∧ F2 (B + 10) ((F (B + 9) 2 + 1) % 12 * 8 + 3) = cnF (bdS s) (grF (bdS s) (s 0).toNat) (s 0).toNat ∧ (∀ q, 0 ≤ q → q < 4 → F2 (B + 10) ((F (B + 9) 2 + 1) % 12 * 8 + 4 + q) = F (B + 3) q) ∧ (∀ j, (j < (F (B + 9) 2 + 1) % 12 * 8 ∨ (F (B + 9) 2 + 1) % 12 * 8 + 8 ≤ j) → F2 (B + 10) j = F (B + 10) j)) →
      (∀ k, k ≠ B + 9 → k ≠ B + 10 → (k < O ∨ O + 3 ≤ k) → F2 k = F k) →
      ∀ (N : Nat) (i : Int) (G : FM), 0 ≤ i → i ≤ s 0 → RelN B G (prS s i.toNat) →
      (∀ p, 0 ≤ p → p < i → G (B + 1) p = s (126 + 6 * p) - FE s p + GO s p ∧ G (B + 3) p = -1 ∧ G (B + 5) p = wr (s (126 + 6 * p + 4) + FE s p) ∧ G (B + 6) p = wr (s (126 + 6 * p + 5) + GO s p)) →
      (∀ p, i ≤ p → p < 4 → G (B + 1) p = F (B + 1) p ∧ G (B + 3) p = F (B + 3) p ∧ G (B + 5) p = F (B + 5) p ∧ G (B + 6) p = F (B + 6) p) →
      (∀ k, k ≠ B + 1 → k ≠ B + 3 → k ≠ B + 5 → k ≠ B + 6 → (k < B + 11 ∨ B + 16 ≤ k) → G k = F2 k) → s 0 - i < N →
      Rn (d - 1) mX5_settle 50 [some (.inr (some B)), some (.inr (some O)), some (.inl st), some (.inl i)] [] kd G P (QV kd P (fun r F' => r = aRes s ∧ Rel B F' (tRes s) ∧ ∀ k, (k < B ∨ B + 16 ≤ k) → (k < O ∨ O + 3 ≤ k) → F' k = F k)) := by
    intro hc F2 st hst hb hOv hLg hF2 N
    have hwn := wnS_in hw
    have h4 : 1 ≤ s 4 := by omega
    have hstb := stake_b hw h4
    obtain ⟨o0, o3, op⟩ := hOv
    obtain ⟨L2, L1, C0, C1, C2, C3, C4, C5⟩ := hLg
    induction N with
    | zero => intro i G h0 h1 hN h3 h5 h6 h7; omega
    | succ N ih =>
      intro i G h0 h1 hN h3 h5 h6 h7
      have gO0 : G O 0 = wnS s := by rw [h6 O (by omega) (by omega) (by omega) (by omega) (by omega)]; exact o0
      have gB : G B = F B := by rw [h6 B (by omega) (by omega) (by omega) (by omega) (by omega), hF2 B (by omega) (by omega) (by omega)]
      have gB0 : G B 0 = s 0 := by rw [gB]; exact r0
      have gOp : ∀ p, 0 ≤ p → p < s 0 → G (O + 1) p = FE s p ∧ G (O + 2) p = GO s p := fun p a b => by
        rw [h6 (O + 1) (by omega) (by omega) (by omega) (by omega) (by omega), h6 (O + 2) (by omega) (by omega) (by omega) (by omega) (by omega)]
        exact op p a b
      refine R_iload_n fX5_settle_50 rfl ?_
      refine R_aload_n fX5_settle_51 rfl ?_
      refine R_getI 0 fX5_settle_52 (shS_k0 hS) (shS_3 hS 0) rfl rfl rfl ?_
      refine R_icmp_ge fX5_settle_55 rfl (fun h55 => ?_) (fun h55 => ?_)
      · have hi : i = s 0 := by omega
        subst hi
        refine R_aload_n fX5_settle_140 rfl ?_
        refine R_aload_n fX5_settle_141 rfl ?_
        refine R_getI 3 fX5_settle_142 hO.2.1 hO.1 rfl rfl rfl ?_
        refine R_putI 1 fX5_settle_145 (shS_k0 hS) (shS_3 hS 0) rfl rfl rfl ?_
        refine R_aload_n fX5_settle_148 rfl ?_
        refine R_dup fX5_settle_149 ?_
        refine R_getI 2 fX5_settle_150 (shS_k0 hS) (shS_3 hS 0) rfl rfl rfl ?_
        refine R_iconst fX5_settle_153 ?_
        refine R_iadd fX5_settle_154 (by simp (disch := omega) only [stt_k, stt_j, stt_eq, stt_kr]; rw [gB, r2]; omega) ?_
        refine R_putI 2 fX5_settle_155 (shS_k0 hS) (shS_3 hS 0) rfl rfl rfl ?_
        refine R_aload_n fX5_settle_158 rfl ?_
        refine R_dup fX5_settle_159 ?_
        refine R_getI 4 fX5_settle_160 (shS_k0 hS) (shS_3 hS 0) rfl rfl rfl ?_
        refine R_iconst fX5_settle_163 ?_
        refine R_iadd fX5_settle_164 (by simp (disch := omega) only [stt_k, stt_j, stt_eq, stt_kr]; rw [gB, r4]; omega) ?_
        refine R_putI 4 fX5_settle_165 (shS_k0 hS) (shS_3 hS 0) rfl rfl rfl ?_
        refine R_aload_n fX5_settle_168 rfl ?_
        refine R_dup fX5_settle_169 ?_
        refine R_getI 6 fX5_settle_170 (shS_k0 hS) (shS_3 hS 0) rfl rfl rfl ?_
        refine R_iconst fX5_settle_173 ?_
        refine R_isub fX5_settle_174 (by simp (disch := omega) only [stt_k, stt_j, stt_eq, stt_kr]; rw [gB, r6]; omega) ?_
        refine R_putI 6 fX5_settle_175 (shS_k0 hS) (shS_3 hS 0) rfl rfl rfl ?_
        refine R_aload_n fX5_settle_178 rfl ?_
        refine R_getI 0 fX5_settle_179 hO.2.1 hO.1 rfl rfl rfl ?_
        refine R_iconst fX5_settle_182 ?_
        refine R_icmp_ne fX5_settle_183 rfl (fun h183 => ?_) (fun h183 => ?_)
        · have hwon : (0 : Int) ≤ wnS s := by
            simp (disch := omega) only [stt_k, stt_j, stt_eq] at h183
            rw [gO0] at h183
            omega
          refine R_aload_n fX5_settle_204 rfl ?_
          refine R_getP 10 fX5_settle_205 (shS_k0 hS) (shS_3 hS 0) rfl rfl rfl (shS_p10 hS) ?_
          refine R_aload_n fX5_settle_208 rfl ?_
          refine R_getI 0 fX5_settle_209 hO.2.1 hO.1 rfl rfl rfl ?_
          refine R_dup2 fX5_settle_212 ?_
          refine R_iaload fX5_settle_213 (shS_k4 hS) (by simp (disch := omega) only [stt_k, stt_j, stt_eq, stt_kr]; rw [gO0]; omega) ?_
          refine R_iconst fX5_settle_214 ?_
          refine R_iaddV fX5_settle_215 (rfl) ?_
          refine R_iastore fX5_settle_216 (shS_k4 hS) (shS_3 hS 4) (by simp (disch := omega) only [stt_k, stt_j, stt_eq, stt_kr]; rw [gO0]; omega) ?_
          refine R_aload_n fX5_settle_217 rfl ?_
          refine R_getP 8 fX5_settle_218 (shS_k0 hS) (shS_3 hS 0) rfl rfl rfl (shS_p8 hS) ?_
          refine R_aload_n fX5_settle_221 rfl ?_
          refine R_getI 0 fX5_settle_222 hO.2.1 hO.1 rfl rfl rfl ?_
          refine R_dup2 fX5_settle_225 ?_
          refine R_iaload fX5_settle_226 (shS_k2 hS) (by simp (disch := omega) only [stt_k, stt_j, stt_eq, stt_kr]; rw [gO0]; omega) ?_
          refine R_iload_n fX5_settle_227 rfl ?_
          refine R_iaddV fX5_settle_228 (rfl) ?_
          refine R_iastore fX5_settle_229 (shS_k2 hS) (shS_3 hS 2) (by simp (disch := omega) only [stt_k, stt_j, stt_eq, stt_kr]; rw [gO0]; omega) ?_
          refine R_aload_n fX5_settle_230 rfl ?_
          refine R_callN fX5_settle_231 rfl rfl pX5_emptyTable rfl ⟨Nat.le_of_ble_eq_true rfl, rcv_v rfl (shS_3 hS 0) (shS_k0 hS)⟩ (sp_emptyTable (by omega) hS (by simp (disch := omega) only [stt_k, stt_j, stt_eq, stt_kr]; rw [gB, r4, r6]; omega)) (fun F3 x => ?_)
          obtain ⟨x0, x1, x2, x3, x4⟩ := x
          refine R_aload_n fX5_settle_234 rfl ?_
          refine R_getI 0 fX5_settle_235 hO.2.1 hO.1 rfl rfl rfl ?_
          refine R_ireturn fX5_settle_238 rfl ?_
          first
          | (have hnw2 := hnw
             refine ⟨_, _, rfl, ?_, ?_, fun k ka kb => ?_⟩
             · unfold aRes; rw [if_neg hc]; simp (disch := omega) only [stt_k, stt_j, stt_eq, stt_kr]; exact gO0
             · unfold tRes; rw [if_neg hc]
               refine Rel_res hw hb h4 h2 hR ?_ ?_ ?_ ?_ ?_ ?_ ?_ (fun p p0 p1 => ?_) (fun p p0 p1 => ?_) ?_ (fun hz => ?_) (fun hz => ?_) ?_ ?_ ?_ ?_ ?_ ?_ (fun q q0 q1 => ?_) (fun j hj => ?_) ?_
               · simp (disch := omega) only [stt_k, stt_j, stt_eq, stt_kr]; exact gB0
               · simp (disch := omega) only [stt_k, stt_j, stt_eq, stt_kr]; rw [h6 (O) (by omega) (by omega) (by omega) (by omega) (by omega)]; exact o3
               · simp (disch := omega) only [stt_k, stt_j, stt_eq, stt_kr]; rw [gB, r2]
               · simp (disch := omega) only [stt_k, stt_j, stt_eq, stt_kr]; rw [gB, r3, if_pos (by omega)]
               · simp (disch := omega) only [stt_k, stt_j, stt_eq, stt_kr]; rw [gB, r4, if_neg (by omega)]
               · simp (disch := omega) only [stt_k, stt_j, stt_eq, stt_kr]; rw [if_neg (by omega)]; exact hst
               · simp (disch := omega) only [stt_k, stt_j, stt_eq, stt_kr]; rw [gB, r6]
               · have h := h3 p p0 p1
                 have h9 := rp p p0 (by omega)
                 simp (disch := omega) only [stt_k, stt_j, stt_eq, stt_kr]
                 rw [if_neg (by omega), if_neg (by omega), h6 (B + 2) (by omega) (by omega) (by omega) (by omega) (by omega), h6 (B + 4) (by omega) (by omega) (by omega) (by omega) (by omega), hF2 _ (by omega) (by omega) (by omega), hF2 _ (by omega) (by omega) (by omega)]
                 exact ⟨h.1, h9.2.1, h.2.1, h9.2.2.2.1, h.2.2.1, h.2.2.2⟩
               · have h := h5 p p0 p1
                 simp (disch := omega) only [stt_k, stt_j, stt_eq, stt_kr]
                 rw [h6 (B + 2) (by omega) (by omega) (by omega) (by omega) (by omega), h6 (B + 4) (by omega) (by omega) (by omega) (by omega) (by omega), hF2 _ (by omega) (by omega) (by omega), hF2 _ (by omega) (by omega) (by omega)]
                 exact ⟨h.1, rfl, h.2.1, rfl, h.2.2.1, h.2.2.2⟩
               · simp (disch := omega) only [stt_kr]; rw [h6 (B + 7) (by omega) (by omega) (by omega) (by omega) (by omega), hF2 _ (by omega) (by omega) (by omega)]
               · omega
               · simp (disch := omega) only [stt_kr]; rw [h6 (B + 8) (by omega) (by omega) (by omega) (by omega) (by omega), hF2 _ (by omega) (by omega) (by omega)]
               · simp (disch := omega) only [stt_k, stt_j, stt_eq, stt_kr]; rw [h6 (B + 9) (by omega) (by omega) (by omega) (by omega) (by omega)]; exact L2
               · simp (disch := omega) only [stt_k, stt_j, stt_eq, stt_kr]; rw [h6 (B + 9) (by omega) (by omega) (by omega) (by omega) (by omega)]; exact L1
               · simp (disch := omega) only [stt_k, stt_j, stt_eq, stt_kr]; rw [h6 (B + 10) (by omega) (by omega) (by omega) (by omega) (by omega)]; exact C0
               · simp (disch := omega) only [stt_k, stt_j, stt_eq, stt_kr]; rw [h6 (B + 10) (by omega) (by omega) (by omega) (by omega) (by omega)]; exact C1
               · simp (disch := omega) only [stt_k, stt_j, stt_eq, stt_kr]; rw [h6 (B + 10) (by omega) (by omega) (by omega) (by omega) (by omega)]; exact C2
               · simp (disch := omega) only [stt_k, stt_j, stt_eq, stt_kr]; rw [h6 (B + 10) (by omega) (by omega) (by omega) (by omega) (by omega)]; exact C3
               · simp (disch := omega) only [stt_k, stt_j, stt_eq, stt_kr]; rw [h6 (B + 10) (by omega) (by omega) (by omega) (by omega) (by omega)]; exact C4 q q0 q1
               · simp (disch := omega) only [stt_k, stt_j, stt_eq, stt_kr]; rw [h6 (B + 10) (by omega) (by omega) (by omega) (by omega) (by omega)]; exact C5 j hj
               · refine ⟨?_, fun i i0 i1 => ?_⟩
                 · simp (disch := omega) only [stt_k, stt_j, stt_eq, stt_kr]; exact hN.1
                 · simp (disch := omega) only [stt_k, stt_j, stt_eq, stt_kr]; exact hN.2 i i0 i1
             · simp (disch := omega) only [stt_kr]
               rw [h6 k (by omega) (by omega) (by omega) (by omega) (by omega), hF2 k (by omega) (by omega) kb])
          | (refine ⟨_, _, rfl, ?_, ?_, fun k ka kb => ?_⟩
             · unfold aRes; rw [if_neg hc, x4 _ (by omega) (by omega)]; simp (disch := omega) only [stt_k, stt_j, stt_eq, stt_kr]; exact gO0
             · unfold tRes; rw [if_neg hc]
               refine Rel_res hw hb h4 h2 hR ?_ ?_ ?_ ?_ ?_ ?_ ?_ (fun p p0 p1 => ?_) (fun p p0 p1 => ?_) ?_ (fun hz k_ k0 k1 => ?_) (fun hz => ?_) ?_ ?_ ?_ ?_ ?_ ?_ (fun q q0 q1 => ?_) (fun j hj => ?_) ?_
               · rw [x3 0 (by omega) (by omega)]; simp (disch := omega) only [stt_k, stt_j, stt_eq, stt_kr]; exact gB0
               · rw [x3 1 (by omega) (by omega)]; simp (disch := omega) only [stt_k, stt_j, stt_eq, stt_kr]; rw [h6 (O) (by omega) (by omega) (by omega) (by omega) (by omega)]; exact o3
               · rw [x3 2 (by omega) (by omega)]; simp (disch := omega) only [stt_k, stt_j, stt_eq, stt_kr]; rw [gB, r2]
               · rw [x3 3 (by omega) (by omega)]; simp (disch := omega) only [stt_k, stt_j, stt_eq, stt_kr]; rw [gB, r3, if_neg (by omega), Int.add_zero, wr_id (w13 3)]
               · rw [x1, if_pos (by omega)]
               · rw [x2, if_pos (by omega)]
               · rw [x3 6 (by omega) (by omega)]; simp (disch := omega) only [stt_k, stt_j, stt_eq, stt_kr]; rw [gB, r6]
               · have h := h3 p p0 p1
                 have h9 := rp p p0 (by omega)
                 rw [x4 _ (by omega) (by omega), x4 _ (by omega) (by omega), x4 _ (by omega) (by omega), x4 _ (by omega) (by omega), x4 _ (by omega) (by omega), x4 _ (by omega) (by omega)]
                 by_cases hp : p = wnS s
                 · subst hp
                   rw [if_pos rfl, if_pos rfl]
                   simp (disch := omega) only [stt_k, stt_j, stt_eq, stt_kr, gO0]
                   rw [h6 (B + 2) (by omega) (by omega) (by omega) (by omega) (by omega), h6 (B + 4) (by omega) (by omega) (by omega) (by omega) (by omega), hF2 _ (by omega) (by omega) (by omega), hF2 _ (by omega) (by omega) (by omega), h9.2.1, h9.2.2.2.1, hst]
                   exact ⟨h.1, rfl, h.2.1, rfl, h.2.2.1, h.2.2.2⟩
                 · rw [if_neg hp, if_neg hp]
                   simp (disch := omega) only [stt_k, stt_j, stt_eq, stt_kr, gO0]
                   rw [h6 (B + 2) (by omega) (by omega) (by omega) (by omega) (by omega), h6 (B + 4) (by omega) (by omega) (by omega) (by omega) (by omega), hF2 _ (by omega) (by omega) (by omega), hF2 _ (by omega) (by omega) (by omega)]
                   exact ⟨h.1, h9.2.1, h.2.1, h9.2.2.2.1, h.2.2.1, h.2.2.2⟩
               · have h := h5 p p0 p1
                 rw [x4 _ (by omega) (by omega), x4 _ (by omega) (by omega), x4 _ (by omega) (by omega), x4 _ (by omega) (by omega), x4 _ (by omega) (by omega), x4 _ (by omega) (by omega)]
                 simp (disch := omega) only [stt_k, stt_j, stt_eq, stt_kr, gO0]
                 rw [h6 (B + 2) (by omega) (by omega) (by omega) (by omega) (by omega), h6 (B + 4) (by omega) (by omega) (by omega) (by omega) (by omega), hF2 _ (by omega) (by omega) (by omega), hF2 _ (by omega) (by omega) (by omega)]
                 exact ⟨h.1, rfl, h.2.1, rfl, h.2.2.1, h.2.2.2⟩
               · rw [x4 _ (by omega) (by omega)]; simp (disch := omega) only [stt_kr]; rw [h6 (B + 7) (by omega) (by omega) (by omega) (by omega) (by omega), hF2 _ (by omega) (by omega) (by omega)]
               · rw [x0 k_ k0 (by simp (disch := omega) only [stt_k, stt_j, stt_eq, stt_kr]; rw [gB, r6]; exact k1)]
                 simp (disch := omega) only [stt_k, stt_j, stt_eq, stt_kr]; rw [h6 (B + 8) (by omega) (by omega) (by omega) (by omega) (by omega), hF2 _ (by omega) (by omega) (by omega), gB, r4]
               · omega
               · rw [x4 _ (by omega) (by omega)]; simp (disch := omega) only [stt_k, stt_j, stt_eq, stt_kr]; rw [h6 (B + 9) (by omega) (by omega) (by omega) (by omega) (by omega)]; exact L2
               · rw [x4 _ (by omega) (by omega)]; simp (disch := omega) only [stt_k, stt_j, stt_eq, stt_kr]; rw [h6 (B + 9) (by omega) (by omega) (by omega) (by omega) (by omega)]; exact L1
               · rw [x4 _ (by omega) (by omega)]; simp (disch := omega) only [stt_k, stt_j, stt_eq, stt_kr]; rw [h6 (B + 10) (by omega) (by omega) (by omega) (by omega) (by omega)]; exact C0
               · rw [x4 _ (by omega) (by omega)]; simp (disch := omega) only [stt_k, stt_j, stt_eq, stt_kr]; rw [h6 (B + 10) (by omega) (by omega) (by omega) (by omega) (by omega)]; exact C1
               · rw [x4 _ (by omega) (by omega)]; simp (disch := omega) only [stt_k, stt_j, stt_eq, stt_kr]; rw [h6 (B + 10) (by omega) (by omega) (by omega) (by omega) (by omega)]; exact C2
               · rw [x4 _ (by omega) (by omega)]; simp (disch := omega) only [stt_k, stt_j, stt_eq, stt_kr]; rw [h6 (B + 10) (by omega) (by omega) (by omega) (by omega) (by omega)]; exact C3
               · rw [x4 _ (by omega) (by omega)]; simp (disch := omega) only [stt_k, stt_j, stt_eq, stt_kr]; rw [h6 (B + 10) (by omega) (by omega) (by omega) (by omega) (by omega)]; exact C4 q q0 q1
               · rw [x4 _ (by omega) (by omega)]; simp (disch := omega) only [stt_k, stt_j, stt_eq, stt_kr]; rw [h6 (B + 10) (by omega) (by omega) (by omega) (by omega) (by omega)]; exact C5 j hj
               · refine ⟨?_, fun i i0 i1 => ?_⟩
                 · rw [x4 _ (by omega) (by omega)]; simp (disch := omega) only [stt_k, stt_j, stt_eq, stt_kr]; exact hN.1
                 · rw [x4 _ (by omega) (by omega), x4 _ (by omega) (by omega), x4 _ (by omega) (by omega), x4 _ (by omega) (by omega)]; simp (disch := omega) only [stt_k, stt_j, stt_eq, stt_kr]; exact hN.2 i i0 i1
             · rw [x4 _ (by omega) (by omega)]
               simp (disch := omega) only [stt_kr]
               rw [h6 k (by omega) (by omega) (by omega) (by omega) (by omega), hF2 k (by omega) (by omega) kb])
        · have hnw : wnS s < 0 := by
            simp (disch := omega) only [stt_k, stt_j, stt_eq] at h183
            rw [gO0] at h183
            omega
          refine R_aload_n fX5_settle_186 rfl ?_
          refine R_dup fX5_settle_187 ?_
          refine R_getI 3 fX5_settle_188 (shS_k0 hS) (shS_3 hS 0) rfl rfl rfl ?_
          refine R_iconst fX5_settle_191 ?_
          refine R_iaddV fX5_settle_192 (rfl) ?_
          refine R_putI 3 fX5_settle_193 (shS_k0 hS) (shS_3 hS 0) rfl rfl rfl ?_
          refine R_aload_n fX5_settle_196 rfl ?_
          refine R_iload_n fX5_settle_197 rfl ?_
          refine R_putI 5 fX5_settle_198 (shS_k0 hS) (shS_3 hS 0) rfl rfl rfl ?_
          refine R_goto fX5_settle_201 rfl ?_
          refine R_aload_n fX5_settle_234 rfl ?_
          refine R_getI 0 fX5_settle_235 hO.2.1 hO.1 rfl rfl rfl ?_
          refine R_ireturn fX5_settle_238 rfl ?_
          first
          | (have hnw2 := hnw
             refine ⟨_, _, rfl, ?_, ?_, fun k ka kb => ?_⟩
             · unfold aRes; rw [if_neg hc]; simp (disch := omega) only [stt_k, stt_j, stt_eq, stt_kr]; exact gO0
             · unfold tRes; rw [if_neg hc]
               refine Rel_res hw hb h4 h2 hR ?_ ?_ ?_ ?_ ?_ ?_ ?_ (fun p p0 p1 => ?_) (fun p p0 p1 => ?_) ?_ (fun hz => ?_) (fun hz => ?_) ?_ ?_ ?_ ?_ ?_ ?_ (fun q q0 q1 => ?_) (fun j hj => ?_) ?_
               · simp (disch := omega) only [stt_k, stt_j, stt_eq, stt_kr]; exact gB0
               · simp (disch := omega) only [stt_k, stt_j, stt_eq, stt_kr]; rw [h6 (O) (by omega) (by omega) (by omega) (by omega) (by omega)]; exact o3
               · simp (disch := omega) only [stt_k, stt_j, stt_eq, stt_kr]; rw [gB, r2]
               · simp (disch := omega) only [stt_k, stt_j, stt_eq, stt_kr]; rw [gB, r3, if_pos (by omega)]
               · simp (disch := omega) only [stt_k, stt_j, stt_eq, stt_kr]; rw [gB, r4, if_neg (by omega)]
               · simp (disch := omega) only [stt_k, stt_j, stt_eq, stt_kr]; rw [if_neg (by omega)]; exact hst
               · simp (disch := omega) only [stt_k, stt_j, stt_eq, stt_kr]; rw [gB, r6]
               · have h := h3 p p0 p1
                 have h9 := rp p p0 (by omega)
                 simp (disch := omega) only [stt_k, stt_j, stt_eq, stt_kr]
                 rw [if_neg (by omega), if_neg (by omega), h6 (B + 2) (by omega) (by omega) (by omega) (by omega) (by omega), h6 (B + 4) (by omega) (by omega) (by omega) (by omega) (by omega), hF2 _ (by omega) (by omega) (by omega), hF2 _ (by omega) (by omega) (by omega)]
                 exact ⟨h.1, h9.2.1, h.2.1, h9.2.2.2.1, h.2.2.1, h.2.2.2⟩
               · have h := h5 p p0 p1
                 simp (disch := omega) only [stt_k, stt_j, stt_eq, stt_kr]
                 rw [h6 (B + 2) (by omega) (by omega) (by omega) (by omega) (by omega), h6 (B + 4) (by omega) (by omega) (by omega) (by omega) (by omega), hF2 _ (by omega) (by omega) (by omega), hF2 _ (by omega) (by omega) (by omega)]
                 exact ⟨h.1, rfl, h.2.1, rfl, h.2.2.1, h.2.2.2⟩
               · simp (disch := omega) only [stt_kr]; rw [h6 (B + 7) (by omega) (by omega) (by omega) (by omega) (by omega), hF2 _ (by omega) (by omega) (by omega)]
               · omega
               · simp (disch := omega) only [stt_kr]; rw [h6 (B + 8) (by omega) (by omega) (by omega) (by omega) (by omega), hF2 _ (by omega) (by omega) (by omega)]
               · simp (disch := omega) only [stt_k, stt_j, stt_eq, stt_kr]; rw [h6 (B + 9) (by omega) (by omega) (by omega) (by omega) (by omega)]; exact L2
               · simp (disch := omega) only [stt_k, stt_j, stt_eq, stt_kr]; rw [h6 (B + 9) (by omega) (by omega) (by omega) (by omega) (by omega)]; exact L1
               · simp (disch := omega) only [stt_k, stt_j, stt_eq, stt_kr]; rw [h6 (B + 10) (by omega) (by omega) (by omega) (by omega) (by omega)]; exact C0
               · simp (disch := omega) only [stt_k, stt_j, stt_eq, stt_kr]; rw [h6 (B + 10) (by omega) (by omega) (by omega) (by omega) (by omega)]; exact C1
               · simp (disch := omega) only [stt_k, stt_j, stt_eq, stt_kr]; rw [h6 (B + 10) (by omega) (by omega) (by omega) (by omega) (by omega)]; exact C2
               · simp (disch := omega) only [stt_k, stt_j, stt_eq, stt_kr]; rw [h6 (B + 10) (by omega) (by omega) (by omega) (by omega) (by omega)]; exact C3
               · simp (disch := omega) only [stt_k, stt_j, stt_eq, stt_kr]; rw [h6 (B + 10) (by omega) (by omega) (by omega) (by omega) (by omega)]; exact C4 q q0 q1
               · simp (disch := omega) only [stt_k, stt_j, stt_eq, stt_kr]; rw [h6 (B + 10) (by omega) (by omega) (by omega) (by omega) (by omega)]; exact C5 j hj
               · refine ⟨?_, fun i i0 i1 => ?_⟩
                 · simp (disch := omega) only [stt_k, stt_j, stt_eq, stt_kr]; exact hN.1
                 · simp (disch := omega) only [stt_k, stt_j, stt_eq, stt_kr]; exact hN.2 i i0 i1
             · simp (disch := omega) only [stt_kr]
               rw [h6 k (by omega) (by omega) (by omega) (by omega) (by omega), hF2 k (by omega) (by omega) kb])
          | (refine ⟨_, _, rfl, ?_, ?_, fun k ka kb => ?_⟩
             · unfold aRes; rw [if_neg hc, x4 _ (by omega) (by omega)]; simp (disch := omega) only [stt_k, stt_j, stt_eq, stt_kr]; exact gO0
             · unfold tRes; rw [if_neg hc]
               refine Rel_res hw hb h4 h2 hR ?_ ?_ ?_ ?_ ?_ ?_ ?_ (fun p p0 p1 => ?_) (fun p p0 p1 => ?_) ?_ (fun hz k_ k0 k1 => ?_) (fun hz => ?_) ?_ ?_ ?_ ?_ ?_ ?_ (fun q q0 q1 => ?_) (fun j hj => ?_) ?_
               · rw [x3 0 (by omega) (by omega)]; simp (disch := omega) only [stt_k, stt_j, stt_eq, stt_kr]; exact gB0
               · rw [x3 1 (by omega) (by omega)]; simp (disch := omega) only [stt_k, stt_j, stt_eq, stt_kr]; rw [h6 (O) (by omega) (by omega) (by omega) (by omega) (by omega)]; exact o3
               · rw [x3 2 (by omega) (by omega)]; simp (disch := omega) only [stt_k, stt_j, stt_eq, stt_kr]; rw [gB, r2]
               · rw [x3 3 (by omega) (by omega)]; simp (disch := omega) only [stt_k, stt_j, stt_eq, stt_kr]; rw [gB, r3, if_neg (by omega), Int.add_zero, wr_id (w13 3)]
               · rw [x1, if_pos (by omega)]
               · rw [x2, if_pos (by omega)]
               · rw [x3 6 (by omega) (by omega)]; simp (disch := omega) only [stt_k, stt_j, stt_eq, stt_kr]; rw [gB, r6]
               · have h := h3 p p0 p1
                 have h9 := rp p p0 (by omega)
                 rw [x4 _ (by omega) (by omega), x4 _ (by omega) (by omega), x4 _ (by omega) (by omega), x4 _ (by omega) (by omega), x4 _ (by omega) (by omega), x4 _ (by omega) (by omega)]
                 by_cases hp : p = wnS s
                 · subst hp
                   rw [if_pos rfl, if_pos rfl]
                   simp (disch := omega) only [stt_k, stt_j, stt_eq, stt_kr, gO0]
                   rw [h6 (B + 2) (by omega) (by omega) (by omega) (by omega) (by omega), h6 (B + 4) (by omega) (by omega) (by omega) (by omega) (by omega), hF2 _ (by omega) (by omega) (by omega), hF2 _ (by omega) (by omega) (by omega), h9.2.1, h9.2.2.2.1, hst]
                   exact ⟨h.1, rfl, h.2.1, rfl, h.2.2.1, h.2.2.2⟩
                 · rw [if_neg hp, if_neg hp]
                   simp (disch := omega) only [stt_k, stt_j, stt_eq, stt_kr, gO0]
                   rw [h6 (B + 2) (by omega) (by omega) (by omega) (by omega) (by omega), h6 (B + 4) (by omega) (by omega) (by omega) (by omega) (by omega), hF2 _ (by omega) (by omega) (by omega), hF2 _ (by omega) (by omega) (by omega)]
                   exact ⟨h.1, h9.2.1, h.2.1, h9.2.2.2.1, h.2.2.1, h.2.2.2⟩
               · have h := h5 p p0 p1
                 rw [x4 _ (by omega) (by omega), x4 _ (by omega) (by omega), x4 _ (by omega) (by omega), x4 _ (by omega) (by omega), x4 _ (by omega) (by omega), x4 _ (by omega) (by omega)]
                 simp (disch := omega) only [stt_k, stt_j, stt_eq, stt_kr, gO0]
                 rw [h6 (B + 2) (by omega) (by omega) (by omega) (by omega) (by omega), h6 (B + 4) (by omega) (by omega) (by omega) (by omega) (by omega), hF2 _ (by omega) (by omega) (by omega), hF2 _ (by omega) (by omega) (by omega)]
                 exact ⟨h.1, rfl, h.2.1, rfl, h.2.2.1, h.2.2.2⟩
               · rw [x4 _ (by omega) (by omega)]; simp (disch := omega) only [stt_kr]; rw [h6 (B + 7) (by omega) (by omega) (by omega) (by omega) (by omega), hF2 _ (by omega) (by omega) (by omega)]
               · rw [x0 k_ k0 (by simp (disch := omega) only [stt_k, stt_j, stt_eq, stt_kr]; rw [gB, r6]; exact k1)]
                 simp (disch := omega) only [stt_k, stt_j, stt_eq, stt_kr]; rw [h6 (B + 8) (by omega) (by omega) (by omega) (by omega) (by omega), hF2 _ (by omega) (by omega) (by omega), gB, r4]
               · omega
               · rw [x4 _ (by omega) (by omega)]; simp (disch := omega) only [stt_k, stt_j, stt_eq, stt_kr]; rw [h6 (B + 9) (by omega) (by omega) (by omega) (by omega) (by omega)]; exact L2
               · rw [x4 _ (by omega) (by omega)]; simp (disch := omega) only [stt_k, stt_j, stt_eq, stt_kr]; rw [h6 (B + 9) (by omega) (by omega) (by omega) (by omega) (by omega)]; exact L1
               · rw [x4 _ (by omega) (by omega)]; simp (disch := omega) only [stt_k, stt_j, stt_eq, stt_kr]; rw [h6 (B + 10) (by omega) (by omega) (by omega) (by omega) (by omega)]; exact C0
               · rw [x4 _ (by omega) (by omega)]; simp (disch := omega) only [stt_k, stt_j, stt_eq, stt_kr]; rw [h6 (B + 10) (by omega) (by omega) (by omega) (by omega) (by omega)]; exact C1
               · rw [x4 _ (by omega) (by omega)]; simp (disch := omega) only [stt_k, stt_j, stt_eq, stt_kr]; rw [h6 (B + 10) (by omega) (by omega) (by omega) (by omega) (by omega)]; exact C2
               · rw [x4 _ (by omega) (by omega)]; simp (disch := omega) only [stt_k, stt_j, stt_eq, stt_kr]; rw [h6 (B + 10) (by omega) (by omega) (by omega) (by omega) (by omega)]; exact C3
               · rw [x4 _ (by omega) (by omega)]; simp (disch := omega) only [stt_k, stt_j, stt_eq, stt_kr]; rw [h6 (B + 10) (by omega) (by omega) (by omega) (by omega) (by omega)]; exact C4 q q0 q1
               · rw [x4 _ (by omega) (by omega)]; simp (disch := omega) only [stt_k, stt_j, stt_eq, stt_kr]; rw [h6 (B + 10) (by omega) (by omega) (by omega) (by omega) (by omega)]; exact C5 j hj
               · refine ⟨?_, fun i i0 i1 => ?_⟩
                 · rw [x4 _ (by omega) (by omega)]; simp (disch := omega) only [stt_k, stt_j, stt_eq, stt_kr]; exact hN.1
                 · rw [x4 _ (by omega) (by omega), x4 _ (by omega) (by omega), x4 _ (by omega) (by omega), x4 _ (by omega) (by omega)]; simp (disch := omega) only [stt_k, stt_j, stt_eq, stt_kr]; exact hN.2 i i0 i1
             · rw [x4 _ (by omega) (by omega)]
               simp (disch := omega) only [stt_kr]
               rw [h6 k (by omega) (by omega) (by omega) (by omega) (by omega), hF2 k (by omega) (by omega) kb])
      · have hii : i < s 0 := by omega
        have hpn := prS_wp hw (bd_b hw hb) i.toNat (by omega)
        have hbi := bd_b hw hb i h0 hii
        have hfe := FE_b hw hb i h0 hii
        have hgo := GO_b hw hb i
        have hw3 := w3 i h0 (by omega)
        have h5i := h5 i (by omega) (by omega)
        have hF3i : G (B + 3) i = bdS s i := by rw [h5i.2.1]; exact (rp i h0 (by omega)).2.2.1
        have hcoin : G (B + 1) i = s (126 + 6 * i) := by rw [h5i.1]; exact (rp i h0 (by omega)).1
        have hpaid : G (B + 5) i = s (126 + 6 * i + 4) := by rw [h5i.2.2.1]; exact (rp i h0 (by omega)).2.2.2.2.1
        have hgot : G (B + 6) i = s (126 + 6 * i + 5) := by rw [h5i.2.2.2]; exact (rp i h0 (by omega)).2.2.2.2.2
        have hgop := gOp i h0 hii
        refine R_aload_n fX5_settle_58 rfl ?_
        refine R_getP 16 fX5_settle_59 (shS_k0 hS) (shS_3 hS 0) rfl rfl rfl (shS_p16 hS) ?_
        refine R_iload_n fX5_settle_62 rfl ?_
        refine R_aload_n fX5_settle_63 rfl ?_
        refine R_getP 9 fX5_settle_64 (shS_k0 hS) (shS_3 hS 0) rfl rfl rfl (shS_p9 hS) ?_
        refine R_iload_n fX5_settle_67 rfl ?_
        refine R_iaload fX5_settle_68 (shS_k3 hS) (by omega) ?_
        refine R_iload_n fX5_settle_69 rfl ?_
        refine R_aload_n fX5_settle_70 rfl ?_
        refine R_getI 0 fX5_settle_71 hO.2.1 hO.1 rfl rfl rfl ?_
        refine R_icmp_ne fX5_settle_74 rfl (fun h74 => ?_) (fun h74 => ?_)
        · refine R_iconst fX5_settle_81 ?_
          refine R_callN fX5_settle_82 rfl rfl pX3_note rfl ⟨Nat.le_of_ble_eq_true rfl, rcv_v rfl (shS_3 hS 11) (shS_k11 hS)⟩ (sp_note (by omega) hS hN hpn.1.1 (by rw [hF3i]; exact WP_new hpn.1 (by omega) hbi) (by omega) hpn.2.1) (fun G1 x => ?_)
          have x3 : RelN B G1 (prS s (i + 1).toNat) := by
            have x1 := x.1
            rw [hF3i] at x1
            rw [toN h0]
            show RelN B G1 (notesS (prS s i.toNat) ((i.toNat : Nat) : Int) (bdS s ((i.toNat : Nat) : Int)) (oneW (wnS s) ((i.toNat : Nat) : Int)))
            rw [toC h0]
            first
            | (rw [show oneW (wnS s) i = 0 by unfold oneW; rw [if_neg (by rw [← gO0]; exact h74)]]; exact x1)
            | (rw [show oneW (wnS s) i = 1 by unfold oneW; rw [if_pos (by rw [← gO0]; exact h74)]]; exact x1)
          have x2 := x.2
          have g1a : G1 (B + 1) = G (B + 1) := x2 _ (by omega)
          have g1b : G1 (O + 1) = G (O + 1) := x2 _ (by omega)
          have g1c : G1 (O + 2) = G (O + 2) := x2 _ (by omega)
          refine R_aload_n fX5_settle_85 rfl ?_
          refine R_getP 7 fX5_settle_86 (shS_k0 hS) (shS_3 hS 0) rfl rfl rfl (shS_p7 hS) ?_
          refine R_iload_n fX5_settle_89 rfl ?_
          refine R_aload_n fX5_settle_90 rfl ?_
          refine R_aload_n fX5_settle_91 rfl ?_
          refine R_iload_n fX5_settle_92 rfl ?_
          refine R_callE fX5_settle_93 rfl rfl pX2_coinsBehind rfl ⟨Nat.le_of_ble_eq_true rfl, rcv_v rfl hO.1 hO.2.1⟩ (sp_coinsBehind (by omega) hO hS (by omega) (by rw [g1a, g1b, g1c, hcoin, hgop.1, hgop.2]; omega)) ?_
          refine R_iastore fX5_settle_96 (shS_k1 hS) (shS_3 hS 1) (by omega) ?_
          refine R_aload_n fX5_settle_97 rfl ?_
          refine R_getP 11 fX5_settle_98 (shS_k0 hS) (shS_3 hS 0) rfl rfl rfl (shS_p11 hS) ?_
          refine R_iload_n fX5_settle_101 rfl ?_
          refine R_dup2 fX5_settle_102 ?_
          refine R_iaload fX5_settle_103 (shS_k5 hS) (by omega) ?_
          refine R_aload_n fX5_settle_104 rfl ?_
          refine R_getP 4 fX5_settle_105 hO.2.1 hO.1 rfl rfl rfl hO.2.2.2.2.1 ?_
          refine R_iload_n fX5_settle_108 rfl ?_
          refine R_iaload fX5_settle_109 hO.2.2.1 (by omega) ?_
          refine R_iaddV fX5_settle_110 (rfl) ?_
          refine R_iastore fX5_settle_111 (shS_k5 hS) (shS_3 hS 5) (by omega) ?_
          refine R_aload_n fX5_settle_112 rfl ?_
          refine R_getP 12 fX5_settle_113 (shS_k0 hS) (shS_3 hS 0) rfl rfl rfl (shS_p12 hS) ?_
          refine R_iload_n fX5_settle_116 rfl ?_
          refine R_dup2 fX5_settle_117 ?_
          refine R_iaload fX5_settle_118 (shS_k6 hS) (by omega) ?_
          refine R_aload_n fX5_settle_119 rfl ?_
          refine R_getP 5 fX5_settle_120 hO.2.1 hO.1 rfl rfl rfl hO.2.2.2.2.2 ?_
          refine R_iload_n fX5_settle_123 rfl ?_
          refine R_iaload fX5_settle_124 hO.2.2.2.1 (by omega) ?_
          refine R_iaddV fX5_settle_125 (rfl) ?_
          refine R_iastore fX5_settle_126 (shS_k6 hS) (shS_3 hS 6) (by omega) ?_
          refine R_aload_n fX5_settle_127 rfl ?_
          refine R_getP 9 fX5_settle_128 (shS_k0 hS) (shS_3 hS 0) rfl rfl rfl (shS_p9 hS) ?_
          refine R_iload_n fX5_settle_131 rfl ?_
          refine R_iconst fX5_settle_132 ?_
          refine R_iastore fX5_settle_133 (shS_k3 hS) (shS_3 hS 3) (by omega) ?_
          refine R_iinc fX5_settle_134 rfl (by omega) ?_
          refine R_goto fX5_settle_137 rfl ?_
          refine ih _ _ (by omega) (by omega) ?_ (fun p p0 p1 => ?_) (fun p p0 p1 => ?_) (fun k k1 k2 k3 k4 k5 => ?_) (by omega)
          · refine ⟨?_, fun i i0 i1 => ?_⟩
            · simp (disch := omega) only [stt_k, stt_j, stt_eq, stt_kr]; exact x3.1
            · simp (disch := omega) only [stt_k, stt_j, stt_eq, stt_kr]; exact x3.2 i i0 i1
          · by_cases hpi : p = i
            · subst hpi
              simp (disch := omega) only [stt_k, stt_j, stt_eq, stt_kr]
              rw [g1a, g1b, g1c, x2 (B + 5) (by omega), x2 (B + 6) (by omega), hcoin, hgop.1, hgop.2, hpaid, hgot]
              simp
            · simp (disch := omega) only [stt_k, stt_j, stt_eq, stt_kr]
              rw [x2 (B + 1) (by omega), x2 (B + 3) (by omega), x2 (B + 5) (by omega), x2 (B + 6) (by omega)]
              exact h3 p p0 (by omega)
          · simp (disch := omega) only [stt_k, stt_j, stt_eq, stt_kr]
            rw [x2 (B + 1) (by omega), x2 (B + 3) (by omega), x2 (B + 5) (by omega), x2 (B + 6) (by omega)]
            exact h5 p (by omega) p1
          · simp (disch := omega) only [stt_kr]
            rw [x2 k (by omega)]
            exact h6 k k1 k2 k3 k4 k5
        · refine R_iconst fX5_settle_77 ?_
          refine R_goto fX5_settle_78 rfl ?_
          refine R_callN fX5_settle_82 rfl rfl pX3_note rfl ⟨Nat.le_of_ble_eq_true rfl, rcv_v rfl (shS_3 hS 11) (shS_k11 hS)⟩ (sp_note (by omega) hS hN hpn.1.1 (by rw [hF3i]; exact WP_new hpn.1 (by omega) hbi) (by omega) hpn.2.1) (fun G1 x => ?_)
          have x3 : RelN B G1 (prS s (i + 1).toNat) := by
            have x1 := x.1
            rw [hF3i] at x1
            rw [toN h0]
            show RelN B G1 (notesS (prS s i.toNat) ((i.toNat : Nat) : Int) (bdS s ((i.toNat : Nat) : Int)) (oneW (wnS s) ((i.toNat : Nat) : Int)))
            rw [toC h0]
            first
            | (rw [show oneW (wnS s) i = 0 by unfold oneW; rw [if_neg (by rw [← gO0]; exact h74)]]; exact x1)
            | (rw [show oneW (wnS s) i = 1 by unfold oneW; rw [if_pos (by rw [← gO0]; exact h74)]]; exact x1)
          have x2 := x.2
          have g1a : G1 (B + 1) = G (B + 1) := x2 _ (by omega)
          have g1b : G1 (O + 1) = G (O + 1) := x2 _ (by omega)
          have g1c : G1 (O + 2) = G (O + 2) := x2 _ (by omega)
          refine R_aload_n fX5_settle_85 rfl ?_
          refine R_getP 7 fX5_settle_86 (shS_k0 hS) (shS_3 hS 0) rfl rfl rfl (shS_p7 hS) ?_
          refine R_iload_n fX5_settle_89 rfl ?_
          refine R_aload_n fX5_settle_90 rfl ?_
          refine R_aload_n fX5_settle_91 rfl ?_
          refine R_iload_n fX5_settle_92 rfl ?_
          refine R_callE fX5_settle_93 rfl rfl pX2_coinsBehind rfl ⟨Nat.le_of_ble_eq_true rfl, rcv_v rfl hO.1 hO.2.1⟩ (sp_coinsBehind (by omega) hO hS (by omega) (by rw [g1a, g1b, g1c, hcoin, hgop.1, hgop.2]; omega)) ?_
          refine R_iastore fX5_settle_96 (shS_k1 hS) (shS_3 hS 1) (by omega) ?_
          refine R_aload_n fX5_settle_97 rfl ?_
          refine R_getP 11 fX5_settle_98 (shS_k0 hS) (shS_3 hS 0) rfl rfl rfl (shS_p11 hS) ?_
          refine R_iload_n fX5_settle_101 rfl ?_
          refine R_dup2 fX5_settle_102 ?_
          refine R_iaload fX5_settle_103 (shS_k5 hS) (by omega) ?_
          refine R_aload_n fX5_settle_104 rfl ?_
          refine R_getP 4 fX5_settle_105 hO.2.1 hO.1 rfl rfl rfl hO.2.2.2.2.1 ?_
          refine R_iload_n fX5_settle_108 rfl ?_
          refine R_iaload fX5_settle_109 hO.2.2.1 (by omega) ?_
          refine R_iaddV fX5_settle_110 (rfl) ?_
          refine R_iastore fX5_settle_111 (shS_k5 hS) (shS_3 hS 5) (by omega) ?_
          refine R_aload_n fX5_settle_112 rfl ?_
          refine R_getP 12 fX5_settle_113 (shS_k0 hS) (shS_3 hS 0) rfl rfl rfl (shS_p12 hS) ?_
          refine R_iload_n fX5_settle_116 rfl ?_
          refine R_dup2 fX5_settle_117 ?_
          refine R_iaload fX5_settle_118 (shS_k6 hS) (by omega) ?_
          refine R_aload_n fX5_settle_119 rfl ?_
          refine R_getP 5 fX5_settle_120 hO.2.1 hO.1 rfl rfl rfl hO.2.2.2.2.2 ?_
          refine R_iload_n fX5_settle_123 rfl ?_
          refine R_iaload fX5_settle_124 hO.2.2.2.1 (by omega) ?_
          refine R_iaddV fX5_settle_125 (rfl) ?_
          refine R_iastore fX5_settle_126 (shS_k6 hS) (shS_3 hS 6) (by omega) ?_
          refine R_aload_n fX5_settle_127 rfl ?_
          refine R_getP 9 fX5_settle_128 (shS_k0 hS) (shS_3 hS 0) rfl rfl rfl (shS_p9 hS) ?_
          refine R_iload_n fX5_settle_131 rfl ?_
          refine R_iconst fX5_settle_132 ?_
          refine R_iastore fX5_settle_133 (shS_k3 hS) (shS_3 hS 3) (by omega) ?_
          refine R_iinc fX5_settle_134 rfl (by omega) ?_
          refine R_goto fX5_settle_137 rfl ?_
          refine ih _ _ (by omega) (by omega) ?_ (fun p p0 p1 => ?_) (fun p p0 p1 => ?_) (fun k k1 k2 k3 k4 k5 => ?_) (by omega)
          · refine ⟨?_, fun i i0 i1 => ?_⟩
            · simp (disch := omega) only [stt_k, stt_j, stt_eq, stt_kr]; exact x3.1
            · simp (disch := omega) only [stt_k, stt_j, stt_eq, stt_kr]; exact x3.2 i i0 i1
          · by_cases hpi : p = i
            · subst hpi
              simp (disch := omega) only [stt_k, stt_j, stt_eq, stt_kr]
              rw [g1a, g1b, g1c, x2 (B + 5) (by omega), x2 (B + 6) (by omega), hcoin, hgop.1, hgop.2, hpaid, hgot]
              simp
            · simp (disch := omega) only [stt_k, stt_j, stt_eq, stt_kr]
              rw [x2 (B + 1) (by omega), x2 (B + 3) (by omega), x2 (B + 5) (by omega), x2 (B + 6) (by omega)]
              exact h3 p p0 (by omega)
          · simp (disch := omega) only [stt_k, stt_j, stt_eq, stt_kr]
            rw [x2 (B + 1) (by omega), x2 (B + 3) (by omega), x2 (B + 5) (by omega), x2 (B + 6) (by omega)]
            exact h5 p (by omega) p1
          · simp (disch := omega) only [stt_kr]
            rw [x2 k (by omega)]
            exact h6 k k1 k2 k3 k4 k5
  refine R_aload_n fX5_settle_0 rfl ?_
  refine R_callE fX5_settle_1 rfl rfl pX5_isOver rfl ⟨Nat.le_of_ble_eq_true rfl, rcv_v rfl (shS_3 hS 0) (shS_k0 hS)⟩ (sp_isOver (by omega) hS hR hw) ?_
  refine R_if_ne fX5_settle_4 rfl (fun h4 => ?_) (fun h4 => ?_)
  · refine R_ldc fX5_settle_18 ?_
    refine R_ireturn fX5_settle_20 rfl ?_
    refine ⟨_, _, rfl, by unfold aRes; rw [if_pos (by first | exact Or.inl (cI_1 h4) | exact Or.inr (by unfold bidsS; omega))], by unfold tRes; rw [if_pos (by first | exact Or.inl (cI_1 h4) | exact Or.inr (by unfold bidsS; omega))]; exact hR, fun _ _ _ => rfl⟩
  · refine R_aload_n fX5_settle_7 rfl ?_
    refine R_callE fX5_settle_8 rfl rfl pX5_bidCount rfl ⟨Nat.le_of_ble_eq_true rfl, rcv_v rfl (shS_3 hS 0) (shS_k0 hS)⟩ (sp_bidCount (by omega) hS hR hw) ?_
    refine R_aload_n fX5_settle_11 rfl ?_
    refine R_getI 0 fX5_settle_12 (shS_k0 hS) (shS_3 hS 0) rfl rfl rfl ?_
    refine R_icmp_ge fX5_settle_15 rfl (fun h15 => ?_) (fun h15 => ?_)
    · have h4n := cI_0 h4
      have hc : ¬ (s 4 = 0 ∨ bidsS s < s 0) := by unfold bidsS; omega
      have hb : BD s := BD_of hw (by omega)
      refine R_aload_n fX5_settle_21 rfl ?_
      refine R_aload_n fX5_settle_22 rfl ?_
      refine R_aload_n fX5_settle_23 rfl ?_
      refine R_getP 9 fX5_settle_24 (shS_k0 hS) (shS_3 hS 0) rfl rfl rfl (shS_p9 hS) ?_
      refine R_callN fX5_settle_27 rfl rfl pX2_work rfl ⟨Nat.le_of_ble_eq_true rfl, rcv_v rfl hO.1 hO.2.1⟩ (sp_work (by omega) hO hS (shS_k3 hS) (by omega) (by omega) hBO hR hw (fun p p0 p1 => by rw [hf3 p p0 (by omega)]; exact bd_b hw hb p p0 p1)) (fun F1 x => ?_)
      obtain ⟨x0, x1, x2, x3, x4, x5⟩ := x
      rw [winF_congr hf3] at x0
      rw [grF_congr hf3] at x1
      rw [grF_congr hf3, cnF_congr hf3] at x2
      rw [potF_congr hf3, partF_congr hf3] at x3
      have x4b : ∀ p, 0 ≤ p → p < s 0 → F1 (O + 1) p = FE s p ∧ F1 (O + 2) p = GO s p := fun p a b => by
        have h := x4 p a b
        rw [feeF_congr hf3 a (by omega), gotF_congr hf3] at h
        exact h
      have hR1 : Rel B F1 s := Rel_frame hR (fun k a b => x5 k (by omega))
      have hF9 : F1 (B + 9) = F (B + 9) := x5 _ (by omega)
      have hF10 : F1 (B + 10) = F (B + 10) := x5 _ (by omega)
      have hF3 : F1 (B + 3) = F (B + 3) := x5 _ (by omega)
      refine R_aload_n fX5_settle_30 rfl ?_
      refine R_callE fX5_settle_31 rfl rfl pX5_nextStake rfl ⟨Nat.le_of_ble_eq_true rfl, rcv_v rfl (shS_3 hS 0) (shS_k0 hS)⟩ (sp_nextStake (by omega) hS hR1 hw) ?_
      rw [if_neg h4n]
      refine R_istore_n fX5_settle_34 rfl ?_
      refine R_aload_n fX5_settle_35 rfl ?_
      refine R_getP 15 fX5_settle_36 (shS_k0 hS) (shS_3 hS 0) rfl rfl rfl (shS_p15 hS) ?_
      refine R_aload_n fX5_settle_39 rfl ?_
      refine R_iload_n fX5_settle_40 rfl ?_
      refine R_aload_n fX5_settle_41 rfl ?_
      refine R_getP 9 fX5_settle_42 (shS_k0 hS) (shS_3 hS 0) rfl rfl rfl (shS_p9 hS) ?_
      refine R_callN fX5_settle_45 rfl rfl pX4_add rfl ⟨Nat.le_of_ble_eq_true rfl, rcv_v rfl (shS_3 hS 9) (shS_k9 hS)⟩ (sp_logAdd (by omega) hS hO (shS_k3 hS) hBO (by omega) (by omega) (by rw [hF9]; exact rg2) (by rw [hF9, rg1]; exact w7)) (fun F2 y => ?_)
      obtain ⟨y2, y1, z0, z1, z2, z3, z4, z5, y6⟩ := y
      rw [hF9] at y2 y1 z0 z1 z2 z3 z4 z5
      rw [hF10] at z5
      rw [hF3] at z4
      refine R_iconst fX5_settle_48 ?_
      refine R_istore_n fX5_settle_49 rfl ?_
      refine main hc F2 _ rfl hb ⟨?_, ?_, fun p a b => ?_⟩ ⟨y2, y1, ?_, ?_, z2, ?_, z4, z5⟩ (fun k k1 k2 k3 => ?_) 5 0 F2 (by omega) (by omega) ?_ (fun p p0 p1 => by omega) (fun p p0 p1 => ?_) (fun _ _ _ _ _ _ => rfl) (by omega)
      · rw [y6 O (by omega) (by omega)]; exact x0
      · rw [y6 O (by omega) (by omega)]; exact x3
      · rw [y6 _ (by omega) (by omega), y6 _ (by omega) (by omega)]; exact x4b p a b
      · rw [z0]; exact x0
      · rw [z1]; exact x1
      · rw [z3]; exact x2
      · rw [y6 k k1 k2]; exact x5 k k3
      · refine ⟨?_, fun i i0 i1 => ?_⟩
        · rw [y6 _ (by omega) (by omega), x5 _ (by omega)]; exact rn
        · rw [y6 _ (by omega) (by omega), x5 _ (by omega), y6 _ (by omega) (by omega), x5 _ (by omega), y6 _ (by omega) (by omega), x5 _ (by omega), y6 _ (by omega) (by omega), x5 _ (by omega)]; exact rr i i0 i1
      · rw [y6 _ (by omega) (by omega), x5 _ (by omega), y6 _ (by omega) (by omega), x5 _ (by omega), y6 _ (by omega) (by omega), x5 _ (by omega), y6 _ (by omega) (by omega), x5 _ (by omega)]
        exact ⟨rfl, rfl, rfl, rfl⟩
    · refine R_ldc fX5_settle_18 ?_
      refine R_ireturn fX5_settle_20 rfl ?_
      refine ⟨_, _, rfl, by unfold aRes; rw [if_pos (by first | exact Or.inl (cI_1 h4) | exact Or.inr (by unfold bidsS; omega))], by unfold tRes; rw [if_pos (by first | exact Or.inl (cI_1 h4) | exact Or.inr (by unfold bidsS; omega))]; exact hR, fun _ _ _ => rfl⟩
