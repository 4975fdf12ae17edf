/-! ## the law's round: its end -/
theorem PA_eq {s : Int → Int} (hw : WF s) (hb : BD s) (h0 : 0 ≤ wnS s) : PA s = if s 28 = 1 then wr (Int.tdiv (PT s) (s 0 - 1)) else 0 := by
  have h1 := PA_b hw hb
  have h2 := hw.1
  have h3 : PA s = if wnS s ≠ -1 ∧ s 28 = 1 then Int.tdiv (PT s) (((s 0).toNat : Int) - 1) else 0 := rfl
  rw [show (((s 0).toNat : Int) - 1) = s 0 - 1 by omega] at h3
  by_cases hs : s 28 = 1
  · rw [if_pos ⟨by omega, hs⟩] at h3
    rw [if_pos hs, ← h3, wr_id (by unfold inb; omega)]
  · rw [if_neg (fun z => hs z.2)] at h3
    rw [if_neg hs, h3]
theorem PA_n {s : Int → Int} (h0 : wnS s < 0) (hw : WF s) : PA s = 0 := by
  have h := wnS_in hw
  show (if wnS s ≠ -1 ∧ s 28 = 1 then _ else _) = _
  rw [if_neg (fun z => z.1 (by omega))]
theorem GO_w {s : Int → Int} {p : Int} (h : p = wnS s) : GO s p = 0 := if_pos h
theorem GO_o {s : Int → Int} {p : Int} (h : p ≠ wnS s) : GO s p = PA s := if_neg h
theorem LQ_res {s f : Int → Int} (hw : WF s) (hb : BD s) (h : LQ f (prS s (s 0).toNat)) : LQ f (resS s) := by
  have hpr := (prS_wp hw (bd_b hw hb) (s 0).toNat (by have := hw.1; omega)).1.1
  intro i i0 i1
  rw [res_pr hw hb (by omega) (by omega)] at i1
  rw [res_pr hw hb (by omega) (by omega), res_pr hw hb (by omega) (by omega), res_pr hw hb (by omega) (by omega), res_pr hw hb (by omega) (by omega)]
  exact h i i0 i1
/-- what the law's rows hold behind a round -/
theorem LR_res {s : Int → Int} {F F' : FM} (hw : WF s) (hb : BD s) (h4 : 1 ≤ s 4) (hL : LR F s)
    (f0 : F' 128 0 = s 0) (f1 : F' 128 1 = PT s - PA s * (s 0 - 1)) (f2 : F' 128 2 = wr (s 2 + 1)) (f3 : F' 128 3 = wr (s 3 + (if wnS s < 0 then 1 else 0))) (f4 : F' 128 4 = s 4 - 1) (f5 : F' 128 5 = if 0 ≤ wnS s then 0 else s 25 + 1) (f6 : F' 128 6 = s 26) (f7 : F' 128 7 = s 27) (f8 : F' 128 8 = s 28) (f9 : F' 128 9 = if s 29 + 1 < 12 then s 29 + 1 else 12) (f10 : F' 128 10 = prS s (s 0).toNat 150)
    (fl : ∀ k, 0 ≤ k → k < s 4 - 1 → F' 129 k = F 129 (k + 1)) (ft : wnS s < 0 → F' 130 (s 25) = F 129 0 ∧ ∀ j, j ≠ s 25 → F' 130 j = F 130 j)
    (fp : ∀ p, 0 ≤ p → p < s 0 → F' 131 (6 * p) = s (126 + 6 * p) - FE s p + GO s p ∧ F' 131 (6 * p + 1) = (if p = wnS s then wr (s (126 + 6 * p + 1) + (tabS s + s 5)) else s (126 + 6 * p + 1)) ∧ F' 131 (6 * p + 2) = -1 ∧ F' 131 (6 * p + 3) = (if p = wnS s then wr (s (126 + 6 * p + 3) + 1) else s (126 + 6 * p + 3)) ∧ F' 131 (6 * p + 4) = wr (s (126 + 6 * p + 4) + FE s p) ∧ F' 131 (6 * p + 5) = wr (s (126 + 6 * p + 5) + GO s p))
    (fh : F' 132 0 = wnS s ∧ F' 132 1 = grF (bdS s) (s 0).toNat ∧ F' 132 2 = tabS s + s 5 ∧ F' 132 3 = cnF (bdS s) (grF (bdS s) (s 0).toNat) (s 0).toNat ∧ ∀ j, 4 ≤ j → j < 48 → F' 132 j = F 132 (j - 4))
    (fb : (∀ p, 0 ≤ p → p < s 0 → F' 133 p = bdS s p) ∧ ∀ j, 4 ≤ j → j < 48 → F' 133 j = F 133 (j - 4)) (fq : LQ (F' 134) (prS s (s 0).toNat)) : LR F' (resS s) := by
  obtain ⟨⟨g0, g1, g2, g3, g4, g5, g6, g7, g8, g9, g10⟩, hl, ht, hp, hh, hbb, hq⟩ := id hL
  have w0 := hw.1
  have w1 := hw.2.1
  have w7 := hw.2.2.2.2.2.2.2.1
  have lo : ∀ {j : Int}, j < 126 → j ≠ 1 → j ≠ 25 → resS s j = r1S s j := fun a b c => res_lo hw hb a b c
  have e0 : resS s 0 = s 0 := by rw [lo (by omega) (by omega) (by omega), r1_same hw (by omega)]
  have e29 : resS s 29 = if s 29 + 1 < 12 then s 29 + 1 else 12 := by rw [lo (by omega) (by omega) (by omega), r1_29 hw]
  have e4 : resS s 4 = s 4 - 1 := by rw [lo (by omega) (by omega) (by omega), r1_4 hw]
  have e25 := res_25 hw hb
  refine ⟨⟨?_, ?_, ?_, ?_, ?_, ?_, ?_, ?_, ?_, ?_, ?_⟩, fun k k0 k1 => ?_, fun k k0 k1 => ?_, fun p i p0 p1 i0 i1 => ?_, fun k i k0 k1 i0 i1 => ?_, fun k i k0 k1 i0 i1 => ?_, LQ_res hw hb fq⟩
  · rw [e0]; exact f0
  · rw [res_1 hw hb]; exact f1
  · rw [lo (by omega) (by omega) (by omega), r1_2 hw]; exact f2
  · rw [lo (by omega) (by omega) (by omega), r1_3 hw]; exact f3
  · rw [e4]; exact f4
  · rw [e25]; exact f5
  · rw [lo (by omega) (by omega) (by omega), r1_same hw (by omega)]; exact f6
  · rw [lo (by omega) (by omega) (by omega), r1_same hw (by omega)]; exact f7
  · rw [lo (by omega) (by omega) (by omega), r1_same hw (by omega)]; exact f8
  · rw [e29]; exact f9
  · rw [res_pr hw hb (by omega) (by omega)]; exact f10
  · rw [e4] at k1
    rw [fl k k0 k1, hl (k + 1) (by omega) (by omega), lo (by omega) (by omega) (by omega), r1_row hw (by omega), show 5 + k + 1 = 5 + (k + 1) by omega]
  · rw [e25] at k1
    by_cases hc : 0 ≤ wnS s
    · rw [if_pos hc] at k1; omega
    · rw [if_neg hc] at k1
      obtain ⟨t1, t2⟩ := ft (by omega)
      rw [res_hi hw hb (by omega)]
      by_cases hk : k = s 25
      · have e5 := hl 0 (by omega) (by omega)
        rw [Int.add_zero] at e5
        rw [hk, r1_tab hw, t1, e5]
      · rw [r1_tabo hw (by omega) (by omega), t2 k hk, ht k k0 (by omega)]
  · rw [e0] at p1
    obtain ⟨x0, x1, x2, x3, x4, x5⟩ := res_pl hw hb p0 p1
    obtain ⟨y0, y1, y2, y3, y4, y5⟩ := fp p p0 p1
    rcases (by omega : i = 0 ∨ i = 1 ∨ i = 2 ∨ i = 3 ∨ i = 4 ∨ i = 5) with z | z | z | z | z | z <;> subst z
    · rw [Int.add_zero, Int.add_zero, x0, y0]
    · rw [x1, y1]
    · rw [x2, y2]
    · rw [x3, y3]
    · rw [x4, y4]
    · rw [x5, y5]
  · rw [e29] at k1
    obtain ⟨h0, h1, h2, h3, h5⟩ := fh
    by_cases hk : k = 0
    · subst hk
      rw [show (4 : Int) * 0 + i = i by omega, show (30 : Int) + 8 * 0 + i = 30 + i by omega, lo (by omega) (by omega) (by omega)]
      rcases (by omega : i = 0 ∨ i = 1 ∨ i = 2 ∨ i = 3) with z | z | z | z <;> subst z
      · rw [Int.add_zero, r1_30, h0]
      · rw [show (30 : Int) + 1 = 31 by omega, r1_31, h1]
      · rw [show (30 : Int) + 2 = 32 by omega, r1_32, h2]
      · rw [show (30 : Int) + 3 = 33 by omega, r1_33, h3]
    · have hk1 : k - 1 < s 29 ∧ k < 12 := by split at k1 <;> omega
      have e := hh (k - 1) i (by omega) (by omega) i0 i1
      rw [show 30 + 8 * (k - 1) + i = 30 + 8 * k + i - 8 by omega, show 4 * (k - 1) + i = 4 * k + i - 4 by omega] at e
      rw [lo (by omega) (by omega) (by omega), r1_log hw (by omega), h5 _ (by omega) (by omega), e]
  · rw [e29] at k1
    rw [e0] at i1
    by_cases hk : k = 0
    · subst hk
      rw [show (4 : Int) * 0 + i = i by omega, show (34 : Int) + 8 * 0 + i = 34 + i by omega, lo (by omega) (by omega) (by omega), r1_bid hw (by omega), fb.1 i i0 i1]
      rfl
    · have hk1 : k - 1 < s 29 ∧ k < 12 := by split at k1 <;> omega
      have e := hbb (k - 1) i (by omega) (by omega) i0 i1
      rw [show 34 + 8 * (k - 1) + i = 34 + 8 * k + i - 8 by omega, show 4 * (k - 1) + i = 4 * k + i - 4 by omega] at e
      rw [lo (by omega) (by omega) (by omega), r1_log hw (by omega), fb.2 _ (by omega) (by omega), e]
/-- what the players have when the pot is shared up to i -/
def sv (s : Int → Int) (i p c : Int) : Int := if c = 0 then s (126 + 6 * p) - FE s p + (if p < i then GO s p else 0) else if c = 1 then (if p = wnS s then wr (s (126 + 6 * p + 1) + (tabS s + s 5)) else s (126 + 6 * p + 1)) else if c = 2 then -1 else if c = 3 then (if p = wnS s then wr (s (126 + 6 * p + 3) + 1) else s (126 + 6 * p + 3)) else if c = 4 then wr (s (126 + 6 * p + 4) + FE s p) else (if p < i then wr (s (126 + 6 * p + 5) + GO s p) else s (126 + 6 * p + 5))
theorem sv_0 {s : Int → Int} {i p : Int} : sv s i p 0 = s (126 + 6 * p) - FE s p + (if p < i then GO s p else 0) := if_pos rfl
theorem sv_1 {s : Int → Int} {i p : Int} : sv s i p 1 = (if p = wnS s then wr (s (126 + 6 * p + 1) + (tabS s + s 5)) else s (126 + 6 * p + 1)) := by unfold sv; rw [if_neg (by omega), if_pos rfl]
theorem sv_2 {s : Int → Int} {i p : Int} : sv s i p 2 = -1 := by unfold sv; rw [if_neg (by omega), if_neg (by omega), if_pos rfl]
theorem sv_3 {s : Int → Int} {i p : Int} : sv s i p 3 = (if p = wnS s then wr (s (126 + 6 * p + 3) + 1) else s (126 + 6 * p + 3)) := by unfold sv; rw [if_neg (by omega), if_neg (by omega), if_neg (by omega), if_pos rfl]
theorem sv_4 {s : Int → Int} {i p : Int} : sv s i p 4 = wr (s (126 + 6 * p + 4) + FE s p) := by unfold sv; rw [if_neg (by omega), if_neg (by omega), if_neg (by omega), if_neg (by omega), if_pos rfl]
theorem sv_5 {s : Int → Int} {i p : Int} : sv s i p 5 = (if p < i then wr (s (126 + 6 * p + 5) + GO s p) else s (126 + 6 * p + 5)) := by unfold sv; rw [if_neg (by omega), if_neg (by omega), if_neg (by omega), if_neg (by omega), if_neg (by omega)]
theorem sv_o {s : Int → Int} {i p c : Int} (h : p ≠ i ∨ (c ≠ 0 ∧ c ≠ 5)) (hc : 0 ≤ c ∧ c < 6) : sv s (i + 1) p c = sv s i p c := by
  rcases (by omega : c = 0 ∨ c = 1 ∨ c = 2 ∨ c = 3 ∨ c = 4 ∨ c = 5) with z | z | z | z | z | z <;> subst z
  · rw [sv_0, sv_0]
    by_cases hp : p < i
    · rw [if_pos hp, if_pos (by omega)]
    · rw [if_neg hp, if_neg (by omega)]
  · rw [sv_1, sv_1]
  · rw [sv_2, sv_2]
  · rw [sv_3, sv_3]
  · rw [sv_4, sv_4]
  · rw [sv_5, sv_5]
    by_cases hp : p < i
    · rw [if_pos hp, if_pos (by omega)]
    · rw [if_neg hp, if_neg (by omega)]
theorem lr_4 {d : Nat} {kd : KL} {F : FM} {P : PM} {s : Int → Int} {G H : FM} {a c n10 : Int} {x11 x12 : Option AV} (hK : LK kd) (hL : LR F s) (hw : WF s) (hb : BD s) (h4 : 1 ≤ s 4) (hg : (G 128 4 = s 4 - 1 ∧ G 128 5 = s 25 + 1 ∧ ∀ j, j ≠ 4 → j ≠ 5 → G 128 j = F 128 j) ∧ (∀ k, 0 ≤ k → k < s 4 - 1 → G 129 k = F 129 (k + 1)) ∧ (G 130 (s 25) = F 129 0 ∧ ∀ j, j ≠ s 25 → G 130 j = F 130 j) ∧ (G 132 0 = wnS s ∧ G 132 1 = grF (bdS s) (s 0).toNat ∧ G 132 2 = tabS s + s 5 ∧ G 132 3 = cnF (bdS s) (grF (bdS s) (s 0).toNat) (s 0).toNat ∧ ∀ j, 4 ≤ j → j < 48 → G 132 j = F 132 (j - 4)) ∧ (∀ j, 4 ≤ j → j < 48 → G 133 j = F 133 (j - 4)) ∧ (∀ k, k < 128 → G k = F k)) (hI : IP s G (s 0) H) : Rn d mL_resolve 382 [some (.inr (some 128)), some (.inr (some 129)), some (.inr (some 130)), some (.inr (some 131)), some (.inr (some 132)), some (.inr (some 133)), some (.inr (some 134)), some (.inl a), some (.inl c), some (.inl (wnS s)), some (.inl n10), x11, x12] [] kd H P (QV kd P (fun r F' => r = wnS s ∧ LR F' (resS s) ∧ ∀ k, k < 128 → F' k = F k)) := by
  obtain ⟨kg, kl, kt, kp, kh, kb, kq, kx⟩ := id hK
  obtain ⟨hg1, hg2, hg3, hg4, hg5, hg6⟩ := hg
  obtain ⟨⟨b1, b10, bo⟩, bq, bp, bb, bb4, ⟨r9, r30, r32⟩, bl⟩ := id hI
  obtain ⟨⟨g0, g1, g2, g3, g4, g5, g6, g7, g8, g9, g10⟩, hl, ht, hp, hh, hbb, hq⟩ := id hL
  have w0 := hw.1
  have w3 := hw.2.2.2.1
  have w7 := hw.2.2.2.2.2.2.2.1
  have hwi := wnS_in hw
  have pt : H 128 1 = PT s := b1
  have ptb := PT_b hw hb
  have pab := PA_b hw hb
  have o : ∀ j, j ≠ 1 → j ≠ 4 → j ≠ 5 → j ≠ 10 → H 128 j = F 128 j := fun j a b c e => by rw [bo j a e]; exact hg1.2.2 j b c
  have hin := hw.2.2.2.2.2.2.2.2.2.2.2.2.2
  have c4 : H 128 4 = s 4 - 1 := by rw [bo 4 (by omega) (by omega)]; exact hg1.1
  have c5 : H 128 5 = s 25 + 1 := by rw [bo 5 (by omega) (by omega)]; exact hg1.2.1
  have c0 : H 128 0 = s 0 := by rw [o 0 (by omega) (by omega) (by omega) (by omega)]; exact g0
  have c2 : H 128 2 = s 2 := by rw [o 2 (by omega) (by omega) (by omega) (by omega)]; exact g2
  have c3 : H 128 3 = s 3 := by rw [o 3 (by omega) (by omega) (by omega) (by omega)]; exact g3
  have c6 : H 128 6 = s 26 := by rw [o 6 (by omega) (by omega) (by omega) (by omega)]; exact g6
  have c7 : H 128 7 = s 27 := by rw [o 7 (by omega) (by omega) (by omega) (by omega)]; exact g7
  have c8 : H 128 8 = s 28 := by rw [o 8 (by omega) (by omega) (by omega) (by omega)]; exact g8
  have c9 : H 128 9 = s 29 := by rw [o 9 (by omega) (by omega) (by omega) (by omega)]; exact g9
  have bpl : ∀ p, 0 ≤ p → p < s 0 → H 131 (6 * p) = s (126 + 6 * p) - FE s p ∧ H 131 (6 * p + 1) = s (126 + 6 * p + 1) ∧ H 131 (6 * p + 2) = -1 ∧ H 131 (6 * p + 3) = s (126 + 6 * p + 3) ∧ H 131 (6 * p + 4) = wr (s (126 + 6 * p + 4) + FE s p) ∧ H 131 (6 * p + 5) = s (126 + 6 * p + 5) := fun p p0 p1 => by
    have e0 := bp p 0 p0 p1 (by omega) (by omega)
    have e1 := bp p 1 p0 p1 (by omega) (by omega)
    have e2 := bp p 2 p0 p1 (by omega) (by omega)
    have e3 := bp p 3 p0 p1 (by omega) (by omega)
    have e4 := bp p 4 p0 p1 (by omega) (by omega)
    have e5 := bp p 5 p0 p1 (by omega) (by omega)
    unfold pv at e0 e1 e2 e3 e4 e5
    rw [if_pos p1] at e0 e1 e2 e3 e4 e5
    rw [Int.add_zero, if_pos rfl] at e0
    rw [if_neg (by omega), if_neg (by omega), if_neg (by omega)] at e1
    rw [if_neg (by omega), if_pos rfl] at e2
    rw [if_neg (by omega), if_neg (by omega), if_neg (by omega)] at e3
    rw [if_neg (by omega), if_neg (by omega), if_pos rfl] at e4
    rw [if_neg (by omega), if_neg (by omega), if_neg (by omega)] at e5
    exact ⟨e0, e1, e2, e3, e4, e5⟩
  have done_ : ∀ (H2 : FM), (H2 128 0 = s 0 ∧ H2 128 1 = PT s - PA s * (s 0 - 1) ∧ H2 128 2 = wr (s 2 + 1) ∧ H2 128 3 = wr (s 3 + (if wnS s < 0 then 1 else 0)) ∧ H2 128 4 = s 4 - 1 ∧ H2 128 5 = (if 0 ≤ wnS s then 0 else s 25 + 1) ∧ H2 128 6 = s 26 ∧ H2 128 7 = s 27 ∧ H2 128 8 = s 28 ∧ H2 128 9 = (if s 29 + 1 < 12 then s 29 + 1 else 12) ∧ H2 128 10 = prS s (s 0).toNat 150) → (∀ p c, 0 ≤ p → p < s 0 → 0 ≤ c → c < 6 → H2 131 (6 * p + c) = sv s (s 0) p c) → (∀ k, k ≠ 128 → k ≠ 131 → H2 k = H k) → QV kd P (fun r F' => r = wnS s ∧ LR F' (resS s) ∧ ∀ k, k < 128 → F' k = F k) (some (.inl (wnS s)), kd, H2, P) := fun H2 d1 d2 d3 => by
    obtain ⟨y0, y1, y2, y3, y4, y5, y6, y7, y8, y9, y10⟩ := d1
    refine ⟨_, _, rfl, rfl, LR_res hw hb h4 hL y0 y1 y2 y3 y4 y5 y6 y7 y8 y9 y10 (fun k k0 k1 => ?_) (fun hn => ?_) (fun p p0 p1 => ?_) ?_ ⟨fun p p0 p1 => ?_, fun j j4 j5 => ?_⟩ ?_, fun k hk => ?_⟩
    · rw [d3 129 (by decide) (by decide), r9]; exact hg2 k k0 k1
    · rw [d3 130 (by decide) (by decide), r30]; exact hg3
    · have e0 := d2 p 0 p0 p1 (by omega) (by omega)
      rw [Int.add_zero, sv_0, if_pos p1] at e0
      have e5 := d2 p 5 p0 p1 (by omega) (by omega)
      rw [sv_5, if_pos p1] at e5
      refine ⟨e0, ?_, ?_, ?_, ?_, e5⟩
      · rw [d2 p 1 p0 p1 (by omega) (by omega), sv_1]
      · rw [d2 p 2 p0 p1 (by omega) (by omega), sv_2]
      · rw [d2 p 3 p0 p1 (by omega) (by omega), sv_3]
      · rw [d2 p 4 p0 p1 (by omega) (by omega), sv_4]
    · rw [d3 132 (by decide) (by decide), r32]; exact hg4
    · rw [d3 133 (by decide) (by decide)]; exact bb p p0 p1
    · rw [d3 133 (by decide) (by decide), bb4 j j4]; exact hg5 j j4 j5
    · rw [d3 134 (by decide) (by decide)]; exact bq
    · rw [d3 k (by omega) (by omega), bl k hk]; exact hg6 k hk
  have lp : ∀ (N : Nat) (i : Int) (H2 : FM) (x12 : Option AV), 0 ≤ wnS s → 0 ≤ i → i ≤ s 0 → (H2 128 0 = s 0 ∧ H2 128 1 = PT s - sg (GO s) i.toNat ∧ H2 128 2 = wr (s 2 + 1) ∧ H2 128 3 = s 3 ∧ H2 128 4 = s 4 - 1 ∧ H2 128 5 = 0 ∧ H2 128 6 = s 26 ∧ H2 128 7 = s 27 ∧ H2 128 8 = s 28 ∧ H2 128 9 = (if s 29 + 1 < 12 then s 29 + 1 else 12) ∧ H2 128 10 = prS s (s 0).toNat 150) → (∀ p c, 0 ≤ p → p < s 0 → 0 ≤ c → c < 6 → H2 131 (6 * p + c) = sv s i p c) → (∀ k, k ≠ 128 → k ≠ 131 → H2 k = H k) → s 0 - i < N → Rn d mL_resolve 483 [some (.inr (some 128)), some (.inr (some 129)), some (.inr (some 130)), some (.inr (some 131)), some (.inr (some 132)), some (.inr (some 133)), some (.inr (some 134)), some (.inl a), some (.inl c), some (.inl (wnS s)), some (.inl (PA s)), some (.inl i), x12] [] kd H2 P (QV kd P (fun r F' => r = wnS s ∧ LR F' (resS s) ∧ ∀ k, k < 128 → F' k = F k)) := by
    intro N
    induction N with
    | zero => intro i H2 x12 hw0 h0 h1 a1 a2 a3 h6; omega
    | succ N ih =>
      intro i H2 x12 hw0 h0 h1 a1 a2 a3 h6
      obtain ⟨y0, y1, y2, y3, y4, y5, y6, y7, y8, y9, y10⟩ := a1
      refine R_iload fL_resolve_483 rfl ?_
      refine R_aload_n fL_resolve_485 rfl ?_
      refine R_iconst fL_resolve_486 ?_
      refine R_iaload fL_resolve_487 kg (by omega) ?_
      (try simp (disch := omega) only [stt_k, stt_j, stt_eq])
      rw [y0]
      refine R_icmp_ge fL_resolve_488 rfl (fun h488 => ?_) (fun h488 => ?_)
      · refine R_iload fL_resolve_538 rfl ?_
        refine R_ireturn fL_resolve_540 rfl ?_
        have hi : i = s 0 := by omega
        subst hi
        have hgo := sumGO hw hb
        refine done_ H2 ⟨y0, by rw [y1, hgo], y2, by rw [y3, if_neg (by omega), Int.add_zero, wr_id (hin _)], y4, by rw [y5, if_pos hw0], y6, y7, y8, y9, y10⟩ a2 a3
      · refine R_iload fL_resolve_491 rfl ?_
        refine R_iload fL_resolve_493 rfl ?_
        refine R_icmp_eq fL_resolve_495 rfl (fun h495 => ?_) (fun h495 => ?_)
        · refine R_iinc fL_resolve_532 rfl (by omega) ?_
          refine R_goto fL_resolve_535 rfl ?_
          refine ih _ _ _ hw0 (by omega) (by omega) ⟨y0, ?_, y2, y3, y4, y5, y6, y7, y8, y9, y10⟩ (fun p c p0 p1 c0 c1 => ?_) a3 (by omega)
          · rw [sg_s h0, GO_w h495, y1]; omega
          · by_cases hpi : p = i ∧ (c = 0 ∨ c = 5)
            · rw [a2 p c p0 p1 c0 c1]
              obtain ⟨rfl, z | z⟩ := hpi <;> subst z
              · rw [sv_0, sv_0, if_neg (by omega), if_pos (by omega), GO_w h495]
              · rw [sv_5, sv_5, if_neg (by omega), if_pos (by omega), GO_w h495, Int.add_zero, wr_id (hin _)]
            · rw [sv_o (by omega) ⟨c0, c1⟩]
              exact a2 p c p0 p1 c0 c1
        · have hi : i < s 0 := by omega
          have hfe := FE_b hw hb i h0 hi
          have hci := w3 i h0 (by omega)
          have hgs := sg_bound (f := GO s) (a := 0) (b := 120) (n := i.toNat) (fun j x y => GO_b hw hb j)
          have q0 : H2 131 (6 * i) = s (126 + 6 * i) - FE s i + 0 := by
            have e := a2 i 0 h0 hi (by omega) (by omega)
            rw [Int.add_zero, sv_0, if_neg (by omega)] at e
            exact e
          have q5 : H2 131 (6 * i + 5) = s (126 + 6 * i + 5) := by
            have e := a2 i 5 h0 hi (by omega) (by omega)
            rw [sv_5, if_neg (by omega)] at e
            exact e
          refine R_aload_n fL_resolve_498 rfl ?_
          refine R_bipush fL_resolve_499 ?_
          refine R_iload fL_resolve_501 rfl ?_
          refine R_imul fL_resolve_503 (by omega) ?_
          refine R_dup2 fL_resolve_504 ?_
          refine R_iaload fL_resolve_505 kp (by omega) ?_
          (try simp (disch := omega) only [stt_k, stt_j, stt_eq])
          refine R_iload fL_resolve_506 rfl ?_
          refine R_iadd fL_resolve_508 (by omega) ?_
          refine R_iastore fL_resolve_509 kp (by decide) (by omega) ?_
          refine R_aload_n fL_resolve_510 rfl ?_
          refine R_bipush fL_resolve_511 ?_
          refine R_iload fL_resolve_513 rfl ?_
          refine R_imul fL_resolve_515 (by omega) ?_
          refine R_iconst fL_resolve_516 ?_
          refine R_iadd fL_resolve_517 (by omega) ?_
          refine R_dup2 fL_resolve_518 ?_
          refine R_iaload fL_resolve_519 kp (by omega) ?_
          (try simp (disch := omega) only [stt_k, stt_j, stt_eq])
          refine R_iload fL_resolve_520 rfl ?_
          refine R_iaddV fL_resolve_522 (rfl) ?_
          refine R_iastore fL_resolve_523 kp (by decide) (by omega) ?_
          refine R_aload_n fL_resolve_524 rfl ?_
          refine R_iconst fL_resolve_525 ?_
          refine R_dup2 fL_resolve_526 ?_
          refine R_iaload fL_resolve_527 kg (by omega) ?_
          (try simp (disch := omega) only [stt_k, stt_j, stt_eq])
          refine R_iload fL_resolve_528 rfl ?_
          refine R_isub fL_resolve_530 (by omega) ?_
          refine R_iastore fL_resolve_531 kg (by decide) (by omega) ?_
          refine R_iinc fL_resolve_532 rfl (by omega) ?_
          refine R_goto fL_resolve_535 rfl ?_
          refine ih _ _ _ hw0 (by omega) (by omega) ⟨?_, ?_, ?_, ?_, ?_, ?_, ?_, ?_, ?_, ?_, ?_⟩ (fun p c p0 p1 c0 c1 => ?_) (fun k hk hk2 => ?_) (by omega)
          rotate_left 11
          · by_cases hpi : p = i ∧ (c = 0 ∨ c = 5)
            · obtain ⟨rfl, z | z⟩ := hpi <;> subst z
              · rw [Int.add_zero]
                simp (disch := omega) only [stt_k, stt_j, stt_eq]
                rw [sv_0, if_pos (by omega), GO_o h495, q0]
                omega
              · simp (disch := omega) only [stt_k, stt_j, stt_eq]
                rw [sv_5, if_pos (by omega), GO_o h495, q5]
            · rw [sv_o (by omega) ⟨c0, c1⟩]
              simp (disch := omega) only [stt_k, stt_j, stt_eq]
              exact a2 p c p0 p1 c0 c1
          · simp (disch := omega) only [stt_kr]; exact a3 k hk hk2
          all_goals simp (disch := omega) only [stt_k, stt_j, stt_eq]
          · exact y0
          · rw [sg_s h0, GO_o h495, y1]; omega
          · exact y2
          · exact y3
          · exact y4
          · exact y5
          · exact y6
          · exact y7
          · exact y8
          · exact y9
          · exact y10
  refine R_aload_n fL_resolve_382 rfl ?_
  refine R_iconst fL_resolve_383 ?_
  refine R_dup2 fL_resolve_384 ?_
  refine R_iaload fL_resolve_385 kg (by omega) ?_
  rw [c2]
  refine R_iconst fL_resolve_386 ?_
  refine R_iaddV fL_resolve_387 (rfl) ?_
  refine R_iastore fL_resolve_388 kg (by decide) (by omega) ?_
  refine R_aload_n fL_resolve_389 rfl ?_
  refine R_bipush fL_resolve_390 ?_
  refine R_dup2 fL_resolve_392 ?_
  refine R_iaload fL_resolve_393 kg (by omega) ?_
  (try simp (disch := omega) only [stt_k, stt_j, stt_eq])
  rw [c9]
  refine R_aload_n fL_resolve_394 rfl ?_
  refine R_bipush fL_resolve_395 ?_
  refine R_iaload fL_resolve_397 kg (by omega) ?_
  (try simp (disch := omega) only [stt_k, stt_j, stt_eq])
  rw [c9]
  refine R_bipush fL_resolve_398 ?_
  refine R_icmp_ge fL_resolve_400 rfl (fun h400 => ?_) (fun h400 => ?_)
  · refine R_iconst fL_resolve_407 ?_
    refine R_iadd fL_resolve_408 (by omega) ?_
    refine R_iastore fL_resolve_409 kg (by decide) (by omega) ?_
    refine R_iload fL_resolve_410 rfl ?_
    refine R_if_ge fL_resolve_412 rfl (fun h412 => ?_) (fun h412 => ?_)
    · refine R_aload_n fL_resolve_424 rfl ?_
      refine R_bipush fL_resolve_425 ?_
      refine R_iload fL_resolve_427 rfl ?_
      refine R_imul fL_resolve_429 (by omega) ?_
      refine R_iconst fL_resolve_430 ?_
      refine R_iadd fL_resolve_431 (by omega) ?_
      refine R_dup2 fL_resolve_432 ?_
      refine R_iaload fL_resolve_433 kp (by omega) ?_
      (try simp (disch := omega) only [stt_k, stt_j, stt_eq])
      rw [(bpl (wnS s) (by omega) (by omega)).2.1]
      refine R_aload fL_resolve_434 rfl ?_
      refine R_iconst fL_resolve_436 ?_
      refine R_iaload fL_resolve_437 kh (by omega) ?_
      (try simp (disch := omega) only [stt_k, stt_j, stt_eq])
      rw [r32, hg4.2.2.1]
      refine R_iaddV fL_resolve_438 (rfl) ?_
      refine R_iastore fL_resolve_439 kp (by decide) (by omega) ?_
      refine R_aload_n fL_resolve_440 rfl ?_
      refine R_bipush fL_resolve_441 ?_
      refine R_iload fL_resolve_443 rfl ?_
      refine R_imul fL_resolve_445 (by omega) ?_
      refine R_iconst fL_resolve_446 ?_
      refine R_iadd fL_resolve_447 (by omega) ?_
      refine R_dup2 fL_resolve_448 ?_
      refine R_iaload fL_resolve_449 kp (by omega) ?_
      (try simp (disch := omega) only [stt_k, stt_j, stt_eq])
      rw [(bpl (wnS s) (by omega) (by omega)).2.2.2.1]
      refine R_iconst fL_resolve_450 ?_
      refine R_iaddV fL_resolve_451 (rfl) ?_
      refine R_iastore fL_resolve_452 kp (by decide) (by omega) ?_
      refine R_aload_n fL_resolve_453 rfl ?_
      refine R_iconst fL_resolve_454 ?_
      refine R_iconst fL_resolve_455 ?_
      refine R_iastore fL_resolve_456 kg (by decide) (by omega) ?_
      refine R_aload_n fL_resolve_457 rfl ?_
      refine R_bipush fL_resolve_458 ?_
      refine R_iaload fL_resolve_460 kg (by omega) ?_
      (try simp (disch := omega) only [stt_k, stt_j, stt_eq])
      rw [c8]
      refine R_iconst fL_resolve_461 ?_
      refine R_icmp_ne fL_resolve_462 rfl (fun h462 => ?_) (fun h462 => ?_)
      · refine R_iconst fL_resolve_477 ?_
        refine R_istore fL_resolve_478 rfl ?_
        refine R_iconst fL_resolve_480 ?_
        refine R_istore fL_resolve_481 rfl ?_
        have hw0 : 0 ≤ wnS s := by omega
        have hPA := PA_eq hw hb hw0
        have key := fun H2 x12 => lp 5 0 H2 x12 hw0 (by omega) (by omega)
        rw [if_neg h462] at hPA
        rw [hPA] at key
        refine key _ _ ⟨?_, ?_, ?_, ?_, ?_, ?_, ?_, ?_, ?_, ?_, ?_⟩ (fun p c p0 p1 c0 c1 => ?_) (fun k hk hk2 => ?_) (by omega)
        rotate_left 11
        · obtain ⟨z0, z1, z2, z3, z4, z5⟩ := bpl p p0 p1
          rcases (by omega : c = 0 ∨ c = 1 ∨ c = 2 ∨ c = 3 ∨ c = 4 ∨ c = 5) with z | z | z | z | z | z <;> subst z
          · rw [show 6 * p + 0 = 6 * p by omega, sv_0, if_neg (by omega)]
            simp (disch := omega) only [stt_k, stt_j, stt_eq]
            rw [z0]; omega
          · rw [sv_1]
            by_cases hpw : p = wnS s
            · rw [if_pos hpw, hpw]
              simp (disch := omega) only [stt_k, stt_j, stt_eq]
              (try rw [← hpw, z1])
            · rw [if_neg hpw]
              simp (disch := omega) only [stt_k, stt_j, stt_eq]
              exact z1
          · rw [sv_2]
            simp (disch := omega) only [stt_k, stt_j, stt_eq]
            exact z2
          · rw [sv_3]
            by_cases hpw : p = wnS s
            · rw [if_pos hpw, hpw]
              simp (disch := omega) only [stt_k, stt_j, stt_eq]
              (try rw [← hpw, z3])
            · rw [if_neg hpw]
              simp (disch := omega) only [stt_k, stt_j, stt_eq]
              exact z3
          · rw [sv_4]
            simp (disch := omega) only [stt_k, stt_j, stt_eq]
            exact z4
          · rw [sv_5, if_neg (by omega)]
            simp (disch := omega) only [stt_k, stt_j, stt_eq]
            exact z5
        · simp (disch := omega) only [stt_kr]
        all_goals simp (disch := omega) only [stt_k, stt_j, stt_eq, stt_kr]
        · exact c0
        · rw [pt]; show PT s = PT s - 0; omega
        · exact c3
        · exact c4
        · exact c6
        · exact c7
        · exact c8
        · omega
        · exact b10
      · refine R_aload_n fL_resolve_465 rfl ?_
        refine R_iconst fL_resolve_466 ?_
        refine R_iaload fL_resolve_467 kg (by omega) ?_
        (try simp (disch := omega) only [stt_k, stt_j, stt_eq])
        rw [pt]
        refine R_aload_n fL_resolve_468 rfl ?_
        refine R_iconst fL_resolve_469 ?_
        refine R_iaload fL_resolve_470 kg (by omega) ?_
        (try simp (disch := omega) only [stt_k, stt_j, stt_eq])
        rw [c0]
        refine R_iconst fL_resolve_471 ?_
        refine R_isub fL_resolve_472 (by omega) ?_
        refine R_idivV fL_resolve_473 (by omega) (rfl) ?_
        refine R_goto fL_resolve_474 rfl ?_
        refine R_istore fL_resolve_478 rfl ?_
        refine R_iconst fL_resolve_480 ?_
        refine R_istore fL_resolve_481 rfl ?_
        have hw0 : 0 ≤ wnS s := by omega
        have hPA := PA_eq hw hb hw0
        have key := fun H2 x12 => lp 5 0 H2 x12 hw0 (by omega) (by omega)
        rw [if_pos h462] at hPA
        rw [hPA] at key
        refine key _ _ ⟨?_, ?_, ?_, ?_, ?_, ?_, ?_, ?_, ?_, ?_, ?_⟩ (fun p c p0 p1 c0 c1 => ?_) (fun k hk hk2 => ?_) (by omega)
        rotate_left 11
        · obtain ⟨z0, z1, z2, z3, z4, z5⟩ := bpl p p0 p1
          rcases (by omega : c = 0 ∨ c = 1 ∨ c = 2 ∨ c = 3 ∨ c = 4 ∨ c = 5) with z | z | z | z | z | z <;> subst z
          · rw [show 6 * p + 0 = 6 * p by omega, sv_0, if_neg (by omega)]
            simp (disch := omega) only [stt_k, stt_j, stt_eq]
            rw [z0]; omega
          · rw [sv_1]
            by_cases hpw : p = wnS s
            · rw [if_pos hpw, hpw]
              simp (disch := omega) only [stt_k, stt_j, stt_eq]
              (try rw [← hpw, z1])
            · rw [if_neg hpw]
              simp (disch := omega) only [stt_k, stt_j, stt_eq]
              exact z1
          · rw [sv_2]
            simp (disch := omega) only [stt_k, stt_j, stt_eq]
            exact z2
          · rw [sv_3]
            by_cases hpw : p = wnS s
            · rw [if_pos hpw, hpw]
              simp (disch := omega) only [stt_k, stt_j, stt_eq]
              (try rw [← hpw, z3])
            · rw [if_neg hpw]
              simp (disch := omega) only [stt_k, stt_j, stt_eq]
              exact z3
          · rw [sv_4]
            simp (disch := omega) only [stt_k, stt_j, stt_eq]
            exact z4
          · rw [sv_5, if_neg (by omega)]
            simp (disch := omega) only [stt_k, stt_j, stt_eq]
            exact z5
        · simp (disch := omega) only [stt_kr]
        all_goals simp (disch := omega) only [stt_k, stt_j, stt_eq, stt_kr]
        · exact c0
        · rw [pt]; show PT s = PT s - 0; omega
        · exact c3
        · exact c4
        · exact c6
        · exact c7
        · exact c8
        · omega
        · exact b10
    · refine R_aload_n fL_resolve_415 rfl ?_
      refine R_iconst fL_resolve_416 ?_
      refine R_dup2 fL_resolve_417 ?_
      refine R_iaload fL_resolve_418 kg (by omega) ?_
      (try simp (disch := omega) only [stt_k, stt_j, stt_eq])
      rw [c3]
      refine R_iconst fL_resolve_419 ?_
      refine R_iaddV fL_resolve_420 (rfl) ?_
      refine R_iastore fL_resolve_421 kg (by decide) (by omega) ?_
      refine R_iconst fL_resolve_422 ?_
      refine R_ireturn fL_resolve_423 rfl ?_
      have hPA := PA_n (s := s) (by omega) hw
      have hGO : ∀ p, GO s p = 0 := fun p => by
        by_cases hpw : p = wnS s
        · exact GO_w hpw
        · rw [GO_o hpw, hPA]
      have hm : wnS s = -1 := by omega
      have hd_ := done_ (stt (stt (stt H 128 2 (wr (s 2 + 1))) 128 9 (s 29 + 0)) 128 3 (wr (s 3 + 1))) ⟨?_, ?_, ?_, ?_, ?_, ?_, ?_, ?_, ?_, ?_, ?_⟩ (fun p c p0 p1 c0 c1 => ?_) (fun k hk hk2 => ?_)
      · rw [hm] at hd_ ⊢; exact hd_
      all_goals simp (disch := omega) only [stt_k, stt_j, stt_eq, stt_kr]
      · exact c0
      · rw [hPA, pt]; omega
      · rw [if_pos (by omega)]
      · exact c4
      · rw [c5, if_neg (by omega)]
      · exact c6
      · exact c7
      · exact c8
      · omega
      · exact b10
      · obtain ⟨z0, z1, z2, z3, z4, z5⟩ := bpl p p0 p1
        rcases (by omega : c = 0 ∨ c = 1 ∨ c = 2 ∨ c = 3 ∨ c = 4 ∨ c = 5) with z | z | z | z | z | z <;> subst z
        · rw [Int.add_zero, sv_0, if_pos p1, hGO, Int.add_zero]; exact z0
        · rw [sv_1, if_neg (by omega)]; exact z1
        · rw [sv_2]; exact z2
        · rw [sv_3, if_neg (by omega)]; exact z3
        · rw [sv_4]; exact z4
        · rw [sv_5, if_pos p1, hGO, Int.add_zero, wr_id (hin _)]; exact z5
  · refine R_iconst fL_resolve_403 ?_
    refine R_goto fL_resolve_404 rfl ?_
    refine R_iadd fL_resolve_408 (by omega) ?_
    refine R_iastore fL_resolve_409 kg (by decide) (by omega) ?_
    refine R_iload fL_resolve_410 rfl ?_
    refine R_if_ge fL_resolve_412 rfl (fun h412 => ?_) (fun h412 => ?_)
    · refine R_aload_n fL_resolve_424 rfl ?_
      refine R_bipush fL_resolve_425 ?_
      refine R_iload fL_resolve_427 rfl ?_
      refine R_imul fL_resolve_429 (by omega) ?_
      refine R_iconst fL_resolve_430 ?_
      refine R_iadd fL_resolve_431 (by omega) ?_
      refine R_dup2 fL_resolve_432 ?_
      refine R_iaload fL_resolve_433 kp (by omega) ?_
      (try simp (disch := omega) only [stt_k, stt_j, stt_eq])
      rw [(bpl (wnS s) (by omega) (by omega)).2.1]
      refine R_aload fL_resolve_434 rfl ?_
      refine R_iconst fL_resolve_436 ?_
      refine R_iaload fL_resolve_437 kh (by omega) ?_
      (try simp (disch := omega) only [stt_k, stt_j, stt_eq])
      rw [r32, hg4.2.2.1]
      refine R_iaddV fL_resolve_438 (rfl) ?_
      refine R_iastore fL_resolve_439 kp (by decide) (by omega) ?_
      refine R_aload_n fL_resolve_440 rfl ?_
      refine R_bipush fL_resolve_441 ?_
      refine R_iload fL_resolve_443 rfl ?_
      refine R_imul fL_resolve_445 (by omega) ?_
      refine R_iconst fL_resolve_446 ?_
      refine R_iadd fL_resolve_447 (by omega) ?_
      refine R_dup2 fL_resolve_448 ?_
      refine R_iaload fL_resolve_449 kp (by omega) ?_
      (try simp (disch := omega) only [stt_k, stt_j, stt_eq])
      rw [(bpl (wnS s) (by omega) (by omega)).2.2.2.1]
      refine R_iconst fL_resolve_450 ?_
      refine R_iaddV fL_resolve_451 (rfl) ?_
      refine R_iastore fL_resolve_452 kp (by decide) (by omega) ?_
      refine R_aload_n fL_resolve_453 rfl ?_
      refine R_iconst fL_resolve_454 ?_
      refine R_iconst fL_resolve_455 ?_
      refine R_iastore fL_resolve_456 kg (by decide) (by omega) ?_
      refine R_aload_n fL_resolve_457 rfl ?_
      refine R_bipush fL_resolve_458 ?_
      refine R_iaload fL_resolve_460 kg (by omega) ?_
      (try simp (disch := omega) only [stt_k, stt_j, stt_eq])
      rw [c8]
      refine R_iconst fL_resolve_461 ?_
      refine R_icmp_ne fL_resolve_462 rfl (fun h462 => ?_) (fun h462 => ?_)
      · refine R_iconst fL_resolve_477 ?_
        refine R_istore fL_resolve_478 rfl ?_
        refine R_iconst fL_resolve_480 ?_
        refine R_istore fL_resolve_481 rfl ?_
        have hw0 : 0 ≤ wnS s := by omega
        have hPA := PA_eq hw hb hw0
        have key := fun H2 x12 => lp 5 0 H2 x12 hw0 (by omega) (by omega)
        rw [if_neg h462] at hPA
        rw [hPA] at key
        refine key _ _ ⟨?_, ?_, ?_, ?_, ?_, ?_, ?_, ?_, ?_, ?_, ?_⟩ (fun p c p0 p1 c0 c1 => ?_) (fun k hk hk2 => ?_) (by omega)
        rotate_left 11
        · obtain ⟨z0, z1, z2, z3, z4, z5⟩ := bpl p p0 p1
          rcases (by omega : c = 0 ∨ c = 1 ∨ c = 2 ∨ c = 3 ∨ c = 4 ∨ c = 5) with z | z | z | z | z | z <;> subst z
          · rw [show 6 * p + 0 = 6 * p by omega, sv_0, if_neg (by omega)]
            simp (disch := omega) only [stt_k, stt_j, stt_eq]
            rw [z0]; omega
          · rw [sv_1]
            by_cases hpw : p = wnS s
            · rw [if_pos hpw, hpw]
              simp (disch := omega) only [stt_k, stt_j, stt_eq]
              (try rw [← hpw, z1])
            · rw [if_neg hpw]
              simp (disch := omega) only [stt_k, stt_j, stt_eq]
              exact z1
          · rw [sv_2]
            simp (disch := omega) only [stt_k, stt_j, stt_eq]
            exact z2
          · rw [sv_3]
            by_cases hpw : p = wnS s
            · rw [if_pos hpw, hpw]
              simp (disch := omega) only [stt_k, stt_j, stt_eq]
              (try rw [← hpw, z3])
            · rw [if_neg hpw]
              simp (disch := omega) only [stt_k, stt_j, stt_eq]
              exact z3
          · rw [sv_4]
            simp (disch := omega) only [stt_k, stt_j, stt_eq]
            exact z4
          · rw [sv_5, if_neg (by omega)]
            simp (disch := omega) only [stt_k, stt_j, stt_eq]
            exact z5
        · simp (disch := omega) only [stt_kr]
        all_goals simp (disch := omega) only [stt_k, stt_j, stt_eq, stt_kr]
        · exact c0
        · rw [pt]; show PT s = PT s - 0; omega
        · exact c3
        · exact c4
        · exact c6
        · exact c7
        · exact c8
        · omega
        · exact b10
      · refine R_aload_n fL_resolve_465 rfl ?_
        refine R_iconst fL_resolve_466 ?_
        refine R_iaload fL_resolve_467 kg (by omega) ?_
        (try simp (disch := omega) only [stt_k, stt_j, stt_eq])
        rw [pt]
        refine R_aload_n fL_resolve_468 rfl ?_
        refine R_iconst fL_resolve_469 ?_
        refine R_iaload fL_resolve_470 kg (by omega) ?_
        (try simp (disch := omega) only [stt_k, stt_j, stt_eq])
        rw [c0]
        refine R_iconst fL_resolve_471 ?_
        refine R_isub fL_resolve_472 (by omega) ?_
        refine R_idivV fL_resolve_473 (by omega) (rfl) ?_
        refine R_goto fL_resolve_474 rfl ?_
        refine R_istore fL_resolve_478 rfl ?_
        refine R_iconst fL_resolve_480 ?_
        refine R_istore fL_resolve_481 rfl ?_
        have hw0 : 0 ≤ wnS s := by omega
        have hPA := PA_eq hw hb hw0
        have key := fun H2 x12 => lp 5 0 H2 x12 hw0 (by omega) (by omega)
        rw [if_pos h462] at hPA
        rw [hPA] at key
        refine key _ _ ⟨?_, ?_, ?_, ?_, ?_, ?_, ?_, ?_, ?_, ?_, ?_⟩ (fun p c p0 p1 c0 c1 => ?_) (fun k hk hk2 => ?_) (by omega)
        rotate_left 11
        · obtain ⟨z0, z1, z2, z3, z4, z5⟩ := bpl p p0 p1
          rcases (by omega : c = 0 ∨ c = 1 ∨ c = 2 ∨ c = 3 ∨ c = 4 ∨ c = 5) with z | z | z | z | z | z <;> subst z
          · rw [show 6 * p + 0 = 6 * p by omega, sv_0, if_neg (by omega)]
            simp (disch := omega) only [stt_k, stt_j, stt_eq]
            rw [z0]; omega
          · rw [sv_1]
            by_cases hpw : p = wnS s
            · rw [if_pos hpw, hpw]
              simp (disch := omega) only [stt_k, stt_j, stt_eq]
              (try rw [← hpw, z1])
            · rw [if_neg hpw]
              simp (disch := omega) only [stt_k, stt_j, stt_eq]
              exact z1
          · rw [sv_2]
            simp (disch := omega) only [stt_k, stt_j, stt_eq]
            exact z2
          · rw [sv_3]
            by_cases hpw : p = wnS s
            · rw [if_pos hpw, hpw]
              simp (disch := omega) only [stt_k, stt_j, stt_eq]
              (try rw [← hpw, z3])
            · rw [if_neg hpw]
              simp (disch := omega) only [stt_k, stt_j, stt_eq]
              exact z3
          · rw [sv_4]
            simp (disch := omega) only [stt_k, stt_j, stt_eq]
            exact z4
          · rw [sv_5, if_neg (by omega)]
            simp (disch := omega) only [stt_k, stt_j, stt_eq]
            exact z5
        · simp (disch := omega) only [stt_kr]
        all_goals simp (disch := omega) only [stt_k, stt_j, stt_eq, stt_kr]
        · exact c0
        · rw [pt]; show PT s = PT s - 0; omega
        · exact c3
        · exact c4
        · exact c6
        · exact c7
        · exact c8
        · omega
        · exact b10
    · refine R_aload_n fL_resolve_415 rfl ?_
      refine R_iconst fL_resolve_416 ?_
      refine R_dup2 fL_resolve_417 ?_
      refine R_iaload fL_resolve_418 kg (by omega) ?_
      (try simp (disch := omega) only [stt_k, stt_j, stt_eq])
      rw [c3]
      refine R_iconst fL_resolve_419 ?_
      refine R_iaddV fL_resolve_420 (rfl) ?_
      refine R_iastore fL_resolve_421 kg (by decide) (by omega) ?_
      refine R_iconst fL_resolve_422 ?_
      refine R_ireturn fL_resolve_423 rfl ?_
      have hPA := PA_n (s := s) (by omega) hw
      have hGO : ∀ p, GO s p = 0 := fun p => by
        by_cases hpw : p = wnS s
        · exact GO_w hpw
        · rw [GO_o hpw, hPA]
      have hm : wnS s = -1 := by omega
      have hd_ := done_ (stt (stt (stt H 128 2 (wr (s 2 + 1))) 128 9 (s 29 + 1)) 128 3 (wr (s 3 + 1))) ⟨?_, ?_, ?_, ?_, ?_, ?_, ?_, ?_, ?_, ?_, ?_⟩ (fun p c p0 p1 c0 c1 => ?_) (fun k hk hk2 => ?_)
      · rw [hm] at hd_ ⊢; exact hd_
      all_goals simp (disch := omega) only [stt_k, stt_j, stt_eq, stt_kr]
      · exact c0
      · rw [hPA, pt]; omega
      · rw [if_pos (by omega)]
      · exact c4
      · rw [c5, if_neg (by omega)]
      · exact c6
      · exact c7
      · exact c8
      · omega
      · exact b10
      · obtain ⟨z0, z1, z2, z3, z4, z5⟩ := bpl p p0 p1
        rcases (by omega : c = 0 ∨ c = 1 ∨ c = 2 ∨ c = 3 ∨ c = 4 ∨ c = 5) with z | z | z | z | z | z <;> subst z
        · rw [Int.add_zero, sv_0, if_pos p1, hGO, Int.add_zero]; exact z0
        · rw [sv_1, if_neg (by omega)]; exact z1
        · rw [sv_2]; exact z2
        · rw [sv_3, if_neg (by omega)]; exact z3
        · rw [sv_4]; exact z4
        · rw [sv_5, if_pos p1, hGO, Int.add_zero, wr_id (hin _)]; exact z5
/-- the law's round, whole -/
theorem sp_lres {d : Nat} {kd : KL} {F : FM} {P : PM} {s : Int → Int} {C : Int} (hd : 3 ≤ d) (hK : LK kd) (hL : LR F s) (hw : WF s) (hb : BD s) (h4 : 1 ≤ s 4) (hq : PQ C s) (hC : 0 ≤ C ∧ C < 110) (h59 : s 150 ≤ 59) : Sp d 96 [.inr (some 128), .inr (some 129), .inr (some 130), .inr (some 131), .inr (some 132), .inr (some 133), .inr (some 134)] kd F P (QV kd P (fun r F' => r = wnS s ∧ LR F' (resS s) ∧ ∀ k, k < 128 → F' k = F k)) := by
  refine Sp_of (me := mL_resolve) (by omega) pL_resolve ⟨rfl, Nat.le_of_ble_eq_true rfl⟩ ?_
  obtain ⟨⟨g0, g1, g2, g3, g4, g5, g6, g7, g8, g9, g10⟩, hl, ht, hp, hh, hbb, hqq⟩ := id hL
  have w0 := hw.1
  refine lr_1 hK g0 (fun p p0 p1 => by rw [hp p 2 p0 p1 (by omega) (by omega)]; rfl) hw hb (fun x11 => ?_)
  refine lr_2 (by omega) hK hL hw h4 (fun G n a1 a2 a3 a4 a5 a6 a7 => ?_)
  refine lr_3 (F := F) (G := G) (by omega) hK hw hb hq hC h59 rfl (by rw [a1.2.2 0 (by omega) (by omega)]; exact g0) (by rw [a1.2.2 6 (by omega) (by omega)]; exact g6) (by rw [a1.2.2 7 (by omega) (by omega)]; exact g7) ⟨⟨?_, ?_, fun j _ _ => rfl⟩, ?_, fun p c p0 p1 c0 c1 => ?_, fun p p0 p1 => by omega, fun j _ => rfl, ⟨rfl, rfl, rfl⟩, fun k _ => rfl⟩ (fun H n x11 x12 hI => ?_)
  · rw [a1.2.2 1 (by omega) (by omega), g1]; show s 1 = s 1 + 0; omega
  · rw [a1.2.2 10 (by omega) (by omega)]; exact g10
  · rw [a4.2]; exact hqq
  · rw [a4.1, pv_hi (by omega)]; exact hp p c p0 p1 c0 c1
  · exact lr_4 hK hL hw hb h4 ⟨a1, a2, a3, a5, a6, a7⟩ hI
