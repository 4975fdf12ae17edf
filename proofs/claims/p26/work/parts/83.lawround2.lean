/-! ## the law's round: the players pay, the pairs are counted -/
theorem PQ_note {C p b won : Int} {t : Int → Int} (h : PQ C t) (hC : 0 ≤ C ∧ C < 1000) (hp : 0 ≤ p ∧ p < 4) (hb : 0 ≤ b ∧ b ≤ 120) (hw : won = 0 ∨ won = 1) : PQ (C + 1) (notesS t p b won) ∧ notesS t p b won 150 ≤ t 150 + 1 := by
  have hx := ixS_in (p := p) (b := b) h.1
  have h150 := nS_150 (t := t) (p := p) (b := b) (won := won) hx.1
  have h0 := h.1
  refine ⟨⟨by rw [h150]; split <;> omega, fun i i0 i1 => ?_⟩, by rw [h150]; split <;> omega⟩
  rw [h150] at i1
  by_cases hi : i = ixS t p b
  · have hq : ixS t p b ≠ t 150 → (0 ≤ t (151 + 4 * i + 2) ∧ t (151 + 4 * i + 2) ≤ C) ∧ (0 ≤ t (151 + 4 * i + 3) ∧ t (151 + 4 * i + 3) ≤ C) := fun z => (h.2 i i0 (by omega)).2.2
    rw [nS_0 hi, nS_1 hi, nS_2 hi, nS_3 hi, wr_id (by unfold inb; split <;> omega), wr_id (by unfold inb; split <;> omega)]
    refine ⟨hp, hb, ?_, ?_⟩ <;> split <;> omega
  · have i2 : i < t 150 := by split at i1 <;> omega
    have hq := h.2 i i0 i2
    rw [nS_o (by omega) (by omega), nS_o (by omega) (by omega), nS_o (by omega) (by omega), nS_o (by omega) (by omega)]
    omega
theorem oneW_b (w k : Int) : oneW w k = 0 ∨ oneW w k = 1 := by
  unfold oneW
  by_cases h : k = w
  · exact Or.inr (if_pos h)
  · exact Or.inl (if_neg h)
theorem prS_q {s : Int → Int} {C : Int} (hq : PQ C s) (hC : 0 ≤ C ∧ C < 900) (hw : WF s) (hb : BD s) : ∀ k : Nat, (k : Int) ≤ s 0 → PQ (C + k) (prS s k) ∧ prS s k 150 ≤ s 150 + k
  | 0, _ => ⟨by rw [show C + ((0 : Nat) : Int) = C by omega]; exact hq, by show s 150 ≤ _; omega⟩
  | k + 1, h => by
    have w0 := hw.1
    obtain ⟨h1, h2⟩ := prS_q hq hC hw hb k (by omega)
    have hbk := bd_b hw hb k (by omega) (by omega)
    obtain ⟨h3, h4⟩ := PQ_note (p := (k : Int)) (b := bdS s k) (won := oneW (wnS s) k) h1 (by omega) (by omega) hbk (oneW_b _ _)
    refine ⟨?_, ?_⟩
    · rw [show C + ((k + 1 : Nat) : Int) = C + k + 1 by omega]; exact h3
    · show notesS (prS s k) k (bdS s k) (oneW (wnS s) k) 150 ≤ _
      omega
/-- what the law's players hold when those before i have paid -/
def pv (s : Int → Int) (i p c : Int) : Int := if p < i then (if c = 0 then s (126 + 6 * p) - FE s p else if c = 2 then -1 else if c = 4 then wr (s (126 + 6 * p + 4) + FE s p) else s (126 + 6 * p + c)) else s (126 + 6 * p + c)
theorem pv_hi {s : Int → Int} {i p c : Int} (h : i ≤ p) : pv s i p c = s (126 + 6 * p + c) := by unfold pv; rw [if_neg (by omega)]
theorem pv_s {s : Int → Int} {i p c : Int} (h : p ≠ i) : pv s (i + 1) p c = pv s i p c := by
  unfold pv
  by_cases hc : p < i
  · rw [if_pos hc, if_pos (by omega)]
  · rw [if_neg hc, if_neg (by omega)]
theorem pv_0 {s : Int → Int} {i : Int} : pv s (i + 1) i 0 = s (126 + 6 * i) - FE s i := by unfold pv; rw [if_pos (by omega), if_pos rfl]
theorem pv_2 {s : Int → Int} {i : Int} : pv s (i + 1) i 2 = -1 := by unfold pv; rw [if_pos (by omega), if_neg (by omega), if_pos rfl]
theorem pv_4 {s : Int → Int} {i : Int} : pv s (i + 1) i 4 = wr (s (126 + 6 * i + 4) + FE s i) := by unfold pv; rw [if_pos (by omega), if_neg (by omega), if_neg (by omega), if_pos rfl]
theorem pv_o {s : Int → Int} {i c : Int} (h : c ≠ 0 ∧ c ≠ 2 ∧ c ≠ 4) : pv s (i + 1) i c = s (126 + 6 * i + c) := by unfold pv; rw [if_pos (by omega), if_neg h.1, if_neg h.2.1, if_neg h.2.2]
/-- the law's rows while the players pay -/
def IP (s : Int → Int) (G : FM) (i : Int) (H : FM) : Prop :=
  (H 128 1 = s 1 + sg (FE s) i.toNat ∧ H 128 10 = prS s i.toNat 150 ∧ ∀ j, j ≠ 1 → j ≠ 10 → H 128 j = G 128 j) ∧ LQ (H 134) (prS s i.toNat) ∧ (∀ p c, 0 ≤ p → p < s 0 → 0 ≤ c → c < 6 → H 131 (6 * p + c) = pv s i p c) ∧ (∀ p, 0 ≤ p → p < i → H 133 p = bdS s p) ∧ (∀ j, 4 ≤ j → H 133 j = G 133 j) ∧ (H 129 = G 129 ∧ H 130 = G 130 ∧ H 132 = G 132) ∧ (∀ k, k < 128 → H k = G k)
theorem lr_3 {d : Nat} {kd : KL} {F : FM} {P : PM} {s : Int → Int} {Q : RS → Prop} {C a c n10 : Int} {x11 x12 : Option AV} {G : FM} (hd : 2 ≤ d) (hK : LK kd) (hw : WF s) (hb : BD s) (hq : PQ C s) (hC : 0 ≤ C ∧ C < 110) (h59 : s 150 ≤ 59) (ha : a = grF (bdS s) (s 0).toNat) (hG0 : G 128 0 = s 0) (hG6 : G 128 6 = s 26) (hG7 : G 128 7 = s 27) (hI : IP s G 0 G) (K : ∀ (H : FM) (n : Int) (x11 x12 : Option AV), IP s G (s 0) H → Rn d mL_resolve 382 [some (.inr (some 128)), some (.inr (some 129)), some (.inr (some 130)), some (.inr (some 131)), some (.inr (some 132)), some (.inr (some 133)), some (.inr (some 134)), some (.inl a), some (.inl c), some (.inl (wnS s)), some (.inl n), x11, x12] [] kd H P Q) : Rn d mL_resolve 230 [some (.inr (some 128)), some (.inr (some 129)), some (.inr (some 130)), some (.inr (some 131)), some (.inr (some 132)), some (.inr (some 133)), some (.inr (some 134)), some (.inl a), some (.inl c), some (.inl (wnS s)), some (.inl n10), x11, x12] [] kd G P Q := by
  obtain ⟨kg, kl, kt, kp, kh, kb, kq, kx⟩ := id hK
  have w0 := hw.1
  have w3 := hw.2.2.2.1
  have w2 := hw.2.2.1
  have w4 := hw.2.2.2.2.1
  have lp : ∀ (N : Nat) (i : Int) (H : FM) (x11 x12 : Option AV), 0 ≤ i → i ≤ s 0 → IP s G i H → s 0 - i < N → Rn d mL_resolve 233 [some (.inr (some 128)), some (.inr (some 129)), some (.inr (some 130)), some (.inr (some 131)), some (.inr (some 132)), some (.inr (some 133)), some (.inr (some 134)), some (.inl a), some (.inl c), some (.inl (wnS s)), some (.inl i), x11, x12] [] kd H P Q := by
    intro N
    induction N with
    | zero => intro i H x11 x12 h0 h1 h2 h6; omega
    | succ N ih =>
      intro i H x11 x12 h0 h1 h2 h6
      obtain ⟨⟨b1, b10, bo⟩, bq, bp, bb, bb4, ⟨r9, r30, r32⟩, bl⟩ := id h2
      have hq0 : H 128 0 = s 0 := by rw [bo 0 (by omega) (by omega)]; exact hG0
      refine R_iload fL_resolve_233 rfl ?_
      refine R_aload_n fL_resolve_235 rfl ?_
      refine R_iconst fL_resolve_236 ?_
      refine R_iaload fL_resolve_237 kg (by omega) ?_
      rw [hq0]
      refine R_icmp_ge fL_resolve_238 rfl (fun h238 => ?_) (fun h238 => ?_)
      · have hi : i = s 0 := by omega
        subst hi
        exact K H _ _ _ h2
      · have hi : i < s 0 := by omega
        have tl : ∀ (F1 : FM), LQ (F1 134) (prS s (i + 1).toNat) → F1 128 10 = prS s (i + 1).toNat 150 → (∀ j, j ≠ 10 → F1 128 j = H 128 j) → (∀ k, k ≠ 128 → k ≠ 134 → F1 k = stt H 133 i (bdS s i) k) → Rn d mL_resolve 332 [some (.inr (some 128)), some (.inr (some 129)), some (.inr (some 130)), some (.inr (some 131)), some (.inr (some 132)), some (.inr (some 133)), some (.inr (some 134)), some (.inl a), some (.inl c), some (.inl (wnS s)), some (.inl i), some (.inl (bdS s i)), some (.inl (FE s i))] [] kd F1 P Q := by
          intro F1 q1 q2 q3 q4
          have hfe := FE_b hw hb i h0 hi
          have hci := w3 i h0 (by omega)
          have hsg := sg_bound (f := FE s) (a := 0) (b := 120) (n := i.toNat) (fun j x y => by have h8 := FE_b hw hb j x (by omega); have h9 := w3 j x (by omega); omega)
          have p60 : F1 131 (6 * i) = s (126 + 6 * i) := by
            have e := bp i 0 h0 hi (by omega) (by omega)
            rw [pv_hi (by omega), Int.add_zero, Int.add_zero] at e
            rw [q4 131 (by decide) (by decide), stt_kr _ _ _ (by decide)]; exact e
          have p64 : F1 131 (6 * i + 4) = s (126 + 6 * i + 4) := by
            have e := bp i 4 h0 hi (by omega) (by omega)
            rw [pv_hi (by omega)] at e
            rw [q4 131 (by decide) (by decide), stt_kr _ _ _ (by decide)]; exact e
          have hf1 : F1 128 1 = s 1 + sg (FE s) i.toNat := by rw [q3 1 (by omega)]; exact b1
          have hs1 := hw.2.2.1.1
          have hsum0 := sg_bound (f := fun p => s (126 + 6 * p)) (a := 0) (b := 120) (n := (s 0).toNat) (fun j x y => by have h9 := w3 j x (by omega); show 0 ≤ s (126 + 6 * j) ∧ s (126 + 6 * j) ≤ 120; omega)
          refine R_aload_n fL_resolve_332 rfl ?_
          refine R_bipush fL_resolve_333 ?_
          refine R_iload fL_resolve_335 rfl ?_
          refine R_imul fL_resolve_337 (by omega) ?_
          refine R_dup2 fL_resolve_338 ?_
          refine R_iaload fL_resolve_339 kp (by omega) ?_
          (try simp (disch := omega) only [stt_k, stt_j, stt_eq])
          refine R_iload fL_resolve_340 rfl ?_
          refine R_isub fL_resolve_342 (by omega) ?_
          refine R_iastore fL_resolve_343 kp (by decide) (by omega) ?_
          refine R_aload_n fL_resolve_344 rfl ?_
          refine R_bipush fL_resolve_345 ?_
          refine R_iload fL_resolve_347 rfl ?_
          refine R_imul fL_resolve_349 (by omega) ?_
          refine R_iconst fL_resolve_350 ?_
          refine R_iadd fL_resolve_351 (by omega) ?_
          refine R_dup2 fL_resolve_352 ?_
          refine R_iaload fL_resolve_353 kp (by omega) ?_
          (try simp (disch := omega) only [stt_k, stt_j, stt_eq])
          refine R_iload fL_resolve_354 rfl ?_
          refine R_iaddV fL_resolve_356 (rfl) ?_
          refine R_iastore fL_resolve_357 kp (by decide) (by omega) ?_
          refine R_aload_n fL_resolve_358 rfl ?_
          refine R_iconst fL_resolve_359 ?_
          refine R_dup2 fL_resolve_360 ?_
          refine R_iaload fL_resolve_361 kg (by omega) ?_
          (try simp (disch := omega) only [stt_k, stt_j, stt_eq])
          refine R_iload fL_resolve_362 rfl ?_
          refine R_iadd fL_resolve_364 (by omega) ?_
          refine R_iastore fL_resolve_365 kg (by decide) (by omega) ?_
          refine R_aload_n fL_resolve_366 rfl ?_
          refine R_bipush fL_resolve_367 ?_
          refine R_iload fL_resolve_369 rfl ?_
          refine R_imul fL_resolve_371 (by omega) ?_
          refine R_iconst fL_resolve_372 ?_
          refine R_iadd fL_resolve_373 (by omega) ?_
          refine R_iconst fL_resolve_374 ?_
          refine R_iastore fL_resolve_375 kp (by decide) (by omega) ?_
          refine R_iinc fL_resolve_376 rfl (by omega) ?_
          refine R_goto fL_resolve_379 rfl ?_
          refine ih _ _ _ _ (by omega) (by omega) ⟨⟨?_, ?_, fun j j1 j10 => ?_⟩, ?_, fun p c p0 p1 c0 c1 => ?_, fun p p0 p1 => ?_, fun j j4 => ?_, ⟨?_, ?_, ?_⟩, fun k hk => ?_⟩ (by omega)
          · simp (disch := omega) only [stt_k, stt_j, stt_eq]
            rw [sg_s h0, q3 1 (by omega), b1, Int.add_assoc]
          · simp (disch := omega) only [stt_k, stt_j, stt_eq]; exact q2
          · simp (disch := omega) only [stt_k, stt_j, stt_eq]
            rw [q3 j j10]; exact bo j j1 j10
          · simp (disch := omega) only [stt_kr]; exact q1
          · by_cases hpi : p = i
            · subst hpi
              rcases (by omega : c = 0 ∨ c = 2 ∨ c = 4 ∨ (c ≠ 0 ∧ c ≠ 2 ∧ c ≠ 4)) with z | z | z | z
              · subst z
                rw [pv_0, Int.add_zero]
                simp (disch := omega) only [stt_k, stt_j, stt_eq]
                rw [p60]
              · subst z
                rw [pv_2]
                simp (disch := omega) only [stt_k, stt_j, stt_eq]
              · subst z
                rw [pv_4]
                simp (disch := omega) only [stt_k, stt_j, stt_eq]
                rw [p64]
              · rw [pv_o z]
                simp (disch := omega) only [stt_k, stt_j, stt_eq]
                rw [q4 131 (by decide) (by decide), stt_kr _ _ _ (by decide), bp p c p0 p1 c0 c1, pv_hi (by omega)]
            · rw [pv_s hpi]
              simp (disch := omega) only [stt_k, stt_j, stt_eq]
              rw [q4 131 (by decide) (by decide), stt_kr _ _ _ (by decide)]
              exact bp p c p0 p1 c0 c1
          · simp (disch := omega) only [stt_kr]
            rw [q4 133 (by decide) (by decide)]
            by_cases hpi : p = i
            · rw [hpi, stt_eq]
            · rw [stt_j _ _ hpi]; exact bb p p0 (by omega)
          · simp (disch := omega) only [stt_kr]
            rw [q4 133 (by decide) (by decide), stt_j _ _ (by omega)]; exact bb4 j j4
          · simp (disch := omega) only [stt_kr]
            rw [q4 129 (by decide) (by decide), stt_kr _ _ _ (by decide)]; exact r9
          · simp (disch := omega) only [stt_kr]
            rw [q4 130 (by decide) (by decide), stt_kr _ _ _ (by decide)]; exact r30
          · simp (disch := omega) only [stt_kr]
            rw [q4 132 (by decide) (by decide), stt_kr _ _ _ (by decide)]; exact r32
          · simp (disch := omega) only [stt_kr]
            rw [q4 k (by omega) (by omega), stt_kr _ _ _ (by omega)]; exact bl k hk
        have cl : ∀ won : Int, won = oneW (wnS s) i → Rn d mL_resolve 278 [some (.inr (some 128)), some (.inr (some 129)), some (.inr (some 130)), some (.inr (some 131)), some (.inr (some 132)), some (.inr (some 133)), some (.inr (some 134)), some (.inl a), some (.inl c), some (.inl (wnS s)), some (.inl i), some (.inl (bdS s i)), x12] [.inl won, .inl (bdS s i), .inl i, .inr (some 134), .inr (some 128)] kd (stt H 133 i (bdS s i)) P Q := by
          intro won hwon
          have hpq := prS_q hq (by omega) hw hb i.toNat (by omega)
          have hbk := bd_b hw hb i h0 hi
          refine R_callN fL_resolve_278 rfl rfl pL_pair rfl ⟨Nat.le_of_ble_eq_true rfl, rfl⟩ (sp_pair (C := C + (i.toNat : Int)) (t := prS s i.toNat) (by omega) kg kq (by rw [stt_k _ _ _ _ (by decide)]; exact b10) (by rw [stt_kr _ _ _ (by decide)]; exact bq) hpq.1 (by omega) (by omega) (by omega) hbk (by rw [hwon]; exact oneW_b _ _)) (fun F1 hF1 => ?_)
          obtain ⟨u1, u2, u3, u4⟩ := hF1
          have e9 : notesS (prS s i.toNat) i (bdS s i) won = prS s (i + 1).toNat := by
            rw [toN h0, hwon]
            show _ = notesS (prS s i.toNat) ((i.toNat : Nat) : Int) (bdS s ((i.toNat : Nat) : Int)) (oneW (wnS s) ((i.toNat : Nat) : Int))
            rw [toC h0]
          rw [e9] at u1 u2
          have u3' : ∀ j, j ≠ 10 → F1 128 j = H 128 j := fun j hj => by rw [u3 j hj, stt_k _ _ _ _ (by decide)]
          have v7 : F1 128 7 = s 27 := by rw [u3' 7 (by omega), bo 7 (by omega) (by omega)]; exact hG7
          have v6 : F1 128 6 = s 26 := by rw [u3' 6 (by omega), bo 6 (by omega) (by omega)]; exact hG6
          have gl : ∀ v : Int, v = FE s i → Rn d mL_resolve 330 [some (.inr (some 128)), some (.inr (some 129)), some (.inr (some 130)), some (.inr (some 131)), some (.inr (some 132)), some (.inr (some 133)), some (.inr (some 134)), some (.inl a), some (.inl c), some (.inl (wnS s)), some (.inl i), some (.inl (bdS s i)), x12] [.inl v] kd F1 P Q := by
            intro v hv
            subst hv
            refine R_istore fL_resolve_330 rfl ?_
            exact tl F1 u1 u2 u3' u4
          refine R_iload fL_resolve_281 rfl ?_
          refine R_iload fL_resolve_283 rfl ?_
          refine R_icmp_ne fL_resolve_285 rfl (fun h285 => ?_) (fun h285 => ?_)
          · refine R_iload fL_resolve_293 rfl ?_
            refine R_if_lt fL_resolve_295 rfl (fun h295 => ?_) (fun h295 => ?_)
            · refine R_iload fL_resolve_310 rfl ?_
              refine R_iload fL_resolve_312 rfl ?_
              refine R_icmp_ne fL_resolve_314 rfl (fun h314 => ?_) (fun h314 => ?_)
              · refine R_iconst fL_resolve_329 ?_
                refine gl _ ?_
                have hwin : wnS s = winF (bdS s) (s 0).toNat := rfl
                have hwi := wnS_in hw
                unfold FE feeF
                rw [← hwin, ← ha]
                (repeat' split) <;> omega
              · refine R_iload fL_resolve_317 rfl ?_
                refine R_aload_n fL_resolve_319 rfl ?_
                refine R_bipush fL_resolve_320 ?_
                refine R_iaload fL_resolve_322 kg (by omega) ?_
                rw [v6]
                refine R_callE fL_resolve_323 rfl rfl pL_less rfl ⟨Nat.le_of_ble_eq_true rfl, rfl⟩ (sp_less (by omega)) ?_
                refine R_goto fL_resolve_326 rfl ?_
                refine gl _ ?_
                have hwin : wnS s = winF (bdS s) (s 0).toNat := rfl
                have hwi := wnS_in hw
                unfold FE feeF
                rw [← hwin, ← ha]
                (repeat' split) <;> omega
            · refine R_iload fL_resolve_298 rfl ?_
              refine R_aload_n fL_resolve_300 rfl ?_
              refine R_bipush fL_resolve_301 ?_
              refine R_iaload fL_resolve_303 kg (by omega) ?_
              rw [v7]
              refine R_callE fL_resolve_304 rfl rfl pL_less rfl ⟨Nat.le_of_ble_eq_true rfl, rfl⟩ (sp_less (by omega)) ?_
              refine R_goto fL_resolve_307 rfl ?_
              refine gl _ ?_
              have hwin : wnS s = winF (bdS s) (s 0).toNat := rfl
              have hwi := wnS_in hw
              unfold FE feeF
              rw [← hwin, ← ha]
              (repeat' split) <;> omega
          · refine R_iload fL_resolve_288 rfl ?_
            refine R_goto fL_resolve_290 rfl ?_
            refine gl _ ?_
            have hwin : wnS s = winF (bdS s) (s 0).toNat := rfl
            have hwi := wnS_in hw
            unfold FE feeF
            rw [← hwin, ← ha]
            (repeat' split) <;> omega
        refine R_aload_n fL_resolve_241 rfl ?_
        refine R_bipush fL_resolve_242 ?_
        refine R_iload fL_resolve_244 rfl ?_
        refine R_imul fL_resolve_246 (by omega) ?_
        refine R_iconst fL_resolve_247 ?_
        refine R_iadd fL_resolve_248 (by omega) ?_
        refine R_iaload fL_resolve_249 kp (by omega) ?_
        rw [show H 131 (6 * i + 2) = bdS s i by rw [bp i 2 h0 hi (by omega) (by omega), pv_hi (by omega)]; rfl]
        refine R_istore fL_resolve_250 rfl ?_
        refine R_aload fL_resolve_252 rfl ?_
        refine R_iload fL_resolve_254 rfl ?_
        refine R_iload fL_resolve_256 rfl ?_
        refine R_iastore fL_resolve_258 kb (by decide) (by omega) ?_
        refine R_aload_n fL_resolve_259 rfl ?_
        refine R_aload fL_resolve_260 rfl ?_
        refine R_iload fL_resolve_262 rfl ?_
        refine R_iload fL_resolve_264 rfl ?_
        refine R_iload fL_resolve_266 rfl ?_
        refine R_iload fL_resolve_268 rfl ?_
        refine R_icmp_ne fL_resolve_270 rfl (fun h270 => ?_) (fun h270 => ?_)
        · refine R_iconst fL_resolve_277 ?_
          exact cl 0 (by unfold oneW; rw [if_neg h270])
        · refine R_iconst fL_resolve_273 ?_
          refine R_goto fL_resolve_274 rfl ?_
          exact cl 1 (by unfold oneW; rw [if_pos h270])
  refine R_iconst fL_resolve_230 ?_
  refine R_istore fL_resolve_231 rfl ?_
  exact lp 5 0 _ _ _ (by omega) (by omega) hI (by omega)
