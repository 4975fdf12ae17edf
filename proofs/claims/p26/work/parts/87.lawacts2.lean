/-! ## the law's turns: a lot, a bid, a round, a setting -/
theorem lq_o {s : Int → Int} {v j : Int} (h : j ≠ 4) (h2 : j ≠ 5 + s 4) : lotS s v j = s j := by
  unfold lotS
  rw [up_ne _ _ h, up_ne _ _ h2]
theorem lq_4 {s : Int → Int} {v : Int} : lotS s v 4 = s 4 + 1 := by unfold lotS; rw [up_eq]
theorem lq_n {s : Int → Int} {v : Int} (h : 0 ≤ s 4) : lotS s v (5 + s 4) = v := by unfold lotS; rw [up_ne _ _ (by omega), up_eq]
theorem bq_o {s : Int → Int} {p c j : Int} (h : j ≠ 126 + 6 * p + 2) : bidS s p c j = s j := up_ne _ _ h
theorem bq_p {s : Int → Int} {p c : Int} : bidS s p c (126 + 6 * p + 2) = c := up_eq _ _ _
theorem set_o' {s : Int → Int} {w v j : Int} (h : j ≠ 26 + w) : setS s w v j = s j := up_ne _ _ h
theorem set_w {s : Int → Int} {w v : Int} : setS s w v (26 + w) = v := up_eq _ _ _
theorem la_lot {d : Nat} {kd : KL} {F : FM} {P : PM} {s : Int → Int} {T z y way : Int} {F0 : Int → Int} {x11 x12 x13 : Option AV} (hd : 6 ≤ d) (hK : LK kd) (hW : WD kd F P s) (hL : LR F s) (hc : PC T s) (hT : 0 ≤ T ∧ T < 100) (h59 : s 150 ≤ 59) (hF0 : F 0 = F0) (hy : 0 ≤ y ∧ y < 10000000) : Rn d mL_acts 184 [some (.inr (some 3)), some (.inr (some 128)), some (.inr (some 129)), some (.inr (some 130)), some (.inr (some 131)), some (.inr (some 132)), some (.inr (some 133)), some (.inr (some 134)), some (.inl z), some (.inl y), some (.inl way), x11, x12, x13] [] kd F P (QI kd (fun r F' P' => r = 1 ∧ ∃ s', WD kd F' P' s' ∧ LR F' s' ∧ PC (T + 1) s' ∧ s' 150 ≤ 59 ∧ F' 0 = F0)) := by
  obtain ⟨kg, kl, kt, kp, kh, kb, kq, kx⟩ := id hK
  obtain ⟨⟨g0, g1, g2, g3, g4, g5, g6, g7, g8, g9, g10⟩, hl, ht, hp, hh, hbb, hq⟩ := id hL
  have hw := WD_wf hW
  have w0 := hw.1
  have w1 := hw.2.1
  have w7 := hw.2.2.2.2.2.2.2.1
  have w8 := hw.2.2.2.2.2.2.2.2.1
  refine R_iload fL_acts_184 rfl ?_
  refine R_bipush fL_acts_186 ?_
  refine R_iremV fL_acts_188 (by omega) (wr_rem hy.1 (by omega) (by omega)) ?_
  refine R_bipush fL_acts_189 ?_
  refine R_isub fL_acts_191 (by omega) ?_
  refine R_istore fL_acts_192 rfl ?_
  have hv : ∃ v : Int, (-9 ≤ v ∧ v ≤ 20) ∧ v = y % 30 - 9 := ⟨_, by omega, rfl⟩
  obtain ⟨v, hv, ev⟩ := hv
  rw [← ev]
  refine R_aload_n fL_acts_194 rfl ?_
  refine R_iconst fL_acts_195 ?_
  refine R_iaload fL_acts_196 kg (by omega) ?_
  rw [g4]
  refine R_aload_n fL_acts_197 rfl ?_
  refine R_iconst fL_acts_198 ?_
  refine R_iaload fL_acts_199 kg (by omega) ?_
  rw [g5]
  refine R_iadd fL_acts_200 (by omega) ?_
  refine R_bipush fL_acts_201 ?_
  refine R_icmp_ne fL_acts_203 rfl (fun h203 => ?_) (fun h203 => ?_)
  · have hal : aLot s v = s 4 + 1 := by unfold aLot; rw [if_neg (by omega), if_neg (by omega)]
    have htl : tLot s v = lotS s v := by unfold tLot; rw [if_neg (by omega), if_neg (by omega)]
    refine R_aload_n fL_acts_223 rfl ?_
    refine R_aload_n fL_acts_224 rfl ?_
    refine R_iconst fL_acts_225 ?_
    refine R_iaload fL_acts_226 kg (by omega) ?_
    rw [g4]
    refine R_iload fL_acts_227 rfl ?_
    refine R_iastore fL_acts_229 kl (by decide) (by omega) ?_
    refine R_aload_n fL_acts_230 rfl ?_
    refine R_iconst fL_acts_231 ?_
    refine R_dup2 fL_acts_232 ?_
    refine R_iaload fL_acts_233 kg (by omega) ?_
    rw [stt_k _ _ _ _ (by decide), g4]
    refine R_iconst fL_acts_234 ?_
    refine R_iadd fL_acts_235 (by omega) ?_
    refine R_iastore fL_acts_236 kg (by decide) (by omega) ?_
    refine R_aload_n fL_acts_237 rfl ?_
    refine R_iload fL_acts_238 rfl ?_
    refine R_callI fL_acts_240 rfl rfl pX7_lot rfl ⟨Nat.le_of_ble_eq_true rfl, rcv_v rfl (by decide) kx⟩ (w_lot (by omega) (WD_lt (F' := stt (stt F 129 (s 4) v) 128 4 (s 4 + 1)) hW (fun k hk => by rw [stt_kr _ _ _ (by omega), stt_kr _ _ _ (by omega)]))) (fun r F1 P1 q => ?_)
    obtain ⟨q1, q2, q3⟩ := q
    rw [hal] at q1
    rw [htl] at q2
    refine R_aload_n fL_acts_243 rfl ?_
    refine R_iconst fL_acts_244 ?_
    refine R_iaload fL_acts_245 kg (by omega) ?_
    rw [(q3 128 (Or.inr (by omega))).1, stt_eq]
    refine R_icmp_ne fL_acts_246 rfl (fun h246 => absurd h246 (fun z => z q1)) (fun h246 => ?_)
    refine R_iconst fL_acts_249 ?_
    refine R_goto fL_acts_250 rfl ?_
    refine R_zreturn fL_acts_254 rfl (by simp) ?_
    refine ⟨_, _, _, rfl, rfl, _, q2, LR_fr (F := stt (stt F 129 (s 4) v) 128 4 (s 4 + 1)) ?_ (fun k hk => (q3 k (Or.inr hk)).1), PC_congr (PC_up hc) (lq_o (by omega) (by omega)) (lq_o (by omega) (by omega)) (lq_o (by omega) (by omega)) (fun p c p0 p1 c0 => lq_o (by omega) (by omega)) (fun j j0 => lq_o (by omega) (by omega)) (by omega) (by omega), ?_, ?_⟩
    · unfold LR LQ
      rw [lq_4, lq_o (s := s) (v := v) (j := 0) (by omega) (by omega), lq_o (s := s) (v := v) (j := 1) (by omega) (by omega), lq_o (s := s) (v := v) (j := 2) (by omega) (by omega), lq_o (s := s) (v := v) (j := 3) (by omega) (by omega), lq_o (s := s) (v := v) (j := 25) (by omega) (by omega), lq_o (s := s) (v := v) (j := 26) (by omega) (by omega), lq_o (s := s) (v := v) (j := 27) (by omega) (by omega), lq_o (s := s) (v := v) (j := 28) (by omega) (by omega), lq_o (s := s) (v := v) (j := 29) (by omega) (by omega), lq_o (s := s) (v := v) (j := 150) (by omega) (by omega)]
      refine ⟨⟨?_, ?_, ?_, ?_, ?_, ?_, ?_, ?_, ?_, ?_, ?_⟩, fun k k0 k1 => ?_, fun k k0 k1 => ?_, fun p i p0 p1 i0 i1 => ?_, fun k i k0 k1 i0 i1 => ?_, fun k i k0 k1 i0 i1 => ?_, fun i i0 i1 => ?_⟩
      rotate_left 11
      · rw [stt_k _ _ _ _ (by decide)]
        by_cases hk : k = s 4
        · rw [hk, stt_eq, lq_n (by omega)]
        · rw [stt_j _ _ hk, lq_o (by omega) (by omega)]; exact hl k k0 (by omega)
      · rw [stt_k _ _ _ _ (by decide), stt_k _ _ _ _ (by decide), lq_o (by omega) (by omega)]; exact ht k k0 k1
      · rw [stt_k _ _ _ _ (by decide), stt_k _ _ _ _ (by decide), lq_o (by omega) (by omega)]; exact hp p i p0 p1 i0 i1
      · rw [stt_k _ _ _ _ (by decide), stt_k _ _ _ _ (by decide), lq_o (by omega) (by omega)]; exact hh k i k0 k1 i0 i1
      · rw [stt_k _ _ _ _ (by decide), stt_k _ _ _ _ (by decide), lq_o (by omega) (by omega)]; exact hbb k i k0 k1 i0 i1
      · rw [stt_k _ _ _ _ (by decide), stt_k _ _ _ _ (by decide), lq_o (by omega) (by omega), lq_o (by omega) (by omega), lq_o (by omega) (by omega), lq_o (by omega) (by omega)]; exact hq i i0 i1
      all_goals first | (rw [stt_eq]; done) | rw [stt_j _ _ (by omega), stt_k _ _ _ _ (by decide)]
      · exact g0
      · exact g1
      · exact g2
      · exact g3
      · exact g5
      · exact g6
      · exact g7
      · exact g8
      · exact g9
      · exact g10
    · rw [lq_o (by omega) (by omega)]; exact h59
    · rw [(q3 0 (Or.inl (by omega))).1, stt_kr _ _ _ (by decide), stt_kr _ _ _ (by decide)]; exact hF0
  · have hal : aLot s v = -1000003 := by unfold aLot; rw [if_neg (by omega), if_pos (by omega)]
    have htl : tLot s v = s := by unfold tLot; rw [if_neg (by omega), if_pos (by omega)]
    refine R_aload_n fL_acts_206 rfl ?_
    refine R_iload fL_acts_207 rfl ?_
    refine R_callI fL_acts_209 rfl rfl pX7_lot rfl ⟨Nat.le_of_ble_eq_true rfl, rcv_v rfl (by decide) kx⟩ (w_lot (by omega) hW) (fun r F1 P1 q => ?_)
    obtain ⟨q1, q2, q3⟩ := q
    rw [hal] at q1
    rw [htl] at q2
    refine R_ldc fL_acts_212 ?_
    refine R_icmp_ne fL_acts_214 rfl (fun h214 => absurd h214 (fun z => z q1)) (fun h214 => ?_)
    refine R_iconst fL_acts_217 ?_
    refine R_goto fL_acts_218 rfl ?_
    refine R_zreturn fL_acts_222 rfl (by simp) ?_
    refine ⟨_, _, _, rfl, rfl, s, q2, FR_LR hL q3, PC_up hc, h59, ?_⟩
    rw [(q3 0 (Or.inl (by omega))).1]; exact hF0
theorem la_bid {d : Nat} {kd : KL} {F : FM} {P : PM} {s : Int → Int} {T z y way : Int} {F0 : Int → Int} {n : Int} {x12 x13 : Option AV} (hd : 6 ≤ d) (hK : LK kd) (hW : WD kd F P s) (hL : LR F s) (hc : PC T s) (hT : 0 ≤ T ∧ T < 100) (h59 : s 150 ≤ 59) (hF0 : F 0 = F0) (hy : 0 ≤ y ∧ y < 10000000) (hn0 : 0 ≤ n) (hn1 : n < s 0) : Rn d mL_acts 270 [some (.inr (some 3)), some (.inr (some 128)), some (.inr (some 129)), some (.inr (some 130)), some (.inr (some 131)), some (.inr (some 132)), some (.inr (some 133)), some (.inr (some 134)), some (.inl z), some (.inl y), some (.inl way), some (.inl n), x12, x13] [] kd F P (QI kd (fun r F' P' => r = 1 ∧ ∃ s', WD kd F' P' s' ∧ LR F' s' ∧ PC (T + 1) s' ∧ s' 150 ≤ 59 ∧ F' 0 = F0)) := by
  obtain ⟨kg, kl, kt, kp, kh, kb, kq, kx⟩ := id hK
  obtain ⟨⟨g0, g1, g2, g3, g4, g5, g6, g7, g8, g9, g10⟩, hl, ht, hp, hh, hbb, hq⟩ := id hL
  have hw := WD_wf hW
  have w0 := hw.1
  have w1 := hw.2.1
  have w7 := hw.2.2.2.2.2.2.2.1
  have w8 := hw.2.2.2.2.2.2.2.2.1
  have w3 := hw.2.2.2.1
  have tl : ∀ (n : Int) (x12 x13 : Option AV), 0 ≤ n → n < s 0 → Rn d mL_acts 320 [some (.inr (some 3)), some (.inr (some 128)), some (.inr (some 129)), some (.inr (some 130)), some (.inr (some 131)), some (.inr (some 132)), some (.inr (some 133)), some (.inr (some 134)), some (.inl z), some (.inl y), some (.inl way), some (.inl n), x12, x13] [] kd F P (QI kd (fun r F' P' => r = 1 ∧ ∃ s', WD kd F' P' s' ∧ LR F' s' ∧ PC (T + 1) s' ∧ s' 150 ≤ 59 ∧ F' 0 = F0)) := by
    intro n x12 x13 hn0 hn1
    have hpn0 : F 131 (6 * n) = s (126 + 6 * n) := by
      have e := hp n 0 hn0 hn1 (by omega) (by omega)
      rw [Int.add_zero, Int.add_zero] at e
      exact e
    refine R_iload fL_acts_320 rfl ?_
    refine R_iconst fL_acts_322 ?_
    refine R_idivV fL_acts_323 (by omega) (wr_div hy.1 (by omega) (by omega)) ?_
    refine R_iload fL_acts_324 rfl ?_
    refine R_iconst fL_acts_326 ?_
    refine R_iremV fL_acts_327 (by omega) (wr_rem hy.1 (by omega) (by omega)) ?_
    refine R_if_ne fL_acts_328 rfl (fun h328 => ?_) (fun h328 => ?_)
    · refine R_iconst fL_acts_336 ?_
      refine R_iremV fL_acts_337 (by omega) (wr_rem (by omega) (by omega) (by omega)) ?_
      try generalize hcq : y / 4 % _ = c
      have hc0 : 0 ≤ c ∧ c < 40 := by omega
      refine R_istore fL_acts_338 rfl ?_
      refine R_aload_n fL_acts_340 rfl ?_
      refine R_iconst fL_acts_341 ?_
      refine R_iaload fL_acts_342 kg (by omega) ?_
      rw [g4]
      refine R_if_eq fL_acts_343 rfl (fun h343 => ?_) (fun h343 => ?_)
      · have hab : aBid s n c = -1000002 := by unfold aBid; rw [if_neg (by omega), if_pos (by omega)]
        have htb : tBid s n c = s := by unfold tBid; rw [if_neg (by omega), if_pos (by omega)]
        refine R_aload_n fL_acts_359 rfl ?_
        refine R_iload fL_acts_360 rfl ?_
        refine R_iload fL_acts_362 rfl ?_
        refine R_callI fL_acts_364 rfl rfl pX7_bid rfl ⟨Nat.le_of_ble_eq_true rfl, rcv_v rfl (by decide) kx⟩ (w_bid (by omega) hW) (fun r F1 P1 q => ?_)
        obtain ⟨q1, q2, q3⟩ := q
        rw [hab] at q1
        rw [htb] at q2
        refine R_ldc fL_acts_367 ?_
        refine R_icmp_ne fL_acts_369 rfl (fun h369 => absurd h369 (fun z => z q1)) (fun h369 => ?_)
        refine R_iconst fL_acts_372 ?_
        refine R_goto fL_acts_373 rfl ?_
        refine R_zreturn fL_acts_377 rfl (by simp) ?_
        refine ⟨_, _, _, rfl, rfl, s, q2, FR_LR hL q3, PC_up hc, h59, ?_⟩
        rw [(q3 0 (Or.inl (by omega))).1]; exact hF0
      · refine R_iload fL_acts_346 rfl ?_
        refine R_aload fL_acts_348 rfl ?_
        refine R_bipush fL_acts_350 ?_
        refine R_iload fL_acts_352 rfl ?_
        refine R_imul fL_acts_354 (by omega) ?_
        refine R_iaload fL_acts_355 kp (by omega) ?_
        rw [hpn0]
        refine R_icmp_le fL_acts_356 rfl (fun h356 => ?_) (fun h356 => ?_)
        · have hab : aBid s n c = bidsS (bidS s n c) := by unfold aBid; rw [if_neg (by omega), if_neg (by omega)]
          have htb : tBid s n c = bidS s n c := by unfold tBid; rw [if_neg (by omega), if_neg (by omega)]
          have hLb : LR (stt F 131 (6 * n + 2) c) (bidS s n c) := by
            unfold LR LQ
            rw [bq_o (s := s) (p := n) (c := c) (j := 0) (by omega), bq_o (s := s) (p := n) (c := c) (j := 1) (by omega), bq_o (s := s) (p := n) (c := c) (j := 2) (by omega), bq_o (s := s) (p := n) (c := c) (j := 3) (by omega), bq_o (s := s) (p := n) (c := c) (j := 4) (by omega), bq_o (s := s) (p := n) (c := c) (j := 25) (by omega), bq_o (s := s) (p := n) (c := c) (j := 26) (by omega), bq_o (s := s) (p := n) (c := c) (j := 27) (by omega), bq_o (s := s) (p := n) (c := c) (j := 28) (by omega), bq_o (s := s) (p := n) (c := c) (j := 29) (by omega), bq_o (s := s) (p := n) (c := c) (j := 150) (by omega)]
            rw [stt_kr F (6 * n + 2) c (show (128 : Nat) ≠ 131 by decide), stt_kr F (6 * n + 2) c (show (129 : Nat) ≠ 131 by decide), stt_kr F (6 * n + 2) c (show (130 : Nat) ≠ 131 by decide), stt_kr F (6 * n + 2) c (show (132 : Nat) ≠ 131 by decide), stt_kr F (6 * n + 2) c (show (133 : Nat) ≠ 131 by decide), stt_kr F (6 * n + 2) c (show (134 : Nat) ≠ 131 by decide)]
            refine ⟨hL.1, fun k k0 k1 => ?_, fun k k0 k1 => ?_, fun p i p0 p1 i0 i1 => ?_, fun k i k0 k1 i0 i1 => ?_, fun k i k0 k1 i0 i1 => ?_, fun i i0 i1 => ?_⟩
            · rw [bq_o (by omega)]; exact hl k k0 k1
            · rw [bq_o (by omega)]; exact ht k k0 k1
            · by_cases hpi : 6 * p + i = 6 * n + 2
              · rw [hpi, stt_eq, show 126 + 6 * p + i = 126 + 6 * n + 2 by omega, bq_p]
              · rw [stt_j _ _ hpi, bq_o (by omega)]; exact hp p i p0 p1 i0 i1
            · rw [bq_o (by omega)]; exact hh k i k0 k1 i0 i1
            · rw [bq_o (by omega)]; exact hbb k i k0 k1 i0 i1
            · rw [bq_o (by omega), bq_o (by omega), bq_o (by omega), bq_o (by omega)]; exact hq i i0 i1
          have hwb := WF_bid (c := c) hw ⟨hn0, hn1⟩ ⟨hc0.1, by omega⟩
          refine R_aload fL_acts_378 rfl ?_
          refine R_bipush fL_acts_380 ?_
          refine R_iload fL_acts_382 rfl ?_
          refine R_imul fL_acts_384 (by omega) ?_
          refine R_iconst fL_acts_385 ?_
          refine R_iadd fL_acts_386 (by omega) ?_
          refine R_iload fL_acts_387 rfl ?_
          refine R_iastore fL_acts_389 kp (by decide) (by omega) ?_
          refine R_aload_n fL_acts_390 rfl ?_
          refine R_iload fL_acts_391 rfl ?_
          refine R_iload fL_acts_393 rfl ?_
          refine R_callI fL_acts_395 rfl rfl pX7_bid rfl ⟨Nat.le_of_ble_eq_true rfl, rcv_v rfl (by decide) kx⟩ (w_bid (by omega) (WD_lt (F' := stt F 131 (6 * n + 2) c) hW (fun k hk => stt_kr _ _ _ (by omega)))) (fun r F1 P1 q => ?_)
          obtain ⟨q1, q2, q3⟩ := q
          rw [hab] at q1
          rw [htb] at q2
          have hL1 := FR_LR hLb q3
          have he0 : bidS s n c 0 = s 0 := bq_o (by omega)
          have hbe := bids_eq hL1 hwb
          refine R_aload_n fL_acts_398 rfl ?_
          refine R_aload fL_acts_399 rfl ?_
          refine R_callE fL_acts_401 rfl rfl pL_bids rfl ⟨Nat.le_of_ble_eq_true rfl, rfl⟩ (sp_bids (n := bidS s n c 0) (by omega) kg kp (by omega) hL1.1.1) ?_
          rw [hbe]
          refine R_icmp_ne fL_acts_404 rfl (fun h404 => absurd h404 (fun z => z q1)) (fun h404 => ?_)
          refine R_iconst fL_acts_407 ?_
          refine R_goto fL_acts_408 rfl ?_
          refine R_zreturn fL_acts_412 rfl (by simp) ?_
          refine ⟨_, _, _, rfl, rfl, _, q2, hL1, PC_congr (PC_up hc) (bq_o (by omega)) (bq_o (by omega)) (bq_o (by omega)) (fun p c p0 p1 c0 => bq_o (by omega)) (fun j j0 => bq_o (by omega)) (by omega) (by omega), ?_, ?_⟩
          · rw [bq_o (by omega)]; exact h59
          · rw [(q3 0 (Or.inl (by omega))).1, stt_kr _ _ _ (by decide)]; exact hF0
        · have hab : aBid s n c = -1000002 := by unfold aBid; rw [if_neg (by omega), if_pos (by omega)]
          have htb : tBid s n c = s := by unfold tBid; rw [if_neg (by omega), if_pos (by omega)]
          refine R_aload_n fL_acts_359 rfl ?_
          refine R_iload fL_acts_360 rfl ?_
          refine R_iload fL_acts_362 rfl ?_
          refine R_callI fL_acts_364 rfl rfl pX7_bid rfl ⟨Nat.le_of_ble_eq_true rfl, rcv_v rfl (by decide) kx⟩ (w_bid (by omega) hW) (fun r F1 P1 q => ?_)
          obtain ⟨q1, q2, q3⟩ := q
          rw [hab] at q1
          rw [htb] at q2
          refine R_ldc fL_acts_367 ?_
          refine R_icmp_ne fL_acts_369 rfl (fun h369 => absurd h369 (fun z => z q1)) (fun h369 => ?_)
          refine R_iconst fL_acts_372 ?_
          refine R_goto fL_acts_373 rfl ?_
          refine R_zreturn fL_acts_377 rfl (by simp) ?_
          refine ⟨_, _, _, rfl, rfl, s, q2, FR_LR hL q3, PC_up hc, h59, ?_⟩
          rw [(q3 0 (Or.inl (by omega))).1]; exact hF0
    · refine R_bipush fL_acts_331 ?_
      refine R_goto fL_acts_333 rfl ?_
      refine R_iremV fL_acts_337 (by omega) (wr_rem (by omega) (by omega) (by omega)) ?_
      try generalize hcq : y / 4 % _ = c
      have hc0 : 0 ≤ c ∧ c < 40 := by omega
      refine R_istore fL_acts_338 rfl ?_
      refine R_aload_n fL_acts_340 rfl ?_
      refine R_iconst fL_acts_341 ?_
      refine R_iaload fL_acts_342 kg (by omega) ?_
      rw [g4]
      refine R_if_eq fL_acts_343 rfl (fun h343 => ?_) (fun h343 => ?_)
      · have hab : aBid s n c = -1000002 := by unfold aBid; rw [if_neg (by omega), if_pos (by omega)]
        have htb : tBid s n c = s := by unfold tBid; rw [if_neg (by omega), if_pos (by omega)]
        refine R_aload_n fL_acts_359 rfl ?_
        refine R_iload fL_acts_360 rfl ?_
        refine R_iload fL_acts_362 rfl ?_
        refine R_callI fL_acts_364 rfl rfl pX7_bid rfl ⟨Nat.le_of_ble_eq_true rfl, rcv_v rfl (by decide) kx⟩ (w_bid (by omega) hW) (fun r F1 P1 q => ?_)
        obtain ⟨q1, q2, q3⟩ := q
        rw [hab] at q1
        rw [htb] at q2
        refine R_ldc fL_acts_367 ?_
        refine R_icmp_ne fL_acts_369 rfl (fun h369 => absurd h369 (fun z => z q1)) (fun h369 => ?_)
        refine R_iconst fL_acts_372 ?_
        refine R_goto fL_acts_373 rfl ?_
        refine R_zreturn fL_acts_377 rfl (by simp) ?_
        refine ⟨_, _, _, rfl, rfl, s, q2, FR_LR hL q3, PC_up hc, h59, ?_⟩
        rw [(q3 0 (Or.inl (by omega))).1]; exact hF0
      · refine R_iload fL_acts_346 rfl ?_
        refine R_aload fL_acts_348 rfl ?_
        refine R_bipush fL_acts_350 ?_
        refine R_iload fL_acts_352 rfl ?_
        refine R_imul fL_acts_354 (by omega) ?_
        refine R_iaload fL_acts_355 kp (by omega) ?_
        rw [hpn0]
        refine R_icmp_le fL_acts_356 rfl (fun h356 => ?_) (fun h356 => ?_)
        · have hab : aBid s n c = bidsS (bidS s n c) := by unfold aBid; rw [if_neg (by omega), if_neg (by omega)]
          have htb : tBid s n c = bidS s n c := by unfold tBid; rw [if_neg (by omega), if_neg (by omega)]
          have hLb : LR (stt F 131 (6 * n + 2) c) (bidS s n c) := by
            unfold LR LQ
            rw [bq_o (s := s) (p := n) (c := c) (j := 0) (by omega), bq_o (s := s) (p := n) (c := c) (j := 1) (by omega), bq_o (s := s) (p := n) (c := c) (j := 2) (by omega), bq_o (s := s) (p := n) (c := c) (j := 3) (by omega), bq_o (s := s) (p := n) (c := c) (j := 4) (by omega), bq_o (s := s) (p := n) (c := c) (j := 25) (by omega), bq_o (s := s) (p := n) (c := c) (j := 26) (by omega), bq_o (s := s) (p := n) (c := c) (j := 27) (by omega), bq_o (s := s) (p := n) (c := c) (j := 28) (by omega), bq_o (s := s) (p := n) (c := c) (j := 29) (by omega), bq_o (s := s) (p := n) (c := c) (j := 150) (by omega)]
            rw [stt_kr F (6 * n + 2) c (show (128 : Nat) ≠ 131 by decide), stt_kr F (6 * n + 2) c (show (129 : Nat) ≠ 131 by decide), stt_kr F (6 * n + 2) c (show (130 : Nat) ≠ 131 by decide), stt_kr F (6 * n + 2) c (show (132 : Nat) ≠ 131 by decide), stt_kr F (6 * n + 2) c (show (133 : Nat) ≠ 131 by decide), stt_kr F (6 * n + 2) c (show (134 : Nat) ≠ 131 by decide)]
            refine ⟨hL.1, fun k k0 k1 => ?_, fun k k0 k1 => ?_, fun p i p0 p1 i0 i1 => ?_, fun k i k0 k1 i0 i1 => ?_, fun k i k0 k1 i0 i1 => ?_, fun i i0 i1 => ?_⟩
            · rw [bq_o (by omega)]; exact hl k k0 k1
            · rw [bq_o (by omega)]; exact ht k k0 k1
            · by_cases hpi : 6 * p + i = 6 * n + 2
              · rw [hpi, stt_eq, show 126 + 6 * p + i = 126 + 6 * n + 2 by omega, bq_p]
              · rw [stt_j _ _ hpi, bq_o (by omega)]; exact hp p i p0 p1 i0 i1
            · rw [bq_o (by omega)]; exact hh k i k0 k1 i0 i1
            · rw [bq_o (by omega)]; exact hbb k i k0 k1 i0 i1
            · rw [bq_o (by omega), bq_o (by omega), bq_o (by omega), bq_o (by omega)]; exact hq i i0 i1
          have hwb := WF_bid (c := c) hw ⟨hn0, hn1⟩ ⟨hc0.1, by omega⟩
          refine R_aload fL_acts_378 rfl ?_
          refine R_bipush fL_acts_380 ?_
          refine R_iload fL_acts_382 rfl ?_
          refine R_imul fL_acts_384 (by omega) ?_
          refine R_iconst fL_acts_385 ?_
          refine R_iadd fL_acts_386 (by omega) ?_
          refine R_iload fL_acts_387 rfl ?_
          refine R_iastore fL_acts_389 kp (by decide) (by omega) ?_
          refine R_aload_n fL_acts_390 rfl ?_
          refine R_iload fL_acts_391 rfl ?_
          refine R_iload fL_acts_393 rfl ?_
          refine R_callI fL_acts_395 rfl rfl pX7_bid rfl ⟨Nat.le_of_ble_eq_true rfl, rcv_v rfl (by decide) kx⟩ (w_bid (by omega) (WD_lt (F' := stt F 131 (6 * n + 2) c) hW (fun k hk => stt_kr _ _ _ (by omega)))) (fun r F1 P1 q => ?_)
          obtain ⟨q1, q2, q3⟩ := q
          rw [hab] at q1
          rw [htb] at q2
          have hL1 := FR_LR hLb q3
          have he0 : bidS s n c 0 = s 0 := bq_o (by omega)
          have hbe := bids_eq hL1 hwb
          refine R_aload_n fL_acts_398 rfl ?_
          refine R_aload fL_acts_399 rfl ?_
          refine R_callE fL_acts_401 rfl rfl pL_bids rfl ⟨Nat.le_of_ble_eq_true rfl, rfl⟩ (sp_bids (n := bidS s n c 0) (by omega) kg kp (by omega) hL1.1.1) ?_
          rw [hbe]
          refine R_icmp_ne fL_acts_404 rfl (fun h404 => absurd h404 (fun z => z q1)) (fun h404 => ?_)
          refine R_iconst fL_acts_407 ?_
          refine R_goto fL_acts_408 rfl ?_
          refine R_zreturn fL_acts_412 rfl (by simp) ?_
          refine ⟨_, _, _, rfl, rfl, _, q2, hL1, PC_congr (PC_up hc) (bq_o (by omega)) (bq_o (by omega)) (bq_o (by omega)) (fun p c p0 p1 c0 => bq_o (by omega)) (fun j j0 => bq_o (by omega)) (by omega) (by omega), ?_, ?_⟩
          · rw [bq_o (by omega)]; exact h59
          · rw [(q3 0 (Or.inl (by omega))).1, stt_kr _ _ _ (by decide)]; exact hF0
        · have hab : aBid s n c = -1000002 := by unfold aBid; rw [if_neg (by omega), if_pos (by omega)]
          have htb : tBid s n c = s := by unfold tBid; rw [if_neg (by omega), if_pos (by omega)]
          refine R_aload_n fL_acts_359 rfl ?_
          refine R_iload fL_acts_360 rfl ?_
          refine R_iload fL_acts_362 rfl ?_
          refine R_callI fL_acts_364 rfl rfl pX7_bid rfl ⟨Nat.le_of_ble_eq_true rfl, rcv_v rfl (by decide) kx⟩ (w_bid (by omega) hW) (fun r F1 P1 q => ?_)
          obtain ⟨q1, q2, q3⟩ := q
          rw [hab] at q1
          rw [htb] at q2
          refine R_ldc fL_acts_367 ?_
          refine R_icmp_ne fL_acts_369 rfl (fun h369 => absurd h369 (fun z => z q1)) (fun h369 => ?_)
          refine R_iconst fL_acts_372 ?_
          refine R_goto fL_acts_373 rfl ?_
          refine R_zreturn fL_acts_377 rfl (by simp) ?_
          refine ⟨_, _, _, rfl, rfl, s, q2, FR_LR hL q3, PC_up hc, h59, ?_⟩
          rw [(q3 0 (Or.inl (by omega))).1]; exact hF0
  have lp : ∀ (N : Nat) (i n : Int), 0 ≤ i → i ≤ 4 → 0 ≤ n → n < s 0 → 4 - i < N → Rn d mL_acts 273 [some (.inr (some 3)), some (.inr (some 128)), some (.inr (some 129)), some (.inr (some 130)), some (.inr (some 131)), some (.inr (some 132)), some (.inr (some 133)), some (.inr (some 134)), some (.inl z), some (.inl y), some (.inl way), some (.inl n), some (.inl i), x13] [] kd F P (QI kd (fun r F' P' => r = 1 ∧ ∃ s', WD kd F' P' s' ∧ LR F' s' ∧ PC (T + 1) s' ∧ s' 150 ≤ 59 ∧ F' 0 = F0)) := by
    intro N
    induction N with
    | zero => intro i n h0 h1 h2 h3 h6; omega
    | succ N ih =>
      intro i n h0 h1 h2 h3 h6
      refine R_iload fL_acts_273 rfl ?_
      refine R_iconst fL_acts_275 ?_
      refine R_icmp_ge fL_acts_276 rfl (fun h276 => ?_) (fun h276 => ?_)
      · exact tl n _ _ h2 h3
      · refine R_iload fL_acts_279 rfl ?_
        refine R_iconst fL_acts_281 ?_
        refine R_iremV fL_acts_282 (by omega) (wr_rem hy.1 (by omega) (by omega)) ?_
        refine R_if_le fL_acts_283 rfl (fun h283 => ?_) (fun h283 => ?_)
        · exact tl n _ _ h2 h3
        · refine R_aload fL_acts_286 rfl ?_
          refine R_bipush fL_acts_288 ?_
          refine R_iload fL_acts_290 rfl ?_
          refine R_imul fL_acts_292 (by omega) ?_
          refine R_iconst fL_acts_293 ?_
          refine R_iadd fL_acts_294 (by omega) ?_
          refine R_iaload fL_acts_295 kp (by omega) ?_
          refine R_if_ge fL_acts_296 rfl (fun h296 => ?_) (fun h296 => ?_)
          · refine R_iload fL_acts_304 rfl ?_
            refine R_iconst fL_acts_306 ?_
            refine R_iadd fL_acts_307 (by omega) ?_
            refine R_aload_n fL_acts_308 rfl ?_
            refine R_iconst fL_acts_309 ?_
            refine R_iaload fL_acts_310 kg (by omega) ?_
            rw [g0]
            refine R_iremV fL_acts_311 (by omega) (wr_rem (by omega) (by omega) (by omega)) ?_
            refine R_istore fL_acts_312 rfl ?_
            refine R_iinc fL_acts_314 rfl (by omega) ?_
            refine R_goto fL_acts_317 rfl ?_
            refine ih _ _ (by omega) (by omega) ?_ ?_ (by omega)
            · first | omega | exact Int.emod_nonneg _ (by omega)
            · first | omega | exact Int.emod_lt_of_pos _ (by omega)
          · refine R_iload fL_acts_299 rfl ?_
            refine R_goto fL_acts_301 rfl ?_
            refine R_istore fL_acts_312 rfl ?_
            refine R_iinc fL_acts_314 rfl (by omega) ?_
            refine R_goto fL_acts_317 rfl ?_
            refine ih _ _ (by omega) (by omega) ?_ ?_ (by omega)
            · first | omega | exact Int.emod_nonneg _ (by omega)
            · first | omega | exact Int.emod_lt_of_pos _ (by omega)
  refine R_iconst fL_acts_270 ?_
  refine R_istore fL_acts_271 rfl ?_
  exact lp 5 0 n (by omega) (by omega) hn0 hn1 (by omega)
theorem la_res {d : Nat} {kd : KL} {F : FM} {P : PM} {s : Int → Int} {T z y way : Int} {F0 : Int → Int} {x11 x12 x13 : Option AV} (hd : 6 ≤ d) (hK : LK kd) (hW : WD kd F P s) (hL : LR F s) (hc : PC T s) (hT : 0 ≤ T ∧ T < 100) (h59 : s 150 ≤ 59) (hF0 : F 0 = F0) (hy : 0 ≤ y ∧ y < 10000000) (h55 : s 150 ≤ 55) : Rn d mL_acts 420 [some (.inr (some 3)), some (.inr (some 128)), some (.inr (some 129)), some (.inr (some 130)), some (.inr (some 131)), some (.inr (some 132)), some (.inr (some 133)), some (.inr (some 134)), some (.inl z), some (.inl y), some (.inl way), x11, x12, x13] [] kd F P (QI kd (fun r F' P' => r = 1 ∧ ∃ s', WD kd F' P' s' ∧ LR F' s' ∧ PC (T + 1) s' ∧ s' 150 ≤ 59 ∧ F' 0 = F0)) := by
  obtain ⟨kg, kl, kt, kp, kh, kb, kq, kx⟩ := id hK
  obtain ⟨⟨g0, g1, g2, g3, g4, g5, g6, g7, g8, g9, g10⟩, hl, ht, hp, hh, hbb, hq⟩ := id hL
  have hw := WD_wf hW
  have w0 := hw.1
  have w1 := hw.2.1
  have w7 := hw.2.2.2.2.2.2.2.1
  have w8 := hw.2.2.2.2.2.2.2.2.1
  have hs2 := hw.2.2.2.2.2.2.2.2.2.2.2.1
  have hbe := bids_eq hL hw
  have hT2 := hc.1
  refine R_aload_n fL_acts_420 rfl ?_
  refine R_iconst fL_acts_421 ?_
  refine R_iaload fL_acts_422 kg (by omega) ?_
  rw [g4]
  refine R_if_eq fL_acts_423 rfl (fun h423 => ?_) (fun h423 => ?_)
  · have har : aRes s = -1000002 := by unfold aRes; rw [if_pos (by omega)]
    have htr : tRes s = s := by unfold tRes; rw [if_pos (by omega)]
    refine R_aload_n fL_acts_438 rfl ?_
    refine R_callI fL_acts_439 rfl rfl pX7_resolve rfl ⟨Nat.le_of_ble_eq_true rfl, rcv_v rfl (by decide) kx⟩ (w_resolve (by omega) hW (by omega)) (fun r F1 P1 q => ?_)
    obtain ⟨q1, q2, q3⟩ := q
    rw [har] at q1
    rw [htr] at q2
    refine R_ldc fL_acts_442 ?_
    refine R_icmp_ne fL_acts_444 rfl (fun h444 => absurd h444 (fun z => z q1)) (fun h444 => ?_)
    refine R_iconst fL_acts_447 ?_
    refine R_goto fL_acts_448 rfl ?_
    refine R_zreturn fL_acts_452 rfl (by simp) ?_
    refine ⟨_, _, _, rfl, rfl, s, q2, FR_LR hL q3, PC_up hc, h59, ?_⟩
    rw [(q3 0 (Or.inl (by omega))).1]; exact hF0
  · refine R_aload_n fL_acts_426 rfl ?_
    refine R_aload fL_acts_427 rfl ?_
    refine R_callE fL_acts_429 rfl rfl pL_bids rfl ⟨Nat.le_of_ble_eq_true rfl, rfl⟩ (sp_bids (n := s 0) (by omega) kg kp (by omega) g0) ?_
    rw [hbe]
    refine R_aload_n fL_acts_432 rfl ?_
    refine R_iconst fL_acts_433 ?_
    refine R_iaload fL_acts_434 kg (by omega) ?_
    rw [g0]
    refine R_icmp_ge fL_acts_435 rfl (fun h435 => ?_) (fun h435 => ?_)
    · have hb : BD s := BD_of hw (by omega)
      have har : aRes s = wnS s := by unfold aRes; rw [if_neg (by omega)]
      have htr : tRes s = resS s := by unfold tRes; rw [if_neg (by omega)]
      refine R_aload_n fL_acts_453 rfl ?_
      refine R_callI fL_acts_454 rfl rfl pX7_resolve rfl ⟨Nat.le_of_ble_eq_true rfl, rcv_v rfl (by decide) kx⟩ (w_resolve (by omega) hW (by omega)) (fun r F1 P1 q => ?_)
      obtain ⟨q1, q2, q3⟩ := q
      rw [har] at q1
      rw [htr] at q2
      have hL1 := FR_LR hL q3
      refine R_aload_n fL_acts_457 rfl ?_
      refine R_aload_n fL_acts_458 rfl ?_
      refine R_aload_n fL_acts_459 rfl ?_
      refine R_aload fL_acts_460 rfl ?_
      refine R_aload fL_acts_462 rfl ?_
      refine R_aload fL_acts_464 rfl ?_
      refine R_aload fL_acts_466 rfl ?_
      refine R_callV fL_acts_468 rfl rfl pL_resolve rfl ⟨Nat.le_of_ble_eq_true rfl, rfl⟩ (sp_lres (C := s 2) (by omega) hK hL1 hw hb (by omega) (PC_PQ hc hw) (by omega) h59) (fun r2 F2 z => ?_)
      obtain ⟨z1, z2, z3⟩ := z
      refine R_icmp_ne fL_acts_471 rfl (fun h471 => absurd h471 (fun y => y (q1.trans z1.symm))) (fun h471 => ?_)
      refine R_iconst fL_acts_474 ?_
      refine R_goto fL_acts_475 rfl ?_
      refine R_zreturn fL_acts_479 rfl (by simp) ?_
      refine ⟨_, _, _, rfl, rfl, _, WD_lt q2 z3, z2, PC_res hc (by omega) hw hb, ?_, ?_⟩
      · have hq4 := (prS_q (PC_PQ hc hw) (by omega) hw hb (s 0).toNat (by omega)).2
        rw [res_pr hw hb (by omega) (by omega)]
        omega
      · rw [z3 0 (by decide), (q3 0 (Or.inl (by omega))).1]; exact hF0
    · have har : aRes s = -1000002 := by unfold aRes; rw [if_pos (by omega)]
      have htr : tRes s = s := by unfold tRes; rw [if_pos (by omega)]
      refine R_aload_n fL_acts_438 rfl ?_
      refine R_callI fL_acts_439 rfl rfl pX7_resolve rfl ⟨Nat.le_of_ble_eq_true rfl, rcv_v rfl (by decide) kx⟩ (w_resolve (by omega) hW (by omega)) (fun r F1 P1 q => ?_)
      obtain ⟨q1, q2, q3⟩ := q
      rw [har] at q1
      rw [htr] at q2
      refine R_ldc fL_acts_442 ?_
      refine R_icmp_ne fL_acts_444 rfl (fun h444 => absurd h444 (fun z => z q1)) (fun h444 => ?_)
      refine R_iconst fL_acts_447 ?_
      refine R_goto fL_acts_448 rfl ?_
      refine R_zreturn fL_acts_452 rfl (by simp) ?_
      refine ⟨_, _, _, rfl, rfl, s, q2, FR_LR hL q3, PC_up hc, h59, ?_⟩
      rw [(q3 0 (Or.inl (by omega))).1]; exact hF0
theorem la_set {d : Nat} {kd : KL} {F : FM} {P : PM} {s : Int → Int} {T z y way : Int} {F0 : Int → Int} {x11 x12 x13 : Option AV} (hd : 6 ≤ d) (hK : LK kd) (hW : WD kd F P s) (hL : LR F s) (hc : PC T s) (hT : 0 ≤ T ∧ T < 100) (h59 : s 150 ≤ 59) (hF0 : F 0 = F0) (hy : 0 ≤ y ∧ y < 10000000) : Rn d mL_acts 480 [some (.inr (some 3)), some (.inr (some 128)), some (.inr (some 129)), some (.inr (some 130)), some (.inr (some 131)), some (.inr (some 132)), some (.inr (some 133)), some (.inr (some 134)), some (.inl z), some (.inl y), some (.inl way), x11, x12, x13] [] kd F P (QI kd (fun r F' P' => r = 1 ∧ ∃ s', WD kd F' P' s' ∧ LR F' s' ∧ PC (T + 1) s' ∧ s' 150 ≤ 59 ∧ F' 0 = F0)) := by
  obtain ⟨kg, kl, kt, kp, kh, kb, kq, kx⟩ := id hK
  obtain ⟨⟨g0, g1, g2, g3, g4, g5, g6, g7, g8, g9, g10⟩, hl, ht, hp, hh, hbb, hq⟩ := id hL
  have hw := WD_wf hW
  have w0 := hw.1
  have w1 := hw.2.1
  have w7 := hw.2.2.2.2.2.2.2.1
  have w8 := hw.2.2.2.2.2.2.2.2.1
  have w4 := hw.2.2.2.2.1
  have tl : ∀ (w v : Int), (0 ≤ w ∧ w ≤ 2) → (0 ≤ v ∧ v ≤ (if w = 2 then 1 else 5)) → Rn d mL_acts 519 [some (.inr (some 3)), some (.inr (some 128)), some (.inr (some 129)), some (.inr (some 130)), some (.inr (some 131)), some (.inr (some 132)), some (.inr (some 133)), some (.inr (some 134)), some (.inl z), some (.inl y), some (.inl way), x11, some (.inl w), some (.inl (s (26 + w)))] [] kd (stt F 128 (6 + w) v) P (QI kd (fun r F' P' => r = 1 ∧ ∃ s', WD kd F' P' s' ∧ LR F' s' ∧ PC (T + 1) s' ∧ s' 150 ≤ 59 ∧ F' 0 = F0)) := by
    intro w v hwr hvr
    have has : aSet s w v = s (26 + w) := by unfold aSet; rw [if_neg (by omega), if_neg (by omega)]
    have hts : tSet s w v = setS s w v := by unfold tSet; rw [if_neg (by omega), if_neg (by omega)]
    refine R_aload_n fL_acts_519 rfl ?_
    refine R_iload fL_acts_520 rfl ?_
    refine R_aload_n fL_acts_522 rfl ?_
    refine R_bipush fL_acts_523 ?_
    refine R_iload fL_acts_525 rfl ?_
    refine R_iadd fL_acts_527 (by omega) ?_
    refine R_iaload fL_acts_528 kg (by omega) ?_
    rw [stt_eq]
    refine R_callI fL_acts_529 rfl rfl pX7_set rfl ⟨Nat.le_of_ble_eq_true rfl, rcv_v rfl (by decide) kx⟩ (w_set (by omega) (WD_lt (F' := stt F 128 (6 + w) v) hW (fun k hk => stt_kr _ _ _ (by omega)))) (fun r F1 P1 q => ?_)
    obtain ⟨q1, q2, q3⟩ := q
    rw [has] at q1
    rw [hts] at q2
    refine R_iload fL_acts_532 rfl ?_
    refine R_icmp_ne fL_acts_534 rfl (fun h534 => absurd h534 (fun z => z q1)) (fun h534 => ?_)
    refine R_iconst fL_acts_537 ?_
    refine R_goto fL_acts_538 rfl ?_
    refine R_zreturn fL_acts_542 rfl (by simp) ?_
    refine ⟨_, _, _, rfl, rfl, _, q2, LR_fr (F := stt F 128 (6 + w) v) ?_ (fun k hk => (q3 k (Or.inr hk)).1), PC_congr (PC_up hc) (set_o' (by omega)) (set_o' (by omega)) (set_o' (by omega)) (fun p c p0 p1 c0 => set_o' (by omega)) (fun j j0 => set_o' (by omega)) (by omega) (by omega), ?_, ?_⟩
    · unfold LR LQ
      rw [set_o' (s := s) (w := w) (v := v) (j := 0) (by omega), set_o' (s := s) (w := w) (v := v) (j := 1) (by omega), set_o' (s := s) (w := w) (v := v) (j := 2) (by omega), set_o' (s := s) (w := w) (v := v) (j := 3) (by omega), set_o' (s := s) (w := w) (v := v) (j := 4) (by omega), set_o' (s := s) (w := w) (v := v) (j := 25) (by omega), set_o' (s := s) (w := w) (v := v) (j := 29) (by omega), set_o' (s := s) (w := w) (v := v) (j := 150) (by omega)]
      rw [stt_kr F (6 + w) v (show (129 : Nat) ≠ 128 by decide), stt_kr F (6 + w) v (show (130 : Nat) ≠ 128 by decide), stt_kr F (6 + w) v (show (131 : Nat) ≠ 128 by decide), stt_kr F (6 + w) v (show (132 : Nat) ≠ 128 by decide), stt_kr F (6 + w) v (show (133 : Nat) ≠ 128 by decide), stt_kr F (6 + w) v (show (134 : Nat) ≠ 128 by decide)]
      have g678 : ∀ i, 0 ≤ i → i < 3 → stt F 128 (6 + w) v 128 (6 + i) = setS s w v (26 + i) := fun i i0 i1 => by
        by_cases hi : i = w
        · rw [hi, stt_eq, set_w]
        · rw [stt_j _ _ (by omega), set_o' (by omega)]
          rcases (by omega : i = 0 ∨ i = 1 ∨ i = 2) with z | z | z <;> subst z
          · exact g6
          · exact g7
          · exact g8
      refine ⟨⟨?_, ?_, ?_, ?_, ?_, ?_, g678 0 (by omega) (by omega), g678 1 (by omega) (by omega), g678 2 (by omega) (by omega), ?_, ?_⟩, fun k k0 k1 => ?_, fun k k0 k1 => ?_, fun p i p0 p1 i0 i1 => ?_, fun k i k0 k1 i0 i1 => ?_, fun k i k0 k1 i0 i1 => ?_, fun i i0 i1 => ?_⟩
      · rw [stt_j _ _ (by omega)]; exact g0
      · rw [stt_j _ _ (by omega)]; exact g1
      · rw [stt_j _ _ (by omega)]; exact g2
      · rw [stt_j _ _ (by omega)]; exact g3
      · rw [stt_j _ _ (by omega)]; exact g4
      · rw [stt_j _ _ (by omega)]; exact g5
      · rw [stt_j _ _ (by omega)]; exact g9
      · rw [stt_j _ _ (by omega)]; exact g10
      · rw [set_o' (by omega)]; exact hl k k0 k1
      · rw [set_o' (by omega)]; exact ht k k0 k1
      · rw [set_o' (by omega)]; exact hp p i p0 p1 i0 i1
      · rw [set_o' (by omega)]; exact hh k i k0 k1 i0 i1
      · rw [set_o' (by omega)]; exact hbb k i k0 k1 i0 i1
      · rw [set_o' (by omega), set_o' (by omega), set_o' (by omega), set_o' (by omega)]; exact hq i i0 i1
    · rw [set_o' (by omega)]; exact h59
    · rw [(q3 0 (Or.inl (by omega))).1, stt_kr _ _ _ (by decide)]; exact hF0
  refine R_iload fL_acts_480 rfl ?_
  refine R_iconst fL_acts_482 ?_
  refine R_iremV fL_acts_483 (by omega) (wr_rem hy.1 (by omega) (by omega)) ?_
  have hwq : ∃ w : Int, (0 ≤ w ∧ w ≤ 2) ∧ w = y % 3 := ⟨_, by omega, rfl⟩
  obtain ⟨w, hwr, ew⟩ := hwq
  rw [← ew]
  have h6w : F 128 (6 + w) = s (26 + w) := by
    rcases (by omega : w = 0 ∨ w = 1 ∨ w = 2) with z | z | z <;> subst z
    · exact g6
    · exact g7
    · exact g8
  refine R_istore fL_acts_484 rfl ?_
  refine R_aload_n fL_acts_486 rfl ?_
  refine R_bipush fL_acts_487 ?_
  refine R_iload fL_acts_489 rfl ?_
  refine R_iadd fL_acts_491 (by omega) ?_
  refine R_iaload fL_acts_492 kg (by omega) ?_
  rw [h6w]
  refine R_istore fL_acts_493 rfl ?_
  refine R_aload_n fL_acts_495 rfl ?_
  refine R_bipush fL_acts_496 ?_
  refine R_iload fL_acts_498 rfl ?_
  refine R_iadd fL_acts_500 (by omega) ?_
  refine R_iload fL_acts_501 rfl ?_
  refine R_iconst fL_acts_503 ?_
  refine R_idivV fL_acts_504 (by omega) (wr_div hy.1 (by omega) (by omega)) ?_
  refine R_iload fL_acts_505 rfl ?_
  refine R_iconst fL_acts_507 ?_
  refine R_icmp_ne fL_acts_508 rfl (fun h508 => ?_) (fun h508 => ?_)
  · refine R_bipush fL_acts_515 ?_
    refine R_iremV fL_acts_517 (by omega) (wr_rem (by omega) (by omega) (by omega)) ?_
    refine R_iastore fL_acts_518 kg (by decide) (by omega) ?_
    exact tl w _ hwr (by split <;> omega)
  · refine R_iconst fL_acts_511 ?_
    refine R_goto fL_acts_512 rfl ?_
    refine R_iremV fL_acts_517 (by omega) (wr_rem (by omega) (by omega) (by omega)) ?_
    refine R_iastore fL_acts_518 kg (by decide) (by omega) ?_
    exact tl w _ hwr (by split <;> omega)
theorem sp_acts {d : Nat} {kd : KL} {F : FM} {P : PM} {s : Int → Int} {T z : Int} {F0 : Int → Int} (hd : 7 ≤ d) (hK : LK kd) (hW : WD kd F P s) (hL : LR F s) (hc : PC T s) (hT : 0 ≤ T ∧ T < 100) (h59 : s 150 ≤ 59) (hF0 : F 0 = F0) : Sp d 97 [.inr (some 3), .inr (some 128), .inr (some 129), .inr (some 130), .inr (some 131), .inr (some 132), .inr (some 133), .inr (some 134), .inl z] kd F P (QI kd (fun r F' P' => r = 1 ∧ ∃ s', WD kd F' P' s' ∧ LR F' s' ∧ PC (T + 1) s' ∧ s' 150 ≤ 59 ∧ F' 0 = F0)) := by
  refine Sp_of (me := mL_acts) (by omega) pL_acts ⟨rfl, Nat.le_of_ble_eq_true rfl⟩ ?_
  obtain ⟨kg, kl, kt, kp, kh, kb, kq, kx⟩ := id hK
  obtain ⟨⟨g0, g1, g2, g3, g4, g5, g6, g7, g8, g9, g10⟩, hl, ht, hp, hh, hbb, hq⟩ := id hL
  have hw := WD_wf hW
  have w0 := hw.1
  have w1 := hw.2.1
  have w7 := hw.2.2.2.2.2.2.2.1
  have w8 := hw.2.2.2.2.2.2.2.2.1
  obtain ⟨y, hy, hsy⟩ := sp_low (d := d - 1) (kd := kd) (F := F) (P := P) (x := (i32 z >>> (i32 5 &&& 31)).toInt) (n := 10000000) (by omega) (by omega)
  obtain ⟨way, hway, hsw⟩ := sp_low (d := d - 1) (kd := kd) (F := F) (P := P) (x := z) (n := 26) (by omega) (by omega)
  refine R_iload fL_acts_0 rfl ?_
  refine R_iconst fL_acts_2 ?_
  refine R_ishr fL_acts_3 ?_
  refine R_ldc fL_acts_4 ?_
  refine R_callE fL_acts_6 rfl rfl pL_low rfl ⟨Nat.le_of_ble_eq_true rfl, rfl⟩ (hsy) ?_
  refine R_istore fL_acts_9 rfl ?_
  refine R_iload fL_acts_11 rfl ?_
  refine R_bipush fL_acts_13 ?_
  refine R_callE fL_acts_15 rfl rfl pL_low rfl ⟨Nat.le_of_ble_eq_true rfl, rfl⟩ (hsw) ?_
  refine R_istore fL_acts_18 rfl ?_
  refine R_iload fL_acts_20 rfl ?_
  refine R_if_eq fL_acts_22 rfl (fun h22 => ?_) (fun h22 => ?_)
  · exact la_begin (by omega) hK hW hL hc hT h59 hF0 hy
  · refine R_aload_n fL_acts_25 rfl ?_
    refine R_bipush fL_acts_26 ?_
    refine R_iaload fL_acts_28 kg (by omega) ?_
    rw [g10]
    refine R_bipush fL_acts_29 ?_
    refine R_icmp_le fL_acts_31 rfl (fun h31 => ?_) (fun h31 => ?_)
    · refine R_iload fL_acts_177 rfl ?_
      refine R_bipush fL_acts_179 ?_
      refine R_icmp_ge fL_acts_181 rfl (fun h181 => ?_) (fun h181 => ?_)
      · refine R_iload fL_acts_255 rfl ?_
        refine R_aload_n fL_acts_257 rfl ?_
        refine R_iconst fL_acts_258 ?_
        refine R_iaload fL_acts_259 kg (by omega) ?_
        rw [g0]
        refine R_iremV fL_acts_260 (by omega) (wr_rem hy.1 (by omega) (by omega)) ?_
        refine R_istore fL_acts_261 rfl ?_
        refine R_iload fL_acts_263 rfl ?_
        refine R_bipush fL_acts_265 ?_
        refine R_icmp_ge fL_acts_267 rfl (fun h267 => ?_) (fun h267 => ?_)
        · refine R_iload fL_acts_413 rfl ?_
          refine R_bipush fL_acts_415 ?_
          refine R_icmp_ge fL_acts_417 rfl (fun h417 => ?_) (fun h417 => ?_)
          · exact la_set (by omega) hK hW hL hc hT h59 hF0 hy
          · exact la_res (by omega) hK hW hL hc hT h59 hF0 hy (by omega)
        · exact la_bid (by omega) hK hW hL hc hT h59 hF0 hy (Int.emod_nonneg _ (by omega)) (Int.emod_lt_of_pos _ (by omega))
      · exact la_lot (by omega) hK hW hL hc hT h59 hF0 hy
    · exact la_begin (by omega) hK hW hL hc hT h59 hF0 hy
