/-! ## the law looks at the whole game -/
theorem ldS_0 {pt co : Int → Int} {i : Int} (h : 0 ≤ i) : ldS pt co (i + 1).toNat = if pt (ldS pt co i.toNat) < pt i ∨ pt (ldS pt co i.toNat) = pt i ∧ co (ldS pt co i.toNat) < co i then i else ldS pt co i.toNat := by
  by_cases hi : i = 0
  · subst hi
    have e : ldS pt co (0 : Int).toNat = 0 := rfl
    rw [e, if_neg (by omega)]
    rfl
  · exact ldS_s (by omega)
theorem pl_bad {s : Int → Int} {p w : Int} (h : ¬ ((0 ≤ p ∧ p < s 0) ∧ 0 ≤ w ∧ w ≤ 5)) : rPlayerOf s p w = -1000001 := if_neg h
theorem pl_2 {s : Int → Int} {p : Int} (h : 0 ≤ p ∧ p < s 0) : rPlayerOf s p 2 = if 0 ≤ s (126 + 6 * p + 2) then 1 else 0 := by unfold rPlayerOf; rw [if_pos ⟨h, by omega, by omega⟩, if_pos rfl]
theorem pl_o {s : Int → Int} {p w : Int} (h : 0 ≤ p ∧ p < s 0) (hw : 0 ≤ w ∧ w ≤ 5) (h2 : w ≠ 2) : rPlayerOf s p w = s (126 + 6 * p + w) := by unfold rPlayerOf; rw [if_pos ⟨h, hw⟩, if_neg h2]
theorem lo_qb {s : Int → Int} {wh i : Int} (h : ¬ ((0 ≤ wh ∧ wh ≤ 1) ∧ 0 ≤ i)) : rLotOf s wh i = -1000001 := if_neg h
theorem lo_q0 {s : Int → Int} {i : Int} (h : 0 ≤ i) : rLotOf s 0 i = if i < s 4 then s (5 + i) else -1000004 := by unfold rLotOf; rw [if_pos ⟨by omega, h⟩, if_pos rfl]
theorem lo_q1 {s : Int → Int} {i : Int} (h : 0 ≤ i) : rLotOf s 1 i = if i < s 25 then s (2087 + i) else -1000004 := by unfold rLotOf; rw [if_pos ⟨by omega, h⟩, if_neg (by omega)]
theorem tab_eq {F : FM} {s : Int → Int} (hL : LR F s) (h : 0 ≤ s 25) : sg (F 130) (s 25).toNat = tabS s := by
  unfold tabS
  exact sg_congr (fun i i0 i1 => hL.2.2.1 i i0 (by omega))
theorem is_E {d : Nat} {kd : KL} {F : FM} {P : PM} {s : Int → Int} {T : Int} {H : FM} {P1 : PM} {x11 x12 x13 : Option AV} (hd : 6 ≤ d) (hK : LK kd) (hL : LR F s) (hc : PC T s) (hT : 0 ≤ T ∧ T < 110) (h59 : s 150 ≤ 59) (hv : WD kd H P1 s) (hf : FR F H P P1) : Rn d mL_isSo 500 [some (.inr (some 3)), some (.inr (some 128)), some (.inr (some 129)), some (.inr (some 130)), some (.inr (some 131)), some (.inr (some 132)), some (.inr (some 133)), some (.inr (some 134)), some (.inl 1), some (.inl (coinsS s)), some (.inl (ldS (fun q => s (126 + 6 * q + 1)) (fun q => s (126 + 6 * q)) (s 0).toNat)), x11, x12, x13] [] kd H P1 (QI kd (fun r F' P' => r = 1 ∧ WD kd F' P' s ∧ FR F F' P P')) := by
  obtain ⟨kg, kl, kt, kp, kh, kb, kq, kx⟩ := id hK
  have lr := FR_LR hL hf
  obtain ⟨⟨g0, g1, g2, g3, g4, g5, g6, g7, g8, g9, g10⟩, hl, ht, hp, hh, hbb, hq⟩ := id lr
  have hw := WD_wf hv
  have w0 := hw.1
  have w1 := hw.2.1
  have w3 := hw.2.2.2.1
  have hs2 := hw.2.2.2.2.2.2.2.2.2.2.2.1
  have hT2 := hc.1
  have lp : ∀ (N : Nat) (i m : Int) (H : FM) (P1 : PM), 0 ≤ i → i ≤ s 0 → m = sg (fun p => s (126 + 6 * p + 4) - s (126 + 6 * p + 5)) i.toNat → (-20000 * i ≤ m ∧ m ≤ 20000 * i) → WD kd H P1 s → FR F H P P1 → s 0 - i < N → Rn d mL_isSo 506 [some (.inr (some 3)), some (.inr (some 128)), some (.inr (some 129)), some (.inr (some 130)), some (.inr (some 131)), some (.inr (some 132)), some (.inr (some 133)), some (.inr (some 134)), some (.inl 1), some (.inl (coinsS s)), some (.inl (ldS (fun q => s (126 + 6 * q + 1)) (fun q => s (126 + 6 * q)) (s 0).toNat)), some (.inl m), some (.inl i), x13] [] kd H P1 (QI kd (fun r F' P' => r = 1 ∧ WD kd F' P' s ∧ FR F F' P P')) := by
    intro N
    induction N with
    | zero => intro i m H P1 h0 h1 h2 h3 hv hf h6; omega
    | succ N ih =>
      intro i m H P1 h0 h1 h2 h3 hv hf h6
      have y_ := (FR_LR hL hf).1
      refine R_iload fL_isSo_506 rfl ?_
      refine R_aload_n fL_isSo_508 rfl ?_
      refine R_iconst fL_isSo_509 ?_
      refine R_iaload fL_isSo_510 kg (by omega) ?_
      rw [y_.1]
      refine R_icmp_ge fL_isSo_511 rfl (fun h511 => ?_) (fun h511 => ?_)
      · have hi : i = s 0 := by omega
        subst hi
        have hpd := h2.trans hc.2.2.2.2
        refine R_iload fL_isSo_540 rfl ?_
        refine R_if_eq fL_isSo_542 rfl (fun h542 => absurd h542 (by omega)) (fun h542 => ?_)
        refine R_iload fL_isSo_545 rfl ?_
        refine R_aload_n fL_isSo_547 rfl ?_
        refine R_iconst fL_isSo_548 ?_
        refine R_callI fL_isSo_549 rfl rfl pX7_count rfl ⟨Nat.le_of_ble_eq_true rfl, rcv_v rfl (by decide) kx⟩ (w_count (by omega) hv ⟨by omega, by omega⟩) (fun r0 G0 Q0 q => ?_)
        obtain ⟨a0, b0, c0⟩ := q
        rw [show (if (4 : Int) = 11 then 0 else rNumber s 4) = s 1 from rfl] at a0
        have f0 := FR_tr hf c0
        have y0 := (FR_LR hL f0).1
        
        refine R_icmp_ne fL_isSo_552 rfl (fun h552 => absurd h552 (fun z => z (by rw [a0]; exact hpd))) (fun h552 => ?_)
        refine R_aload_n fL_isSo_555 rfl ?_
        refine R_callI fL_isSo_556 rfl rfl pX7_winner rfl ⟨Nat.le_of_ble_eq_true rfl, rcv_v rfl (by decide) kx⟩ (w_winner (by omega) b0) (fun r1 G1 Q1 q => ?_)
        obtain ⟨a1, b1, c1⟩ := q
        have f1 := FR_tr f0 c1
        have y1 := (FR_LR hL f1).1
        
        refine R_iload fL_isSo_559 rfl ?_
        refine R_icmp_ne fL_isSo_561 rfl (fun h561 => absurd h561 (fun z => z a1)) (fun h561 => ?_)
        refine R_aload_n fL_isSo_564 rfl ?_
        refine R_bipush fL_isSo_565 ?_
        refine R_callI fL_isSo_567 rfl rfl pX7_count rfl ⟨Nat.le_of_ble_eq_true rfl, rcv_v rfl (by decide) kx⟩ (w_count (by omega) b1 ⟨by omega, by omega⟩) (fun r2 G2 Q2 q => ?_)
        obtain ⟨a2, b2, c2⟩ := q
        rw [show (if (20 : Int) = 11 then 0 else rNumber s 20) = s 26 from rfl] at a2
        have f2 := FR_tr f1 c2
        have y2 := (FR_LR hL f2).1
        
        refine R_aload_n fL_isSo_570 rfl ?_
        refine R_bipush fL_isSo_571 ?_
        refine R_iaload fL_isSo_573 kg (by omega) ?_
        rw [y2.2.2.2.2.2.2.1]
        refine R_icmp_ne fL_isSo_574 rfl (fun h574 => absurd h574 (fun z => z a2)) (fun h574 => ?_)
        refine R_aload_n fL_isSo_577 rfl ?_
        refine R_bipush fL_isSo_578 ?_
        refine R_callI fL_isSo_580 rfl rfl pX7_count rfl ⟨Nat.le_of_ble_eq_true rfl, rcv_v rfl (by decide) kx⟩ (w_count (by omega) b2 ⟨by omega, by omega⟩) (fun r3 G3 Q3 q => ?_)
        obtain ⟨a3, b3, c3⟩ := q
        rw [show (if (21 : Int) = 11 then 0 else rNumber s 21) = s 27 from rfl] at a3
        have f3 := FR_tr f2 c3
        have y3 := (FR_LR hL f3).1
        
        refine R_aload_n fL_isSo_583 rfl ?_
        refine R_bipush fL_isSo_584 ?_
        refine R_iaload fL_isSo_586 kg (by omega) ?_
        rw [y3.2.2.2.2.2.2.2.1]
        refine R_icmp_ne fL_isSo_587 rfl (fun h587 => absurd h587 (fun z => z a3)) (fun h587 => ?_)
        refine R_aload_n fL_isSo_590 rfl ?_
        refine R_bipush fL_isSo_591 ?_
        refine R_callI fL_isSo_593 rfl rfl pX7_count rfl ⟨Nat.le_of_ble_eq_true rfl, rcv_v rfl (by decide) kx⟩ (w_count (by omega) b3 ⟨by omega, by omega⟩) (fun r4 G4 Q4 q => ?_)
        obtain ⟨a4, b4, c4⟩ := q
        rw [show (if (22 : Int) = 11 then 0 else rNumber s 22) = s 28 from rfl] at a4
        have f4 := FR_tr f3 c4
        have y4 := (FR_LR hL f4).1
        
        refine R_aload_n fL_isSo_596 rfl ?_
        refine R_bipush fL_isSo_597 ?_
        refine R_iaload fL_isSo_599 kg (by omega) ?_
        rw [y4.2.2.2.2.2.2.2.2.1]
        refine R_icmp_ne fL_isSo_600 rfl (fun h600 => absurd h600 (fun z => z a4)) (fun h600 => ?_)
        refine R_aload_n fL_isSo_603 rfl ?_
        refine R_iconst fL_isSo_604 ?_
        refine R_iconst fL_isSo_605 ?_
        refine R_callI fL_isSo_606 rfl rfl pX7_lotOf rfl ⟨Nat.le_of_ble_eq_true rfl, rcv_v rfl (by decide) kx⟩ (w_lotOf (by omega) b4) (fun r5 G5 Q5 q => ?_)
        obtain ⟨a5, b5, c5⟩ := q
        rw [lo_qb (by omega)] at a5
        have f5 := FR_tr f4 c5
        have y5 := (FR_LR hL f5).1
        
        refine R_ldc fL_isSo_609 ?_
        refine R_icmp_ne fL_isSo_611 rfl (fun h611 => absurd h611 (fun z => z a5)) (fun h611 => ?_)
        refine R_aload_n fL_isSo_614 rfl ?_
        refine R_iconst fL_isSo_615 ?_
        refine R_iconst fL_isSo_616 ?_
        refine R_callI fL_isSo_617 rfl rfl pX7_lotOf rfl ⟨Nat.le_of_ble_eq_true rfl, rcv_v rfl (by decide) kx⟩ (w_lotOf (by omega) b5) (fun r6 G6 Q6 q => ?_)
        obtain ⟨a6, b6, c6⟩ := q
        rw [lo_qb (by omega)] at a6
        have f6 := FR_tr f5 c6
        have y6 := (FR_LR hL f6).1
        
        refine R_ldc fL_isSo_620 ?_
        refine R_icmp_ne fL_isSo_622 rfl (fun h622 => absurd h622 (fun z => z a6)) (fun h622 => ?_)
        refine R_iconst fL_isSo_625 ?_
        refine R_goto fL_isSo_626 rfl ?_
        refine R_zreturn fL_isSo_630 rfl (by simp) ?_
        exact ⟨_, _, _, rfl, rfl, b6, f6⟩
      · refine R_iload fL_isSo_514 rfl ?_
        refine R_aload_n fL_isSo_516 rfl ?_
        refine R_iload fL_isSo_517 rfl ?_
        refine R_iconst fL_isSo_519 ?_
        refine R_callI fL_isSo_520 rfl rfl pX7_playerOf rfl ⟨Nat.le_of_ble_eq_true rfl, rcv_v rfl (by decide) kx⟩ (w_playerOf (by omega) hv) (fun r0 G0 Q0 q => ?_)
        obtain ⟨a0, b0, c0⟩ := q
        rw [pl_o (by omega) (by omega) (by omega)] at a0
        have f0 := FR_tr hf c0
        have y0 := (FR_LR hL f0).1
        
        refine R_aload_n fL_isSo_523 rfl ?_
        refine R_iload fL_isSo_524 rfl ?_
        refine R_iconst fL_isSo_526 ?_
        refine R_callI fL_isSo_527 rfl rfl pX7_playerOf rfl ⟨Nat.le_of_ble_eq_true rfl, rcv_v rfl (by decide) kx⟩ (w_playerOf (by omega) b0) (fun r1 G1 Q1 q => ?_)
        obtain ⟨a1, b1, c1⟩ := q
        rw [pl_o (by omega) (by omega) (by omega)] at a1
        have f1 := FR_tr f0 c1
        have y1 := (FR_LR hL f1).1
        subst a0 a1
        have q4 := hc.2.2.2.1 i h0 (by omega)
        refine R_isub fL_isSo_530 (by omega) ?_
        refine R_iadd fL_isSo_531 (by omega) ?_
        refine R_istore fL_isSo_532 rfl ?_
        refine R_iinc fL_isSo_534 rfl (by omega) ?_
        refine R_goto fL_isSo_537 rfl ?_
        refine ih _ _ _ _ (by omega) (by omega) ?_ (by omega) b1 f1 (by omega)
        rw [sg_s h0, h2]
  refine R_iconst fL_isSo_500 ?_
  refine R_istore fL_isSo_501 rfl ?_
  refine R_iconst fL_isSo_503 ?_
  refine R_istore fL_isSo_504 rfl ?_
  exact lp 5 0 0 H P1 (by omega) (by omega) rfl (by omega) hv hf (by omega)
theorem is_D {d : Nat} {kd : KL} {F : FM} {P : PM} {s : Int → Int} {T : Int} {H : FM} {P1 : PM} {x11 x12 x13 : Option AV} (hd : 6 ≤ d) (hK : LK kd) (hL : LR F s) (hc : PC T s) (hT : 0 ≤ T ∧ T < 110) (h59 : s 150 ≤ 59) (hv : WD kd H P1 s) (hf : FR F H P P1) : Rn d mL_isSo 358 [some (.inr (some 3)), some (.inr (some 128)), some (.inr (some 129)), some (.inr (some 130)), some (.inr (some 131)), some (.inr (some 132)), some (.inr (some 133)), some (.inr (some 134)), some (.inl 1), some (.inl (coinsS s)), some (.inl (ldS (fun q => s (126 + 6 * q + 1)) (fun q => s (126 + 6 * q)) (s 0).toNat)), x11, x12, x13] [] kd H P1 (QI kd (fun r F' P' => r = 1 ∧ WD kd F' P' s ∧ FR F F' P P')) := by
  obtain ⟨kg, kl, kt, kp, kh, kb, kq, kx⟩ := id hK
  have lr := FR_LR hL hf
  obtain ⟨⟨g0, g1, g2, g3, g4, g5, g6, g7, g8, g9, g10⟩, hl, ht, hp, hh, hbb, hq⟩ := id lr
  have hw := WD_wf hv
  have w0 := hw.1
  have w1 := hw.2.1
  have w3 := hw.2.2.2.1
  have hs2 := hw.2.2.2.2.2.2.2.2.2.2.2.1
  have hT2 := hc.1
  refine R_iload fL_isSo_358 rfl ?_
  refine R_if_eq fL_isSo_360 rfl (fun h360 => absurd h360 (by omega)) (fun h360 => ?_)
  refine R_aload_n fL_isSo_363 rfl ?_
  refine R_iconst fL_isSo_364 ?_
  refine R_callI fL_isSo_365 rfl rfl pX7_count rfl ⟨Nat.le_of_ble_eq_true rfl, rcv_v rfl (by decide) kx⟩ (w_count (by omega) hv ⟨by omega, by omega⟩) (fun r0 G0 Q0 q => ?_)
  obtain ⟨a0, b0, c0⟩ := q
  rw [show (if (0 : Int) = 11 then 0 else rNumber s 0) = s 0 from rfl] at a0
  have f0 := FR_tr hf c0
  have y0 := (FR_LR hL f0).1
  
  refine R_aload_n fL_isSo_368 rfl ?_
  refine R_iconst fL_isSo_369 ?_
  refine R_iaload fL_isSo_370 kg (by omega) ?_
  rw [y0.1]
  refine R_icmp_ne fL_isSo_371 rfl (fun h371 => absurd h371 (fun z => z a0)) (fun h371 => ?_)
  refine R_aload_n fL_isSo_374 rfl ?_
  refine R_iconst fL_isSo_375 ?_
  refine R_callI fL_isSo_376 rfl rfl pX7_count rfl ⟨Nat.le_of_ble_eq_true rfl, rcv_v rfl (by decide) kx⟩ (w_count (by omega) b0 ⟨by omega, by omega⟩) (fun r1 G1 Q1 q => ?_)
  obtain ⟨a1, b1, c1⟩ := q
  rw [show (if (1 : Int) = 11 then 0 else rNumber s 1) = s 4 from rfl] at a1
  have f1 := FR_tr f0 c1
  have y1 := (FR_LR hL f1).1
  
  refine R_aload_n fL_isSo_379 rfl ?_
  refine R_iconst fL_isSo_380 ?_
  refine R_iaload fL_isSo_381 kg (by omega) ?_
  rw [y1.2.2.2.2.1]
  refine R_icmp_ne fL_isSo_382 rfl (fun h382 => absurd h382 (fun z => z a1)) (fun h382 => ?_)
  refine R_aload_n fL_isSo_385 rfl ?_
  refine R_iconst fL_isSo_386 ?_
  refine R_callI fL_isSo_387 rfl rfl pX7_count rfl ⟨Nat.le_of_ble_eq_true rfl, rcv_v rfl (by decide) kx⟩ (w_count (by omega) b1 ⟨by omega, by omega⟩) (fun r2 G2 Q2 q => ?_)
  obtain ⟨a2, b2, c2⟩ := q
  rw [show (if (2 : Int) = 11 then 0 else rNumber s 2) = s 25 from rfl] at a2
  have f2 := FR_tr f1 c2
  have y2 := (FR_LR hL f2).1
  
  refine R_aload_n fL_isSo_390 rfl ?_
  refine R_iconst fL_isSo_391 ?_
  refine R_iaload fL_isSo_392 kg (by omega) ?_
  rw [y2.2.2.2.2.2.1]
  refine R_icmp_ne fL_isSo_393 rfl (fun h393 => absurd h393 (fun z => z a2)) (fun h393 => ?_)
  refine R_aload_n fL_isSo_396 rfl ?_
  refine R_iconst fL_isSo_397 ?_
  refine R_callI fL_isSo_398 rfl rfl pX7_count rfl ⟨Nat.le_of_ble_eq_true rfl, rcv_v rfl (by decide) kx⟩ (w_count (by omega) b2 ⟨by omega, by omega⟩) (fun r3 G3 Q3 q => ?_)
  obtain ⟨a3, b3, c3⟩ := q
  rw [show (if (3 : Int) = 11 then 0 else rNumber s 3) = tabS s from rfl] at a3
  have f3 := FR_tr f2 c3
  have y3 := (FR_LR hL f3).1
  
  refine R_aload_n fL_isSo_401 rfl ?_
  refine R_aload_n fL_isSo_402 rfl ?_
  refine R_iconst fL_isSo_403 ?_
  refine R_iaload fL_isSo_404 kg (by omega) ?_
  rw [y3.2.2.2.2.2.1]
  refine R_callE fL_isSo_405 rfl rfl pL_sum rfl ⟨Nat.le_of_ble_eq_true rfl, rfl⟩ (sp_sum (by omega) kt (by omega) (fun i i0 i1 => by rw [(FR_LR hL f3).2.2.1 i i0 i1]; exact hw.2.2.2.2.2.2.1 i i0 i1)) ?_
  rw [tab_eq (FR_LR hL f3) (by omega)]
  refine R_icmp_ne fL_isSo_408 rfl (fun h408 => absurd h408 (fun z => z a3)) (fun h408 => ?_)
  refine R_aload_n fL_isSo_411 rfl ?_
  refine R_iconst fL_isSo_412 ?_
  refine R_callI fL_isSo_413 rfl rfl pX7_count rfl ⟨Nat.le_of_ble_eq_true rfl, rcv_v rfl (by decide) kx⟩ (w_count (by omega) b3 ⟨by omega, by omega⟩) (fun r4 G4 Q4 q => ?_)
  obtain ⟨a4, b4, c4⟩ := q
  rw [show (if (4 : Int) = 11 then 0 else rNumber s 4) = s 1 from rfl] at a4
  have f4 := FR_tr f3 c4
  have y4 := (FR_LR hL f4).1
  
  refine R_aload_n fL_isSo_416 rfl ?_
  refine R_iconst fL_isSo_417 ?_
  refine R_iaload fL_isSo_418 kg (by omega) ?_
  rw [y4.2.1]
  refine R_icmp_ne fL_isSo_419 rfl (fun h419 => absurd h419 (fun z => z a4)) (fun h419 => ?_)
  refine R_aload_n fL_isSo_422 rfl ?_
  refine R_iconst fL_isSo_423 ?_
  refine R_callI fL_isSo_424 rfl rfl pX7_count rfl ⟨Nat.le_of_ble_eq_true rfl, rcv_v rfl (by decide) kx⟩ (w_count (by omega) b4 ⟨by omega, by omega⟩) (fun r5 G5 Q5 q => ?_)
  obtain ⟨a5, b5, c5⟩ := q
  rw [show (if (5 : Int) = 11 then 0 else rNumber s 5) = s 2 from rfl] at a5
  have f5 := FR_tr f4 c5
  have y5 := (FR_LR hL f5).1
  
  refine R_aload_n fL_isSo_427 rfl ?_
  refine R_iconst fL_isSo_428 ?_
  refine R_iaload fL_isSo_429 kg (by omega) ?_
  rw [y5.2.2.1]
  refine R_icmp_ne fL_isSo_430 rfl (fun h430 => absurd h430 (fun z => z a5)) (fun h430 => ?_)
  refine R_aload_n fL_isSo_433 rfl ?_
  refine R_bipush fL_isSo_434 ?_
  refine R_callI fL_isSo_436 rfl rfl pX7_count rfl ⟨Nat.le_of_ble_eq_true rfl, rcv_v rfl (by decide) kx⟩ (w_count (by omega) b5 ⟨by omega, by omega⟩) (fun r6 G6 Q6 q => ?_)
  obtain ⟨a6, b6, c6⟩ := q
  rw [show (if (6 : Int) = 11 then 0 else rNumber s 6) = s 3 from rfl] at a6
  have f6 := FR_tr f5 c6
  have y6 := (FR_LR hL f6).1
  
  refine R_aload_n fL_isSo_439 rfl ?_
  refine R_iconst fL_isSo_440 ?_
  refine R_iaload fL_isSo_441 kg (by omega) ?_
  rw [y6.2.2.2.1]
  refine R_icmp_ne fL_isSo_442 rfl (fun h442 => absurd h442 (fun z => z a6)) (fun h442 => ?_)
  refine R_aload_n fL_isSo_445 rfl ?_
  refine R_bipush fL_isSo_446 ?_
  refine R_callI fL_isSo_448 rfl rfl pX7_count rfl ⟨Nat.le_of_ble_eq_true rfl, rcv_v rfl (by decide) kx⟩ (w_count (by omega) b6 ⟨by omega, by omega⟩) (fun r7 G7 Q7 q => ?_)
  obtain ⟨a7, b7, c7⟩ := q
  rw [show (if (7 : Int) = 11 then 0 else rNumber s 7) = bidsS s from rfl] at a7
  have f7 := FR_tr f6 c7
  have y7 := (FR_LR hL f7).1
  
  refine R_aload_n fL_isSo_451 rfl ?_
  refine R_aload fL_isSo_452 rfl ?_
  refine R_callE fL_isSo_454 rfl rfl pL_bids rfl ⟨Nat.le_of_ble_eq_true rfl, rfl⟩ (sp_bids (n := s 0) (by omega) kg kp (by omega) y7.1) ?_
  rw [bids_eq (FR_LR hL f7) hw]
  refine R_icmp_ne fL_isSo_457 rfl (fun h457 => absurd h457 (fun z => z a7)) (fun h457 => ?_)
  refine R_aload_n fL_isSo_460 rfl ?_
  refine R_bipush fL_isSo_461 ?_
  refine R_callI fL_isSo_463 rfl rfl pX7_count rfl ⟨Nat.le_of_ble_eq_true rfl, rcv_v rfl (by decide) kx⟩ (w_count (by omega) b7 ⟨by omega, by omega⟩) (fun r8 G8 Q8 q => ?_)
  obtain ⟨a8, b8, c8⟩ := q
  rw [show (if (8 : Int) = 11 then 0 else rNumber s 8) = coinsS s from rfl] at a8
  have f8 := FR_tr f7 c8
  have y8 := (FR_LR hL f8).1
  
  refine R_iload fL_isSo_466 rfl ?_
  refine R_icmp_ne fL_isSo_468 rfl (fun h468 => absurd h468 (fun z => z a8)) (fun h468 => ?_)
  refine R_aload_n fL_isSo_471 rfl ?_
  refine R_bipush fL_isSo_472 ?_
  refine R_callI fL_isSo_474 rfl rfl pX7_count rfl ⟨Nat.le_of_ble_eq_true rfl, rcv_v rfl (by decide) kx⟩ (w_count (by omega) b8 ⟨by omega, by omega⟩) (fun r9 G9 Q9 q => ?_)
  obtain ⟨a9, b9, c9⟩ := q
  rw [show (if (9 : Int) = 11 then 0 else rNumber s 9) = s 150 from rfl] at a9
  have f9 := FR_tr f8 c9
  have y9 := (FR_LR hL f9).1
  
  refine R_aload_n fL_isSo_477 rfl ?_
  refine R_bipush fL_isSo_478 ?_
  refine R_iaload fL_isSo_480 kg (by omega) ?_
  rw [y9.2.2.2.2.2.2.2.2.2.2]
  refine R_icmp_ne fL_isSo_481 rfl (fun h481 => absurd h481 (fun z => z a9)) (fun h481 => ?_)
  refine R_aload_n fL_isSo_484 rfl ?_
  refine R_bipush fL_isSo_485 ?_
  refine R_callI fL_isSo_487 rfl rfl pX7_count rfl ⟨Nat.le_of_ble_eq_true rfl, rcv_v rfl (by decide) kx⟩ (w_count (by omega) b9 ⟨by omega, by omega⟩) (fun r10 G10 Q10 q => ?_)
  obtain ⟨a10, b10, c10⟩ := q
  rw [show (if (11 : Int) = 11 then 0 else rNumber s 11) = 0 from rfl] at a10
  have f10 := FR_tr f9 c10
  have y10 := (FR_LR hL f10).1
  
  refine R_if_ne fL_isSo_490 rfl (fun h490 => absurd h490 (fun z => z a10)) (fun h490 => ?_)
  refine R_iconst fL_isSo_493 ?_
  refine R_goto fL_isSo_494 rfl ?_
  refine R_istore fL_isSo_498 rfl ?_
  exact is_E hd hK hL hc hT h59 b10 f10
theorem is_C {d : Nat} {kd : KL} {F : FM} {P : PM} {s : Int → Int} {T : Int} {H : FM} {P1 : PM} {x11 x12 x13 : Option AV} (hd : 6 ≤ d) (hK : LK kd) (hL : LR F s) (hc : PC T s) (hT : 0 ≤ T ∧ T < 110) (h59 : s 150 ≤ 59) (hv : WD kd H P1 s) (hf : FR F H P P1) : Rn d mL_isSo 276 [some (.inr (some 3)), some (.inr (some 128)), some (.inr (some 129)), some (.inr (some 130)), some (.inr (some 131)), some (.inr (some 132)), some (.inr (some 133)), some (.inr (some 134)), some (.inl 1), some (.inl (coinsS s)), some (.inl (ldS (fun q => s (126 + 6 * q + 1)) (fun q => s (126 + 6 * q)) (s 0).toNat)), x11, x12, x13] [] kd H P1 (QI kd (fun r F' P' => r = 1 ∧ WD kd F' P' s ∧ FR F F' P P')) := by
  obtain ⟨kg, kl, kt, kp, kh, kb, kq, kx⟩ := id hK
  have lr := FR_LR hL hf
  obtain ⟨⟨g0, g1, g2, g3, g4, g5, g6, g7, g8, g9, g10⟩, hl, ht, hp, hh, hbb, hq⟩ := id lr
  have hw := WD_wf hv
  have w0 := hw.1
  have w1 := hw.2.1
  have w3 := hw.2.2.2.1
  have hs2 := hw.2.2.2.2.2.2.2.2.2.2.2.1
  have hT2 := hc.1
  have lp : ∀ (N : Nat) (i : Int) (H : FM) (P1 : PM), 0 ≤ i → i ≤ 20 → WD kd H P1 s → FR F H P P1 → 20 - i < N → Rn d mL_isSo 279 [some (.inr (some 3)), some (.inr (some 128)), some (.inr (some 129)), some (.inr (some 130)), some (.inr (some 131)), some (.inr (some 132)), some (.inr (some 133)), some (.inr (some 134)), some (.inl 1), some (.inl (coinsS s)), some (.inl (ldS (fun q => s (126 + 6 * q + 1)) (fun q => s (126 + 6 * q)) (s 0).toNat)), some (.inl i), x12, x13] [] kd H P1 (QI kd (fun r F' P' => r = 1 ∧ WD kd F' P' s ∧ FR F F' P P')) := by
    intro N
    induction N with
    | zero => intro i H P1 h0 h1 hv hf h6; omega
    | succ N ih =>
      intro i H P1 h0 h1 hv hf h6
      refine R_iload fL_isSo_279 rfl ?_
      refine R_bipush fL_isSo_281 ?_
      refine R_icmp_ge fL_isSo_283 rfl (fun h283 => ?_) (fun h283 => ?_)
      · exact is_D hd hK hL hc hT h59 hv hf
      · refine R_iload fL_isSo_286 rfl ?_
        refine R_if_eq fL_isSo_288 rfl (fun h288 => absurd h288 (by omega)) (fun h288 => ?_)
        refine R_aload_n fL_isSo_291 rfl ?_
        refine R_iconst fL_isSo_292 ?_
        refine R_iload fL_isSo_293 rfl ?_
        refine R_callI fL_isSo_295 rfl rfl pX7_lotOf rfl ⟨Nat.le_of_ble_eq_true rfl, rcv_v rfl (by decide) kx⟩ (w_lotOf (by omega) hv) (fun r0 G0 Q0 q => ?_)
        obtain ⟨a0, b0, c0⟩ := q
        rw [lo_q0 (by omega)] at a0
        have f0 := FR_tr hf c0
        have y0 := (FR_LR hL f0).1
        have l0 := FR_LR hL f0
        refine R_iload fL_isSo_298 rfl ?_
        refine R_aload_n fL_isSo_300 rfl ?_
        refine R_iconst fL_isSo_301 ?_
        refine R_iaload fL_isSo_302 kg (by omega) ?_
        rw [y0.2.2.2.2.1]
        refine R_icmp_ge fL_isSo_303 rfl (fun h303 => ?_) (fun h303 => ?_)
        · refine R_ldc fL_isSo_313 ?_
          refine R_icmp_ne fL_isSo_315 rfl (fun h315 => absurd h315 (fun z => z (a0.trans (by first | exact if_pos (by omega) | exact if_neg (by omega))))) (fun h315 => ?_)
          refine R_aload_n fL_isSo_318 rfl ?_
          refine R_iconst fL_isSo_319 ?_
          refine R_iload fL_isSo_320 rfl ?_
          refine R_callI fL_isSo_322 rfl rfl pX7_lotOf rfl ⟨Nat.le_of_ble_eq_true rfl, rcv_v rfl (by decide) kx⟩ (w_lotOf (by omega) b0) (fun r1 G1 Q1 q => ?_)
          obtain ⟨a1, b1, c1⟩ := q
          rw [lo_q1 (by omega)] at a1
          have f1 := FR_tr f0 c1
          have y1 := (FR_LR hL f1).1
          have l1 := FR_LR hL f1
          refine R_iload fL_isSo_325 rfl ?_
          refine R_aload_n fL_isSo_327 rfl ?_
          refine R_iconst fL_isSo_328 ?_
          refine R_iaload fL_isSo_329 kg (by omega) ?_
          rw [y1.2.2.2.2.2.1]
          refine R_icmp_ge fL_isSo_330 rfl (fun h330 => ?_) (fun h330 => ?_)
          · refine R_ldc fL_isSo_340 ?_
            refine R_icmp_ne fL_isSo_342 rfl (fun h342 => absurd h342 (fun z => z (a1.trans (by first | exact if_pos (by omega) | exact if_neg (by omega))))) (fun h342 => ?_)
            refine R_iconst fL_isSo_345 ?_
            refine R_goto fL_isSo_346 rfl ?_
            refine R_istore fL_isSo_350 rfl ?_
            refine R_iinc fL_isSo_352 rfl (by omega) ?_
            refine R_goto fL_isSo_355 rfl ?_
            exact ih _ _ _ (by omega) (by omega) b1 f1 (by omega)
          · refine R_aload_n fL_isSo_333 rfl ?_
            refine R_iload fL_isSo_334 rfl ?_
            refine R_iaload fL_isSo_336 kt (by omega) ?_
            rw [l1.2.2.1 i h0 (by omega)]
            refine R_goto fL_isSo_337 rfl ?_
            refine R_icmp_ne fL_isSo_342 rfl (fun h342 => absurd h342 (fun z => z (a1.trans (by first | exact if_pos (by omega) | exact if_neg (by omega))))) (fun h342 => ?_)
            refine R_iconst fL_isSo_345 ?_
            refine R_goto fL_isSo_346 rfl ?_
            refine R_istore fL_isSo_350 rfl ?_
            refine R_iinc fL_isSo_352 rfl (by omega) ?_
            refine R_goto fL_isSo_355 rfl ?_
            exact ih _ _ _ (by omega) (by omega) b1 f1 (by omega)
        · refine R_aload_n fL_isSo_306 rfl ?_
          refine R_iload fL_isSo_307 rfl ?_
          refine R_iaload fL_isSo_309 kl (by omega) ?_
          rw [l0.2.1 i h0 (by omega)]
          refine R_goto fL_isSo_310 rfl ?_
          refine R_icmp_ne fL_isSo_315 rfl (fun h315 => absurd h315 (fun z => z (a0.trans (by first | exact if_pos (by omega) | exact if_neg (by omega))))) (fun h315 => ?_)
          refine R_aload_n fL_isSo_318 rfl ?_
          refine R_iconst fL_isSo_319 ?_
          refine R_iload fL_isSo_320 rfl ?_
          refine R_callI fL_isSo_322 rfl rfl pX7_lotOf rfl ⟨Nat.le_of_ble_eq_true rfl, rcv_v rfl (by decide) kx⟩ (w_lotOf (by omega) b0) (fun r1 G1 Q1 q => ?_)
          obtain ⟨a1, b1, c1⟩ := q
          rw [lo_q1 (by omega)] at a1
          have f1 := FR_tr f0 c1
          have y1 := (FR_LR hL f1).1
          have l1 := FR_LR hL f1
          refine R_iload fL_isSo_325 rfl ?_
          refine R_aload_n fL_isSo_327 rfl ?_
          refine R_iconst fL_isSo_328 ?_
          refine R_iaload fL_isSo_329 kg (by omega) ?_
          rw [y1.2.2.2.2.2.1]
          refine R_icmp_ge fL_isSo_330 rfl (fun h330 => ?_) (fun h330 => ?_)
          · refine R_ldc fL_isSo_340 ?_
            refine R_icmp_ne fL_isSo_342 rfl (fun h342 => absurd h342 (fun z => z (a1.trans (by first | exact if_pos (by omega) | exact if_neg (by omega))))) (fun h342 => ?_)
            refine R_iconst fL_isSo_345 ?_
            refine R_goto fL_isSo_346 rfl ?_
            refine R_istore fL_isSo_350 rfl ?_
            refine R_iinc fL_isSo_352 rfl (by omega) ?_
            refine R_goto fL_isSo_355 rfl ?_
            exact ih _ _ _ (by omega) (by omega) b1 f1 (by omega)
          · refine R_aload_n fL_isSo_333 rfl ?_
            refine R_iload fL_isSo_334 rfl ?_
            refine R_iaload fL_isSo_336 kt (by omega) ?_
            rw [l1.2.2.1 i h0 (by omega)]
            refine R_goto fL_isSo_337 rfl ?_
            refine R_icmp_ne fL_isSo_342 rfl (fun h342 => absurd h342 (fun z => z (a1.trans (by first | exact if_pos (by omega) | exact if_neg (by omega))))) (fun h342 => ?_)
            refine R_iconst fL_isSo_345 ?_
            refine R_goto fL_isSo_346 rfl ?_
            refine R_istore fL_isSo_350 rfl ?_
            refine R_iinc fL_isSo_352 rfl (by omega) ?_
            refine R_goto fL_isSo_355 rfl ?_
            exact ih _ _ _ (by omega) (by omega) b1 f1 (by omega)
  refine R_iconst fL_isSo_276 ?_
  refine R_istore fL_isSo_277 rfl ?_
  exact lp 21 0 H P1 (by omega) (by omega) hv hf (by omega)
theorem is_B {d : Nat} {kd : KL} {F : FM} {P : PM} {s : Int → Int} {T : Int} {H : FM} {P1 : PM} {x9 x10 x11 x12 x13 : Option AV} (hd : 6 ≤ d) (hK : LK kd) (hL : LR F s) (hc : PC T s) (hT : 0 ≤ T ∧ T < 110) (h59 : s 150 ≤ 59) (hv : WD kd H P1 s) (hf : FR F H P P1) : Rn d mL_isSo 45 [some (.inr (some 3)), some (.inr (some 128)), some (.inr (some 129)), some (.inr (some 130)), some (.inr (some 131)), some (.inr (some 132)), some (.inr (some 133)), some (.inr (some 134)), some (.inl 1), x9, x10, x11, x12, x13] [] kd H P1 (QI kd (fun r F' P' => r = 1 ∧ WD kd F' P' s ∧ FR F F' P P')) := by
  obtain ⟨kg, kl, kt, kp, kh, kb, kq, kx⟩ := id hK
  have lr := FR_LR hL hf
  obtain ⟨⟨g0, g1, g2, g3, g4, g5, g6, g7, g8, g9, g10⟩, hl, ht, hp, hh, hbb, hq⟩ := id lr
  have hw := WD_wf hv
  have w0 := hw.1
  have w1 := hw.2.1
  have w3 := hw.2.2.2.1
  have hs2 := hw.2.2.2.2.2.2.2.2.2.2.2.1
  have hT2 := hc.1
  have lp : ∀ (N : Nat) (i c m : Int) (H : FM) (P1 : PM) (x12 x13 : Option AV), 0 ≤ i → i ≤ s 0 → c = s 1 + sg (fun p => s (126 + 6 * p)) i.toNat → (0 ≤ c ∧ c ≤ 500 + 200 * i) → m = ldS (fun q => s (126 + 6 * q + 1)) (fun q => s (126 + 6 * q)) i.toNat → (0 ≤ m ∧ m < s 0) → WD kd H P1 s → FR F H P P1 → s 0 - i < N → Rn d mL_isSo 56 [some (.inr (some 3)), some (.inr (some 128)), some (.inr (some 129)), some (.inr (some 130)), some (.inr (some 131)), some (.inr (some 132)), some (.inr (some 133)), some (.inr (some 134)), some (.inl 1), some (.inl c), some (.inl m), some (.inl i), x12, x13] [] kd H P1 (QI kd (fun r F' P' => r = 1 ∧ WD kd F' P' s ∧ FR F F' P P')) := by
    intro N
    induction N with
    | zero => intro i c m H P1 x12 x13 h0 h1 h2 h3 h4 h5 hv hf h6; omega
    | succ N ih =>
      intro i c m H P1 x12 x13 h0 h1 h2 h3 h4 h5 hv hf h6
      have y_ := (FR_LR hL hf).1
      have yp := (FR_LR hL hf).2.2.2.1
      refine R_iload fL_isSo_56 rfl ?_
      refine R_aload_n fL_isSo_58 rfl ?_
      refine R_iconst fL_isSo_59 ?_
      refine R_iaload fL_isSo_60 kg (by omega) ?_
      rw [y_.1]
      refine R_icmp_ge fL_isSo_61 rfl (fun h61 => ?_) (fun h61 => ?_)
      · have hi : i = s 0 := by omega
        subst hi
        subst h4
        subst h2
        exact is_C hd hK hL hc hT h59 hv hf
      · refine R_iload fL_isSo_64 rfl ?_
        refine R_if_eq fL_isSo_66 rfl (fun h66 => absurd h66 (by omega)) (fun h66 => ?_)
        have hi : i < s 0 := by omega
        have c3 := w3 i h0 (by omega)
        have pi0 : H 131 (6 * i) = s (126 + 6 * i) := by
          have e := yp i 0 h0 hi (by omega) (by omega)
          rw [Int.add_zero, Int.add_zero] at e
          exact e
        have pi1 := yp i 1 h0 hi (by omega) (by omega)
        have pm0 : H 131 (6 * m) = s (126 + 6 * m) := by
          have e := yp m 0 h5.1 h5.2 (by omega) (by omega)
          rw [Int.add_zero, Int.add_zero] at e
          exact e
        have pm1 := yp m 1 h5.1 h5.2 (by omega) (by omega)
        have cont : ∀ (m2 : Int) (x12 x13 : Option AV), m2 = ldS (fun q => s (126 + 6 * q + 1)) (fun q => s (126 + 6 * q)) (i + 1).toNat → (0 ≤ m2 ∧ m2 < s 0) → Rn d mL_isSo 168 [some (.inr (some 3)), some (.inr (some 128)), some (.inr (some 129)), some (.inr (some 130)), some (.inr (some 131)), some (.inr (some 132)), some (.inr (some 133)), some (.inr (some 134)), some (.inl 1), some (.inl (c + s (126 + 6 * i))), some (.inl m2), some (.inl i), x12, x13] [] kd H P1 (QI kd (fun r F' P' => r = 1 ∧ WD kd F' P' s ∧ FR F F' P P')) := by
          intro m2 x12 x13 hm2 hm3
          have lq : ∀ (N2 : Nat) (j : Int) (H : FM) (P1 : PM), 0 ≤ j → j ≤ 6 → WD kd H P1 s → FR F H P P1 → 6 - j < N2 → Rn d mL_isSo 171 [some (.inr (some 3)), some (.inr (some 128)), some (.inr (some 129)), some (.inr (some 130)), some (.inr (some 131)), some (.inr (some 132)), some (.inr (some 133)), some (.inr (some 134)), some (.inl 1), some (.inl (c + s (126 + 6 * i))), some (.inl m2), some (.inl i), x12, some (.inl j)] [] kd H P1 (QI kd (fun r F' P' => r = 1 ∧ WD kd F' P' s ∧ FR F F' P P')) := by
            intro N2
            induction N2 with
            | zero => intro j H P1 j0 j1 hv hf j6; omega
            | succ N2 ih2 =>
              intro j H P1 j0 j1 hv hf j6
              refine R_iload fL_isSo_171 rfl ?_
              refine R_bipush fL_isSo_173 ?_
              refine R_icmp_ge fL_isSo_175 rfl (fun h175 => ?_) (fun h175 => ?_)
              · refine R_iload fL_isSo_245 rfl ?_
                refine R_if_eq fL_isSo_247 rfl (fun h247 => absurd h247 (by omega)) (fun h247 => ?_)
                refine R_aload_n fL_isSo_250 rfl ?_
                refine R_iload fL_isSo_251 rfl ?_
                refine R_bipush fL_isSo_253 ?_
                refine R_callI fL_isSo_255 rfl rfl pX7_playerOf rfl ⟨Nat.le_of_ble_eq_true rfl, rcv_v rfl (by decide) kx⟩ (w_playerOf (by omega) hv) (fun r0 G0 Q0 q => ?_)
                obtain ⟨a0, b0, c0⟩ := q
                rw [pl_bad (by omega)] at a0
                have f0 := FR_tr hf c0
                have y0 := (FR_LR hL f0).1
                
                refine R_ldc fL_isSo_258 ?_
                refine R_icmp_ne fL_isSo_260 rfl (fun h260 => absurd h260 (fun z => z a0)) (fun h260 => ?_)
                refine R_iconst fL_isSo_263 ?_
                refine R_goto fL_isSo_264 rfl ?_
                refine R_istore fL_isSo_268 rfl ?_
                refine R_iinc fL_isSo_270 rfl (by omega) ?_
                refine R_goto fL_isSo_273 rfl ?_
                refine ih _ _ _ _ _ _ _ (by omega) (by omega) ?_ (by omega) hm2 hm3 b0 f0 (by omega)
                rw [sg_s h0, h2]; omega
              · refine R_iload fL_isSo_178 rfl ?_
                refine R_if_eq fL_isSo_180 rfl (fun h180 => absurd h180 (by omega)) (fun h180 => ?_)
                refine R_aload_n fL_isSo_183 rfl ?_
                refine R_iload fL_isSo_184 rfl ?_
                refine R_iload fL_isSo_186 rfl ?_
                refine R_callI fL_isSo_188 rfl rfl pX7_playerOf rfl ⟨Nat.le_of_ble_eq_true rfl, rcv_v rfl (by decide) kx⟩ (w_playerOf (by omega) hv) (fun r0 G0 Q0 q => ?_)
                obtain ⟨a0, b0, c0⟩ := q
                have f0 := FR_tr hf c0
                have y0 := (FR_LR hL f0).1
                have l0 := FR_LR hL f0
                have lp2 := l0.2.2.2.1
                refine R_iload fL_isSo_191 rfl ?_
                refine R_iconst fL_isSo_193 ?_
                refine R_icmp_ne fL_isSo_194 rfl (fun h194 => ?_) (fun h194 => ?_)
                · refine R_aload fL_isSo_218 rfl ?_
                  refine R_bipush fL_isSo_220 ?_
                  refine R_iload fL_isSo_222 rfl ?_
                  refine R_imul fL_isSo_224 (by omega) ?_
                  refine R_iload fL_isSo_225 rfl ?_
                  refine R_iadd fL_isSo_227 (by omega) ?_
                  refine R_iaload fL_isSo_228 kp (by omega) ?_
                  rw [lp2 i j h0 hi j0 (by omega)]
                  refine R_icmp_ne fL_isSo_229 rfl (fun h229 => absurd h229 (fun z => z (a0.trans (by
                    first
                    | (rw [show j = 2 by omega, pl_2 ⟨h0, hi⟩]; first | (rw [if_pos (by omega)]; done) | (rw [if_neg (by omega)]; done))
                    | exact pl_o ⟨h0, hi⟩ (by omega) (by omega))))) (fun h229 => ?_)
                  refine R_iconst fL_isSo_232 ?_
                  refine R_goto fL_isSo_233 rfl ?_
                  refine R_istore fL_isSo_237 rfl ?_
                  refine R_iinc fL_isSo_239 rfl (by omega) ?_
                  refine R_goto fL_isSo_242 rfl ?_
                  exact ih2 _ _ _ (by omega) (by omega) b0 f0 (by omega)
                · refine R_aload fL_isSo_197 rfl ?_
                  refine R_bipush fL_isSo_199 ?_
                  refine R_iload fL_isSo_201 rfl ?_
                  refine R_imul fL_isSo_203 (by omega) ?_
                  refine R_iconst fL_isSo_204 ?_
                  refine R_iadd fL_isSo_205 (by omega) ?_
                  refine R_iaload fL_isSo_206 kp (by omega) ?_
                  rw [lp2 i 2 h0 hi (by omega) (by omega)]
                  refine R_if_ge fL_isSo_207 rfl (fun h207 => ?_) (fun h207 => ?_)
                  · refine R_iconst fL_isSo_214 ?_
                    refine R_goto fL_isSo_215 rfl ?_
                    refine R_icmp_ne fL_isSo_229 rfl (fun h229 => absurd h229 (fun z => z (a0.trans (by
                      first
                      | (rw [show j = 2 by omega, pl_2 ⟨h0, hi⟩]; first | (rw [if_pos (by omega)]; done) | (rw [if_neg (by omega)]; done))
                      | exact pl_o ⟨h0, hi⟩ (by omega) (by omega))))) (fun h229 => ?_)
                    refine R_iconst fL_isSo_232 ?_
                    refine R_goto fL_isSo_233 rfl ?_
                    refine R_istore fL_isSo_237 rfl ?_
                    refine R_iinc fL_isSo_239 rfl (by omega) ?_
                    refine R_goto fL_isSo_242 rfl ?_
                    exact ih2 _ _ _ (by omega) (by omega) b0 f0 (by omega)
                  · refine R_iconst fL_isSo_210 ?_
                    refine R_goto fL_isSo_211 rfl ?_
                    refine R_icmp_ne fL_isSo_229 rfl (fun h229 => absurd h229 (fun z => z (a0.trans (by
                      first
                      | (rw [show j = 2 by omega, pl_2 ⟨h0, hi⟩]; first | (rw [if_pos (by omega)]; done) | (rw [if_neg (by omega)]; done))
                      | exact pl_o ⟨h0, hi⟩ (by omega) (by omega))))) (fun h229 => ?_)
                    refine R_iconst fL_isSo_232 ?_
                    refine R_goto fL_isSo_233 rfl ?_
                    refine R_istore fL_isSo_237 rfl ?_
                    refine R_iinc fL_isSo_239 rfl (by omega) ?_
                    refine R_goto fL_isSo_242 rfl ?_
                    exact ih2 _ _ _ (by omega) (by omega) b0 f0 (by omega)
          refine R_iconst fL_isSo_168 ?_
          refine R_istore fL_isSo_169 rfl ?_
          exact lq 7 0 H P1 (by omega) (by omega) hv hf (by omega)
        refine R_iload fL_isSo_69 rfl ?_
        refine R_aload fL_isSo_71 rfl ?_
        refine R_bipush fL_isSo_73 ?_
        refine R_iload fL_isSo_75 rfl ?_
        refine R_imul fL_isSo_77 (by omega) ?_
        refine R_iaload fL_isSo_78 kp (by omega) ?_
        rw [pi0]
        refine R_iadd fL_isSo_79 (by omega) ?_
        refine R_istore fL_isSo_80 rfl ?_
        refine R_aload fL_isSo_82 rfl ?_
        refine R_bipush fL_isSo_84 ?_
        refine R_iload fL_isSo_86 rfl ?_
        refine R_imul fL_isSo_88 (by omega) ?_
        refine R_iconst fL_isSo_89 ?_
        refine R_iadd fL_isSo_90 (by omega) ?_
        refine R_iaload fL_isSo_91 kp (by omega) ?_
        rw [pi1]
        refine R_aload fL_isSo_92 rfl ?_
        refine R_bipush fL_isSo_94 ?_
        refine R_iload fL_isSo_96 rfl ?_
        refine R_imul fL_isSo_98 (by omega) ?_
        refine R_iconst fL_isSo_99 ?_
        refine R_iadd fL_isSo_100 (by omega) ?_
        refine R_iaload fL_isSo_101 kp (by omega) ?_
        rw [pm1]
        refine R_icmp_gt fL_isSo_102 rfl (fun h102 => ?_) (fun h102 => ?_)
        · refine R_iconst fL_isSo_147 ?_
          refine R_goto fL_isSo_148 rfl ?_
          refine R_istore fL_isSo_152 rfl ?_
          refine R_iload fL_isSo_154 rfl ?_
          refine R_if_eq fL_isSo_156 rfl (fun h156 => ?_) (fun h156 => ?_)
          · refine R_iload fL_isSo_164 rfl ?_
            refine R_istore fL_isSo_166 rfl ?_
            first
            | (exfalso; omega)
            | (refine cont _ _ _ ?_ (by omega)
               rw [ldS_0 h0, ← h4]
               show _ = if s (126 + 6 * m + 1) < s (126 + 6 * i + 1) ∨ s (126 + 6 * m + 1) = s (126 + 6 * i + 1) ∧ s (126 + 6 * m) < s (126 + 6 * i) then i else m
               first | (rw [if_pos (by omega)]; done) | (rw [if_neg (by omega)]; done))
          · refine R_iload fL_isSo_159 rfl ?_
            refine R_goto fL_isSo_161 rfl ?_
            refine R_istore fL_isSo_166 rfl ?_
            first
            | (exfalso; omega)
            | (refine cont _ _ _ ?_ (by omega)
               rw [ldS_0 h0, ← h4]
               show _ = if s (126 + 6 * m + 1) < s (126 + 6 * i + 1) ∨ s (126 + 6 * m + 1) = s (126 + 6 * i + 1) ∧ s (126 + 6 * m) < s (126 + 6 * i) then i else m
               first | (rw [if_pos (by omega)]; done) | (rw [if_neg (by omega)]; done))
        · refine R_aload fL_isSo_105 rfl ?_
          refine R_bipush fL_isSo_107 ?_
          refine R_iload fL_isSo_109 rfl ?_
          refine R_imul fL_isSo_111 (by omega) ?_
          refine R_iconst fL_isSo_112 ?_
          refine R_iadd fL_isSo_113 (by omega) ?_
          refine R_iaload fL_isSo_114 kp (by omega) ?_
          rw [pi1]
          refine R_aload fL_isSo_115 rfl ?_
          refine R_bipush fL_isSo_117 ?_
          refine R_iload fL_isSo_119 rfl ?_
          refine R_imul fL_isSo_121 (by omega) ?_
          refine R_iconst fL_isSo_122 ?_
          refine R_iadd fL_isSo_123 (by omega) ?_
          refine R_iaload fL_isSo_124 kp (by omega) ?_
          rw [pm1]
          refine R_icmp_ne fL_isSo_125 rfl (fun h125 => ?_) (fun h125 => ?_)
          · refine R_iconst fL_isSo_151 ?_
            refine R_istore fL_isSo_152 rfl ?_
            refine R_iload fL_isSo_154 rfl ?_
            refine R_if_eq fL_isSo_156 rfl (fun h156 => ?_) (fun h156 => ?_)
            · refine R_iload fL_isSo_164 rfl ?_
              refine R_istore fL_isSo_166 rfl ?_
              first
              | (exfalso; omega)
              | (refine cont _ _ _ ?_ (by omega)
                 rw [ldS_0 h0, ← h4]
                 show _ = if s (126 + 6 * m + 1) < s (126 + 6 * i + 1) ∨ s (126 + 6 * m + 1) = s (126 + 6 * i + 1) ∧ s (126 + 6 * m) < s (126 + 6 * i) then i else m
                 first | (rw [if_pos (by omega)]; done) | (rw [if_neg (by omega)]; done))
            · refine R_iload fL_isSo_159 rfl ?_
              refine R_goto fL_isSo_161 rfl ?_
              refine R_istore fL_isSo_166 rfl ?_
              first
              | (exfalso; omega)
              | (refine cont _ _ _ ?_ (by omega)
                 rw [ldS_0 h0, ← h4]
                 show _ = if s (126 + 6 * m + 1) < s (126 + 6 * i + 1) ∨ s (126 + 6 * m + 1) = s (126 + 6 * i + 1) ∧ s (126 + 6 * m) < s (126 + 6 * i) then i else m
                 first | (rw [if_pos (by omega)]; done) | (rw [if_neg (by omega)]; done))
          · refine R_aload fL_isSo_128 rfl ?_
            refine R_bipush fL_isSo_130 ?_
            refine R_iload fL_isSo_132 rfl ?_
            refine R_imul fL_isSo_134 (by omega) ?_
            refine R_iaload fL_isSo_135 kp (by omega) ?_
            rw [pi0]
            refine R_aload fL_isSo_136 rfl ?_
            refine R_bipush fL_isSo_138 ?_
            refine R_iload fL_isSo_140 rfl ?_
            refine R_imul fL_isSo_142 (by omega) ?_
            refine R_iaload fL_isSo_143 kp (by omega) ?_
            rw [pm0]
            refine R_icmp_le fL_isSo_144 rfl (fun h144 => ?_) (fun h144 => ?_)
            · refine R_iconst fL_isSo_151 ?_
              refine R_istore fL_isSo_152 rfl ?_
              refine R_iload fL_isSo_154 rfl ?_
              refine R_if_eq fL_isSo_156 rfl (fun h156 => ?_) (fun h156 => ?_)
              · refine R_iload fL_isSo_164 rfl ?_
                refine R_istore fL_isSo_166 rfl ?_
                first
                | (exfalso; omega)
                | (refine cont _ _ _ ?_ (by omega)
                   rw [ldS_0 h0, ← h4]
                   show _ = if s (126 + 6 * m + 1) < s (126 + 6 * i + 1) ∨ s (126 + 6 * m + 1) = s (126 + 6 * i + 1) ∧ s (126 + 6 * m) < s (126 + 6 * i) then i else m
                   first | (rw [if_pos (by omega)]; done) | (rw [if_neg (by omega)]; done))
              · refine R_iload fL_isSo_159 rfl ?_
                refine R_goto fL_isSo_161 rfl ?_
                refine R_istore fL_isSo_166 rfl ?_
                first
                | (exfalso; omega)
                | (refine cont _ _ _ ?_ (by omega)
                   rw [ldS_0 h0, ← h4]
                   show _ = if s (126 + 6 * m + 1) < s (126 + 6 * i + 1) ∨ s (126 + 6 * m + 1) = s (126 + 6 * i + 1) ∧ s (126 + 6 * m) < s (126 + 6 * i) then i else m
                   first | (rw [if_pos (by omega)]; done) | (rw [if_neg (by omega)]; done))
            · refine R_iconst fL_isSo_147 ?_
              refine R_goto fL_isSo_148 rfl ?_
              refine R_istore fL_isSo_152 rfl ?_
              refine R_iload fL_isSo_154 rfl ?_
              refine R_if_eq fL_isSo_156 rfl (fun h156 => ?_) (fun h156 => ?_)
              · refine R_iload fL_isSo_164 rfl ?_
                refine R_istore fL_isSo_166 rfl ?_
                first
                | (exfalso; omega)
                | (refine cont _ _ _ ?_ (by omega)
                   rw [ldS_0 h0, ← h4]
                   show _ = if s (126 + 6 * m + 1) < s (126 + 6 * i + 1) ∨ s (126 + 6 * m + 1) = s (126 + 6 * i + 1) ∧ s (126 + 6 * m) < s (126 + 6 * i) then i else m
                   first | (rw [if_pos (by omega)]; done) | (rw [if_neg (by omega)]; done))
              · refine R_iload fL_isSo_159 rfl ?_
                refine R_goto fL_isSo_161 rfl ?_
                refine R_istore fL_isSo_166 rfl ?_
                first
                | (exfalso; omega)
                | (refine cont _ _ _ ?_ (by omega)
                   rw [ldS_0 h0, ← h4]
                   show _ = if s (126 + 6 * m + 1) < s (126 + 6 * i + 1) ∨ s (126 + 6 * m + 1) = s (126 + 6 * i + 1) ∧ s (126 + 6 * m) < s (126 + 6 * i) then i else m
                   first | (rw [if_pos (by omega)]; done) | (rw [if_neg (by omega)]; done))
  refine R_aload_n fL_isSo_45 rfl ?_
  refine R_iconst fL_isSo_46 ?_
  refine R_iaload fL_isSo_47 kg (by omega) ?_
  rw [g1]
  refine R_istore fL_isSo_48 rfl ?_
  refine R_iconst fL_isSo_50 ?_
  refine R_istore fL_isSo_51 rfl ?_
  refine R_iconst fL_isSo_53 ?_
  refine R_istore fL_isSo_54 rfl ?_
  exact lp 5 0 (s 1) 0 H P1 _ _ (by omega) (by omega) (show s 1 = s 1 + 0 by omega) (by have := hw.2.2.1; have hsg := sg_bound (f := fun p => s (126 + 6 * p)) (a := 0) (b := 120) (n := (s 0).toNat) (fun p p0 p1 => by have := w3 p p0 (by omega); show 0 ≤ s (126 + 6 * p) ∧ s (126 + 6 * p) ≤ 120; omega); omega) rfl (by omega) hv hf (by omega)
theorem sp_isSo {d : Nat} {kd : KL} {F : FM} {P : PM} {s : Int → Int} {T : Int} (hd : 7 ≤ d) (hK : LK kd) (hW : WD kd F P s) (hL : LR F s) (hc : PC T s) (hT : 0 ≤ T ∧ T < 110) (h59 : s 150 ≤ 59) : Sp d 99 [.inr (some 3), .inr (some 128), .inr (some 129), .inr (some 130), .inr (some 131), .inr (some 132), .inr (some 133), .inr (some 134)] kd F P (QI kd (fun r F' P' => r = 1 ∧ WD kd F' P' s ∧ FR F F' P P')) := by
  refine Sp_of (me := mL_isSo) (by omega) pL_isSo ⟨rfl, Nat.le_of_ble_eq_true rfl⟩ ?_
  obtain ⟨kg, kl, kt, kp, kh, kb, kq, kx⟩ := id hK
  have hw := WD_wf hW
  have w0 := hw.1
  refine R_aload_n fL_isSo_0 rfl ?_
  refine R_aload_n fL_isSo_1 rfl ?_
  refine R_aload fL_isSo_2 rfl ?_
  refine R_aload fL_isSo_4 rfl ?_
  refine R_aload fL_isSo_6 rfl ?_
  refine R_callI fL_isSo_8 rfl rfl pL_areRounds rfl ⟨Nat.le_of_ble_eq_true rfl, rfl⟩ (sp_rounds (by omega) hK hW hL hc hT h59) (fun r F0 P0 q => ?_)
  obtain ⟨rfl, v0, e0⟩ := q
  have y0 := (FR_LR hL e0).1
  refine R_if_eq fL_isSo_11 rfl (fun h11 => absurd h11 (by omega)) (fun h11 => ?_)
  refine R_aload_n fL_isSo_14 rfl ?_
  refine R_aload_n fL_isSo_15 rfl ?_
  refine R_iconst fL_isSo_16 ?_
  refine R_iaload fL_isSo_17 kg (by omega) ?_
  rw [y0.1]
  refine R_iconst fL_isSo_18 ?_
  refine R_callI fL_isSo_19 rfl rfl pX7_playerOf rfl ⟨Nat.le_of_ble_eq_true rfl, rcv_v rfl (by decide) kx⟩ (w_playerOf (by omega) v0) (fun r1 G1 Q1 q => ?_)
  obtain ⟨a1, b1, c1⟩ := q
  rw [pl_bad (by omega)] at a1
  have f1 := FR_tr e0 c1
  refine R_ldc fL_isSo_22 ?_
  refine R_icmp_ne fL_isSo_24 rfl (fun h24 => absurd h24 (fun z => z a1)) (fun h24 => ?_)
  refine R_aload_n fL_isSo_27 rfl ?_
  refine R_iconst fL_isSo_28 ?_
  refine R_iconst fL_isSo_29 ?_
  refine R_callI fL_isSo_30 rfl rfl pX7_playerOf rfl ⟨Nat.le_of_ble_eq_true rfl, rcv_v rfl (by decide) kx⟩ (w_playerOf (by omega) b1) (fun r2 G2 Q2 q => ?_)
  obtain ⟨a2, b2, c2⟩ := q
  rw [pl_bad (by omega)] at a2
  have f2 := FR_tr f1 c2
  refine R_ldc fL_isSo_33 ?_
  refine R_icmp_ne fL_isSo_35 rfl (fun h35 => absurd h35 (fun z => z a2)) (fun h35 => ?_)
  refine R_iconst fL_isSo_38 ?_
  refine R_goto fL_isSo_39 rfl ?_
  refine R_istore fL_isSo_43 rfl ?_
  exact is_B (by omega) hK hL hc hT h59 b2 f2
