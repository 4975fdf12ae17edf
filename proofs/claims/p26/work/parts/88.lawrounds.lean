/-! ## the law looks at the rounds -/
theorem ro_bad {s : Int → Int} {b w : Int} (h : ¬ (0 ≤ b ∧ (0 ≤ w ∧ w ≤ 3 ∨ 10 ≤ w ∧ w < 10 + s 0))) : rRoundOf s b w = -1000001 := by unfold rRoundOf; rw [if_neg h]
theorem ro_no {s : Int → Int} {b w : Int} (h : 0 ≤ b ∧ (0 ≤ w ∧ w ≤ 3 ∨ 10 ≤ w ∧ w < 10 + s 0)) (h2 : s 29 ≤ b) : rRoundOf s b w = -1000004 := by unfold rRoundOf; rw [if_pos h, if_neg (by omega)]
theorem ro_lo {s : Int → Int} {b w : Int} (h : 0 ≤ b) (hw : 0 ≤ w ∧ w ≤ 3) (h2 : b < s 29) : rRoundOf s b w = s (30 + 8 * b + w) := by unfold rRoundOf; rw [if_pos ⟨h, Or.inl hw⟩, if_pos h2, if_pos hw.2]
theorem ro_hi {s : Int → Int} {b i : Int} (h : 0 ≤ b) (hi : 0 ≤ i ∧ i < s 0) (h2 : b < s 29) : rRoundOf s b (10 + i) = s (34 + 8 * b + i) := by
  unfold rRoundOf
  rw [if_pos ⟨h, Or.inr ⟨by omega, by omega⟩⟩, if_pos h2, if_neg (by omega), show 30 + 8 * b + (10 + i - 6) = 34 + 8 * b + i by omega]
theorem re_bad {s : Int → Int} {i w : Int} (h : ¬ (0 ≤ i ∧ 0 ≤ w ∧ w ≤ 3)) : rRecord s i w = -1000001 := by unfold rRecord; rw [if_neg h]
theorem re_no {s : Int → Int} {i w : Int} (h : 0 ≤ i ∧ 0 ≤ w ∧ w ≤ 3) (h2 : s 150 ≤ i) : rRecord s i w = -1000004 := by unfold rRecord; rw [if_pos h, if_neg (by omega)]
theorem re_ok {s : Int → Int} {i w : Int} (h : 0 ≤ i ∧ 0 ≤ w ∧ w ≤ 3) (h2 : i < s 150) : rRecord s i w = s (151 + 4 * i + w) := by unfold rRecord; rw [if_pos h, if_pos h2]
theorem sp_rounds {d : Nat} {kd : KL} {F : FM} {P : PM} {s : Int → Int} {T : Int} (hd : 4 ≤ d) (hK : LK kd) (hW : WD kd F P s) (hL : LR F s) (hc : PC T s) (hT : 0 ≤ T ∧ T < 110) (h59 : s 150 ≤ 59) : Sp d 98 [.inr (some 3), .inr (some 128), .inr (some 132), .inr (some 133), .inr (some 134)] kd F P (QI kd (fun r F' P' => r = 1 ∧ WD kd F' P' s ∧ FR F F' P P')) := by
  refine Sp_of (me := mL_areRounds) (by omega) pL_areRounds ⟨rfl, Nat.le_of_ble_eq_true rfl⟩ ?_
  obtain ⟨kg, kl, kt, kp, kh, kb, kq, kx⟩ := id hK
  have hw := WD_wf hW
  have w0 := hw.1
  have w7 := hw.2.2.2.2.2.2.2.1
  have w8 := hw.2.2.2.2.2.2.2.2.1
  have hs2 := hw.2.2.2.2.2.2.2.2.2.2.2.1
  have hT2 := hc.1
  have hpq := PC_PQ hc hw
  have hmul : 0 ≤ s 0 * s 2 ∧ s 0 * s 2 ≤ 440 := by
    rcases (by omega : s 0 = 2 ∨ s 0 = 3 ∨ s 0 = 4) with z | z | z <;> rw [z] <;> omega
  have l3 : ∀ (N : Nat) (i m : Int) (H : FM) (P1 : PM), 0 ≤ i → i ≤ s 150 → m = sg (fun j => s (151 + 4 * j + 2)) i.toNat → (0 ≤ m ∧ m ≤ 200 * i) → WD kd H P1 s → FR F H P P1 → s 150 - i < N → Rn (d - 1) mL_areRounds 205 [some (.inr (some 3)), some (.inr (some 128)), some (.inr (some 132)), some (.inr (some 133)), some (.inr (some 134)), some (.inl 1), some (.inl m), some (.inl i)] [] kd H P1 (QI kd (fun r F' P' => r = 1 ∧ WD kd F' P' s ∧ FR F F' P P')) := by
    intro N
    induction N with
    | zero => intro i m H P1 h0 h1 h2 h3 hv hf h6; omega
    | succ N ih =>
      intro i m H P1 h0 h1 h2 h3 hv hf h6
      have lr := FR_LR hL hf
      obtain ⟨⟨g0, g1, g2, g3, g4, g5, g6, g7, g8, g9, g10⟩, hl, ht, hp, hh, hbb, hq⟩ := id lr
      refine R_iload fL_areRounds_205 rfl ?_
      refine R_aload_n fL_areRounds_207 rfl ?_
      refine R_bipush fL_areRounds_208 ?_
      refine R_iaload fL_areRounds_210 kg (by omega) ?_
      rw [g10]
      refine R_icmp_ge fL_areRounds_211 rfl (fun h211 => ?_) (fun h211 => ?_)
      · have hi : i = s 150 := by omega
        subst hi
        refine R_iload fL_areRounds_343 rfl ?_
        refine R_if_eq fL_areRounds_345 rfl (fun h345 => absurd h345 (by omega)) (fun h345 => ?_)
        refine R_aload_n fL_areRounds_348 rfl ?_
        refine R_aload_n fL_areRounds_349 rfl ?_
        refine R_bipush fL_areRounds_350 ?_
        refine R_iaload fL_areRounds_352 kg (by omega) ?_
        rw [g10]
        refine R_iconst fL_areRounds_353 ?_
        refine R_callI fL_areRounds_354 rfl rfl pX7_record rfl ⟨Nat.le_of_ble_eq_true rfl, rcv_v rfl (by decide) kx⟩ (w_record (by omega) hv) (fun r F1 P2 q => ?_)
        obtain ⟨a0, b0, c0⟩ := q
        rw [re_no (by omega) (by omega)] at a0
        have f0 := FR_tr hf c0
        have l1 := FR_LR hL f0
        refine R_ldc fL_areRounds_357 ?_
        refine R_icmp_ne fL_areRounds_359 rfl (fun h359 => absurd h359 (fun z => z a0)) (fun h359 => ?_)
        refine R_iload fL_areRounds_362 rfl ?_
        refine R_aload_n fL_areRounds_364 rfl ?_
        refine R_iconst fL_areRounds_365 ?_
        refine R_iaload fL_areRounds_366 kg (by omega) ?_
        rw [l1.1.1]
        refine R_aload_n fL_areRounds_367 rfl ?_
        refine R_iconst fL_areRounds_368 ?_
        refine R_iaload fL_areRounds_369 kg (by omega) ?_
        rw [l1.1.2.2.1]
        refine R_imul fL_areRounds_370 (by omega) ?_
        refine R_icmp_ne fL_areRounds_371 rfl (fun h371 => absurd h371 (fun z => z (h2.trans hc.2.2.1))) (fun h371 => ?_)
        refine R_iconst fL_areRounds_374 ?_
        refine R_goto fL_areRounds_375 rfl ?_
        refine R_zreturn fL_areRounds_379 rfl (by simp) ?_
        exact ⟨_, _, _, rfl, rfl, b0, f0⟩
      · have hi : i < s 150 := by omega
        have lb := LQ_bt hq hpq (by omega) h0 hi
        have cb := hc.2.1 i h0 hi
        have q134 : H 134 = F 134 := (hf 134 (Or.inr (by omega))).1
        rw [q134] at lb
        refine R_iload fL_areRounds_214 rfl ?_
        refine R_if_eq fL_areRounds_216 rfl (fun h216 => absurd h216 (by omega)) (fun h216 => ?_)
        refine R_iload fL_areRounds_219 rfl ?_
        refine R_aload fL_areRounds_221 rfl ?_
        refine R_iload fL_areRounds_223 rfl ?_
        refine R_lbt fL_areRounds_225 kq (by decide) (by rw [q134]; omega) ?_
        rw [q134, lb.2.2.2.2.1]
        refine R_iadd fL_areRounds_234 (by omega) ?_
        refine R_istore fL_areRounds_235 rfl ?_
        refine R_aload_n fL_areRounds_237 rfl ?_
        refine R_iload fL_areRounds_238 rfl ?_
        refine R_iconst fL_areRounds_240 ?_
        refine R_callI fL_areRounds_241 rfl rfl pX7_record rfl ⟨Nat.le_of_ble_eq_true rfl, rcv_v rfl (by decide) kx⟩ (w_record (by omega) hv) (fun r0 G0 P2 q => ?_)
        obtain ⟨a0, b0, c0⟩ := q
        rw [re_ok (by omega) hi] at a0
        have f0 := FR_tr hf c0
        have qe0 : G0 134 = F 134 := (f0 134 (Or.inr (by omega))).1
        
        refine R_lcr4 fL_areRounds_244 kq (by decide) (by rw [qe0]; omega) rfl rfl ?_
        rw [qe0, lb.2.2.1]
        refine R_if_ne fL_areRounds_255 rfl (fun h255 => absurd h255 (fun z => z (cmpL_0.mpr (by rw [a0, Int.add_zero])))) (fun h255 => ?_)
        refine R_aload_n fL_areRounds_258 rfl ?_
        refine R_iload fL_areRounds_259 rfl ?_
        refine R_iconst fL_areRounds_261 ?_
        refine R_callI fL_areRounds_262 rfl rfl pX7_record rfl ⟨Nat.le_of_ble_eq_true rfl, rcv_v rfl (by decide) kx⟩ (w_record (by omega) b0) (fun r1 G1 P3 q => ?_)
        obtain ⟨a1, b1, c1⟩ := q
        rw [re_ok (by omega) hi] at a1
        have f1 := FR_tr f0 c1
        have qe1 : G1 134 = F 134 := (f1 134 (Or.inr (by omega))).1
        
        refine R_lcr5 fL_areRounds_265 kq (by decide) (by rw [qe1]; omega) rfl rfl ?_
        rw [qe1, lb.2.2.2.1]
        refine R_if_ne fL_areRounds_279 rfl (fun h279 => absurd h279 (fun z => z (cmpL_0.mpr a1))) (fun h279 => ?_)
        refine R_aload_n fL_areRounds_282 rfl ?_
        refine R_iload fL_areRounds_283 rfl ?_
        refine R_iconst fL_areRounds_285 ?_
        refine R_callI fL_areRounds_286 rfl rfl pX7_record rfl ⟨Nat.le_of_ble_eq_true rfl, rcv_v rfl (by decide) kx⟩ (w_record (by omega) b1) (fun r2 G2 P4 q => ?_)
        obtain ⟨a2, b2, c2⟩ := q
        rw [re_ok (by omega) hi] at a2
        have f2 := FR_tr f1 c2
        have qe2 : G2 134 = F 134 := (f2 134 (Or.inr (by omega))).1
        
        refine R_lcr5 fL_areRounds_289 kq (by decide) (by rw [qe2]; omega) rfl rfl ?_
        rw [qe2, lb.2.2.2.2.1]
        refine R_if_ne fL_areRounds_303 rfl (fun h303 => absurd h303 (fun z => z (cmpL_0.mpr a2))) (fun h303 => ?_)
        refine R_aload_n fL_areRounds_306 rfl ?_
        refine R_iload fL_areRounds_307 rfl ?_
        refine R_iconst fL_areRounds_309 ?_
        refine R_callI fL_areRounds_310 rfl rfl pX7_record rfl ⟨Nat.le_of_ble_eq_true rfl, rcv_v rfl (by decide) kx⟩ (w_record (by omega) b2) (fun r3 G3 P5 q => ?_)
        obtain ⟨a3, b3, c3⟩ := q
        rw [re_ok (by omega) hi] at a3
        have f3 := FR_tr f2 c3
        have qe3 : G3 134 = F 134 := (f3 134 (Or.inr (by omega))).1
        
        refine R_lcr5 fL_areRounds_313 kq (by decide) (by rw [qe3]; omega) rfl rfl ?_
        rw [qe3, lb.2.2.2.2.2]
        refine R_if_ne fL_areRounds_327 rfl (fun h327 => absurd h327 (fun z => z (cmpL_0.mpr a3))) (fun h327 => ?_)
        refine R_iconst fL_areRounds_330 ?_
        refine R_goto fL_areRounds_331 rfl ?_
        refine R_istore fL_areRounds_335 rfl ?_
        refine R_iinc fL_areRounds_337 rfl (by omega) ?_
        refine R_goto fL_areRounds_340 rfl ?_
        refine ih _ _ _ _ (by omega) (by omega) ?_ (by omega) b3 f3 (by omega)
        rw [sg_s h0, h2]
  have l2 : (∀ (H : FM) (P1 : PM) (x7 : Option AV), WD kd H P1 s → FR F H P P1 → Rn (d - 1) mL_areRounds 199 [some (.inr (some 3)), some (.inr (some 128)), some (.inr (some 132)), some (.inr (some 133)), some (.inr (some 134)), some (.inl 1), some (.inl 13), x7] [] kd H P1 (QI kd (fun r F' P' => r = 1 ∧ WD kd F' P' s ∧ FR F F' P P'))) → ∀ (N : Nat) (b : Int) (H : FM) (P1 : PM) (x7 : Option AV), 0 ≤ b → b ≤ 13 → WD kd H P1 s → FR F H P P1 → 13 - b < N → Rn (d - 1) mL_areRounds 70 [some (.inr (some 3)), some (.inr (some 128)), some (.inr (some 132)), some (.inr (some 133)), some (.inr (some 134)), some (.inl 1), some (.inl b), x7] [] kd H P1 (QI kd (fun r F' P' => r = 1 ∧ WD kd F' P' s ∧ FR F F' P P')) := by
    intro hend N
    induction N with
    | zero => intro b H P1 x7 h0 h1 hv hf h6; omega
    | succ N ih =>
      intro b H P1 x7 h0 h1 hv hf h6
      have l1 : ∀ (N2 : Nat) (i : Int) (H : FM) (P1 : PM), b < 13 → 0 ≤ i → i ≤ 4 → WD kd H P1 s → FR F H P P1 → 4 - i < N2 → Rn (d - 1) mL_areRounds 85 [some (.inr (some 3)), some (.inr (some 128)), some (.inr (some 132)), some (.inr (some 133)), some (.inr (some 134)), some (.inl 1), some (.inl b), some (.inl i)] [] kd H P1 (QI kd (fun r F' P' => r = 1 ∧ WD kd F' P' s ∧ FR F F' P P')) := by
        intro N2
        induction N2 with
        | zero => intro i H P1 hb13 i0 i1 hv hf h6; omega
        | succ N2 ih2 =>
          intro i H P1 hb13 i0 i1 hv hf h6
          have lr := FR_LR hL hf
          obtain ⟨⟨g0, g1, g2, g3, g4, g5, g6, g7, g8, g9, g10⟩, hl, ht, hp, hh, hbb, hq⟩ := id lr
          refine R_iload fL_areRounds_85 rfl ?_
          refine R_iconst fL_areRounds_87 ?_
          refine R_icmp_ge fL_areRounds_88 rfl (fun h88 => ?_) (fun h88 => ?_)
          · refine R_iinc fL_areRounds_193 rfl (by omega) ?_
            refine R_goto fL_areRounds_196 rfl ?_
            exact ih _ _ _ _ (by omega) (by omega) hv hf (by omega)
          · refine R_iload fL_areRounds_91 rfl ?_
            refine R_if_eq fL_areRounds_93 rfl (fun h93 => absurd h93 (by omega)) (fun h93 => ?_)
            refine R_aload_n fL_areRounds_96 rfl ?_
            refine R_iload fL_areRounds_97 rfl ?_
            refine R_iload fL_areRounds_99 rfl ?_
            refine R_callI fL_areRounds_101 rfl rfl pX7_roundOf rfl ⟨Nat.le_of_ble_eq_true rfl, rcv_v rfl (by decide) kx⟩ (w_roundOf (by omega) hv) (fun r F1 P2 q => ?_)
            obtain ⟨a0, b0, c0⟩ := q
            have f0 := FR_tr hf c0
            have lr0 := FR_LR hL f0
            obtain ⟨⟨e0, e1, e2, e3, e4, e5, e6, e7, e8, e9, e10⟩, el, et, ep, eh, eb, eq⟩ := id lr0
            refine R_iload fL_areRounds_104 rfl ?_
            refine R_aload_n fL_areRounds_106 rfl ?_
            refine R_bipush fL_areRounds_107 ?_
            refine R_iaload fL_areRounds_109 kg (by omega) ?_
            rw [e9]
            refine R_icmp_ge fL_areRounds_110 rfl (fun h110 => ?_) (fun h110 => ?_)
            · refine R_ldc fL_areRounds_125 ?_
              refine R_icmp_ne fL_areRounds_127 rfl (fun h127 => absurd h127 (fun z => z (a0.trans (by first | exact ro_lo h0 (by omega) (by omega) | exact ro_no (by omega) (by omega))))) (fun h127 => ?_)
              refine R_aload_n fL_areRounds_130 rfl ?_
              refine R_iload fL_areRounds_131 rfl ?_
              refine R_bipush fL_areRounds_133 ?_
              refine R_iload fL_areRounds_135 rfl ?_
              refine R_iadd fL_areRounds_137 (by omega) ?_
              refine R_callI fL_areRounds_138 rfl rfl pX7_roundOf rfl ⟨Nat.le_of_ble_eq_true rfl, rcv_v rfl (by decide) kx⟩ (w_roundOf (by omega) b0) (fun r2 F2 P3 q => ?_)
              obtain ⟨a1, b1, c1⟩ := q
              have f1 := FR_tr f0 c1
              have lr1 := FR_LR hL f1
              obtain ⟨⟨y0, y1, y2, y3, y4, y5, y6, y7, y8, y9, y10⟩, yl, yt, yp, yh, yb, yq⟩ := id lr1
              refine R_iload fL_areRounds_141 rfl ?_
              refine R_aload_n fL_areRounds_143 rfl ?_
              refine R_iconst fL_areRounds_144 ?_
              refine R_iaload fL_areRounds_145 kg (by omega) ?_
              rw [y0]
              refine R_icmp_lt fL_areRounds_146 rfl (fun h146 => ?_) (fun h146 => ?_)
              · refine R_iload fL_areRounds_154 rfl ?_
                refine R_aload_n fL_areRounds_156 rfl ?_
                refine R_bipush fL_areRounds_157 ?_
                refine R_iaload fL_areRounds_159 kg (by omega) ?_
                rw [y9]
                refine R_icmp_ge fL_areRounds_160 rfl (fun h160 => ?_) (fun h160 => ?_)
                · refine R_ldc fL_areRounds_175 ?_
                  refine R_icmp_ne fL_areRounds_177 rfl (fun h177 => absurd h177 (fun z => z (a1.trans (by first | exact ro_bad (by omega) | exact ro_hi h0 (by omega) (by omega) | exact ro_no (by omega) (by omega))))) (fun h177 => ?_)
                  refine R_iconst fL_areRounds_180 ?_
                  refine R_goto fL_areRounds_181 rfl ?_
                  refine R_istore fL_areRounds_185 rfl ?_
                  refine R_iinc fL_areRounds_187 rfl (by omega) ?_
                  refine R_goto fL_areRounds_190 rfl ?_
                  exact ih2 _ _ _ hb13 (by omega) (by omega) b1 f1 (by omega)
                · refine R_aload_n fL_areRounds_163 rfl ?_
                  refine R_iconst fL_areRounds_164 ?_
                  refine R_iload fL_areRounds_165 rfl ?_
                  refine R_imul fL_areRounds_167 (by omega) ?_
                  refine R_iload fL_areRounds_168 rfl ?_
                  refine R_iadd fL_areRounds_170 (by omega) ?_
                  refine R_iaload fL_areRounds_171 kb (by omega) ?_
                  rw [yb b i h0 (by omega) i0 (by omega)]
                  refine R_goto fL_areRounds_172 rfl ?_
                  refine R_icmp_ne fL_areRounds_177 rfl (fun h177 => absurd h177 (fun z => z (a1.trans (by first | exact ro_bad (by omega) | exact ro_hi h0 (by omega) (by omega) | exact ro_no (by omega) (by omega))))) (fun h177 => ?_)
                  refine R_iconst fL_areRounds_180 ?_
                  refine R_goto fL_areRounds_181 rfl ?_
                  refine R_istore fL_areRounds_185 rfl ?_
                  refine R_iinc fL_areRounds_187 rfl (by omega) ?_
                  refine R_goto fL_areRounds_190 rfl ?_
                  exact ih2 _ _ _ hb13 (by omega) (by omega) b1 f1 (by omega)
              · refine R_ldc fL_areRounds_149 ?_
                refine R_goto fL_areRounds_151 rfl ?_
                refine R_icmp_ne fL_areRounds_177 rfl (fun h177 => absurd h177 (fun z => z (a1.trans (by first | exact ro_bad (by omega) | exact ro_hi h0 (by omega) (by omega) | exact ro_no (by omega) (by omega))))) (fun h177 => ?_)
                refine R_iconst fL_areRounds_180 ?_
                refine R_goto fL_areRounds_181 rfl ?_
                refine R_istore fL_areRounds_185 rfl ?_
                refine R_iinc fL_areRounds_187 rfl (by omega) ?_
                refine R_goto fL_areRounds_190 rfl ?_
                exact ih2 _ _ _ hb13 (by omega) (by omega) b1 f1 (by omega)
            · refine R_aload_n fL_areRounds_113 rfl ?_
              refine R_iconst fL_areRounds_114 ?_
              refine R_iload fL_areRounds_115 rfl ?_
              refine R_imul fL_areRounds_117 (by omega) ?_
              refine R_iload fL_areRounds_118 rfl ?_
              refine R_iadd fL_areRounds_120 (by omega) ?_
              refine R_iaload fL_areRounds_121 kh (by omega) ?_
              rw [eh b i h0 (by omega) i0 (by omega)]
              refine R_goto fL_areRounds_122 rfl ?_
              refine R_icmp_ne fL_areRounds_127 rfl (fun h127 => absurd h127 (fun z => z (a0.trans (by first | exact ro_lo h0 (by omega) (by omega) | exact ro_no (by omega) (by omega))))) (fun h127 => ?_)
              refine R_aload_n fL_areRounds_130 rfl ?_
              refine R_iload fL_areRounds_131 rfl ?_
              refine R_bipush fL_areRounds_133 ?_
              refine R_iload fL_areRounds_135 rfl ?_
              refine R_iadd fL_areRounds_137 (by omega) ?_
              refine R_callI fL_areRounds_138 rfl rfl pX7_roundOf rfl ⟨Nat.le_of_ble_eq_true rfl, rcv_v rfl (by decide) kx⟩ (w_roundOf (by omega) b0) (fun r2 F2 P3 q => ?_)
              obtain ⟨a1, b1, c1⟩ := q
              have f1 := FR_tr f0 c1
              have lr1 := FR_LR hL f1
              obtain ⟨⟨y0, y1, y2, y3, y4, y5, y6, y7, y8, y9, y10⟩, yl, yt, yp, yh, yb, yq⟩ := id lr1
              refine R_iload fL_areRounds_141 rfl ?_
              refine R_aload_n fL_areRounds_143 rfl ?_
              refine R_iconst fL_areRounds_144 ?_
              refine R_iaload fL_areRounds_145 kg (by omega) ?_
              rw [y0]
              refine R_icmp_lt fL_areRounds_146 rfl (fun h146 => ?_) (fun h146 => ?_)
              · refine R_iload fL_areRounds_154 rfl ?_
                refine R_aload_n fL_areRounds_156 rfl ?_
                refine R_bipush fL_areRounds_157 ?_
                refine R_iaload fL_areRounds_159 kg (by omega) ?_
                rw [y9]
                refine R_icmp_ge fL_areRounds_160 rfl (fun h160 => ?_) (fun h160 => ?_)
                · refine R_ldc fL_areRounds_175 ?_
                  refine R_icmp_ne fL_areRounds_177 rfl (fun h177 => absurd h177 (fun z => z (a1.trans (by first | exact ro_bad (by omega) | exact ro_hi h0 (by omega) (by omega) | exact ro_no (by omega) (by omega))))) (fun h177 => ?_)
                  refine R_iconst fL_areRounds_180 ?_
                  refine R_goto fL_areRounds_181 rfl ?_
                  refine R_istore fL_areRounds_185 rfl ?_
                  refine R_iinc fL_areRounds_187 rfl (by omega) ?_
                  refine R_goto fL_areRounds_190 rfl ?_
                  exact ih2 _ _ _ hb13 (by omega) (by omega) b1 f1 (by omega)
                · refine R_aload_n fL_areRounds_163 rfl ?_
                  refine R_iconst fL_areRounds_164 ?_
                  refine R_iload fL_areRounds_165 rfl ?_
                  refine R_imul fL_areRounds_167 (by omega) ?_
                  refine R_iload fL_areRounds_168 rfl ?_
                  refine R_iadd fL_areRounds_170 (by omega) ?_
                  refine R_iaload fL_areRounds_171 kb (by omega) ?_
                  rw [yb b i h0 (by omega) i0 (by omega)]
                  refine R_goto fL_areRounds_172 rfl ?_
                  refine R_icmp_ne fL_areRounds_177 rfl (fun h177 => absurd h177 (fun z => z (a1.trans (by first | exact ro_bad (by omega) | exact ro_hi h0 (by omega) (by omega) | exact ro_no (by omega) (by omega))))) (fun h177 => ?_)
                  refine R_iconst fL_areRounds_180 ?_
                  refine R_goto fL_areRounds_181 rfl ?_
                  refine R_istore fL_areRounds_185 rfl ?_
                  refine R_iinc fL_areRounds_187 rfl (by omega) ?_
                  refine R_goto fL_areRounds_190 rfl ?_
                  exact ih2 _ _ _ hb13 (by omega) (by omega) b1 f1 (by omega)
              · refine R_ldc fL_areRounds_149 ?_
                refine R_goto fL_areRounds_151 rfl ?_
                refine R_icmp_ne fL_areRounds_177 rfl (fun h177 => absurd h177 (fun z => z (a1.trans (by first | exact ro_bad (by omega) | exact ro_hi h0 (by omega) (by omega) | exact ro_no (by omega) (by omega))))) (fun h177 => ?_)
                refine R_iconst fL_areRounds_180 ?_
                refine R_goto fL_areRounds_181 rfl ?_
                refine R_istore fL_areRounds_185 rfl ?_
                refine R_iinc fL_areRounds_187 rfl (by omega) ?_
                refine R_goto fL_areRounds_190 rfl ?_
                exact ih2 _ _ _ hb13 (by omega) (by omega) b1 f1 (by omega)
      refine R_iload fL_areRounds_70 rfl ?_
      refine R_bipush fL_areRounds_72 ?_
      refine R_icmp_ge fL_areRounds_74 rfl (fun h74 => ?_) (fun h74 => ?_)
      · have hb : b = 13 := by omega
        subst hb
        exact hend H P1 _ hv hf
      · refine R_iload fL_areRounds_77 rfl ?_
        refine R_if_eq fL_areRounds_79 rfl (fun h79 => absurd h79 (by omega)) (fun h79 => ?_)
        refine R_iconst fL_areRounds_82 ?_
        refine R_istore fL_areRounds_83 rfl ?_
        exact l1 5 0 H P1 (by omega) (by omega) (by omega) hv hf (by omega)
  refine R_aload_n fL_areRounds_0 rfl ?_
  refine R_iconst fL_areRounds_1 ?_
  refine R_iconst fL_areRounds_2 ?_
  refine R_callI fL_areRounds_3 rfl rfl pX7_roundOf rfl ⟨Nat.le_of_ble_eq_true rfl, rcv_v rfl (by decide) kx⟩ (w_roundOf (by omega) hW) (fun r0 F0 P2 q => ?_)
  obtain ⟨a0, b0, c0⟩ := q
  rw [ro_bad (by omega)] at a0
  have f0 := c0
  refine R_ldc fL_areRounds_6 ?_
  refine R_icmp_ne fL_areRounds_8 rfl (fun h8 => absurd h8 (fun z => z a0)) (fun h8 => ?_)
  refine R_aload_n fL_areRounds_11 rfl ?_
  refine R_iconst fL_areRounds_12 ?_
  refine R_iconst fL_areRounds_13 ?_
  refine R_callI fL_areRounds_14 rfl rfl pX7_roundOf rfl ⟨Nat.le_of_ble_eq_true rfl, rcv_v rfl (by decide) kx⟩ (w_roundOf (by omega) b0) (fun r1 F1 P3 q => ?_)
  obtain ⟨a1, b1, c1⟩ := q
  rw [ro_bad (by omega)] at a1
  have f1 := FR_tr f0 c1
  refine R_ldc fL_areRounds_17 ?_
  refine R_icmp_ne fL_areRounds_19 rfl (fun h19 => absurd h19 (fun z => z a1)) (fun h19 => ?_)
  refine R_aload_n fL_areRounds_22 rfl ?_
  refine R_iconst fL_areRounds_23 ?_
  refine R_bipush fL_areRounds_24 ?_
  refine R_aload_n fL_areRounds_26 rfl ?_
  refine R_iconst fL_areRounds_27 ?_
  refine R_iaload fL_areRounds_28 kg (by omega) ?_
  rw [(FR_LR hL f1).1.1]
  refine R_iadd fL_areRounds_29 (by omega) ?_
  refine R_callI fL_areRounds_30 rfl rfl pX7_roundOf rfl ⟨Nat.le_of_ble_eq_true rfl, rcv_v rfl (by decide) kx⟩ (w_roundOf (by omega) b1) (fun r2 F2 P4 q => ?_)
  obtain ⟨a2, b2, c2⟩ := q
  rw [ro_bad (by omega)] at a2
  have f2 := FR_tr f1 c2
  refine R_ldc fL_areRounds_33 ?_
  refine R_icmp_ne fL_areRounds_35 rfl (fun h35 => absurd h35 (fun z => z a2)) (fun h35 => ?_)
  refine R_aload_n fL_areRounds_38 rfl ?_
  refine R_iconst fL_areRounds_39 ?_
  refine R_iconst fL_areRounds_40 ?_
  refine R_callI fL_areRounds_41 rfl rfl pX7_record rfl ⟨Nat.le_of_ble_eq_true rfl, rcv_v rfl (by decide) kx⟩ (w_record (by omega) b2) (fun r3 F3 P5 q => ?_)
  obtain ⟨a3, b3, c3⟩ := q
  rw [re_bad (by omega)] at a3
  have f3 := FR_tr f2 c3
  refine R_ldc fL_areRounds_44 ?_
  refine R_icmp_ne fL_areRounds_46 rfl (fun h46 => absurd h46 (fun z => z a3)) (fun h46 => ?_)
  refine R_aload_n fL_areRounds_49 rfl ?_
  refine R_iconst fL_areRounds_50 ?_
  refine R_iconst fL_areRounds_51 ?_
  refine R_callI fL_areRounds_52 rfl rfl pX7_record rfl ⟨Nat.le_of_ble_eq_true rfl, rcv_v rfl (by decide) kx⟩ (w_record (by omega) b3) (fun r4 F4 P6 q => ?_)
  obtain ⟨a4, b4, c4⟩ := q
  rw [re_bad (by omega)] at a4
  have f4 := FR_tr f3 c4
  refine R_ldc fL_areRounds_55 ?_
  refine R_icmp_ne fL_areRounds_57 rfl (fun h57 => absurd h57 (fun z => z a4)) (fun h57 => ?_)
  refine R_iconst fL_areRounds_60 ?_
  refine R_goto fL_areRounds_61 rfl ?_
  refine R_istore fL_areRounds_65 rfl ?_
  refine R_iconst fL_areRounds_67 ?_
  refine R_istore fL_areRounds_68 rfl ?_
  refine l2 ?_ 14 0 _ _ _ (by omega) (by omega) b4 f4 (by omega)
  intro H P1 x7 hv hf
  refine R_iconst fL_areRounds_199 ?_
  refine R_istore fL_areRounds_200 rfl ?_
  refine R_iconst fL_areRounds_202 ?_
  refine R_istore fL_areRounds_203 rfl ?_
  exact l3 60 0 0 H P1 (by omega) (by omega) rfl (by omega) hv hf (by omega)
