theorem sp_gainInLastRound {d : Nat} {kd : KL} {F : FM} {P : PM} {a b S : Int} (hd : 1 ≤ d) (hS : -100000 ≤ S ∧ S ≤ 100000) : Sp d 6 [.inl a, .inl b, .inl S] kd F P (QE kd F P (lastG S a b)) := by
  refine Sp_of (me := mX0_gainInLastRound) (by omega) pX0_gainInLastRound ⟨rfl, Nat.le_of_ble_eq_true rfl⟩ ?_
  refine R_iload_n fX0_gainInLastRound_0 rfl ?_
  refine R_if_le fX0_gainInLastRound_1 rfl (fun h1 => ?_) (fun h1 => ?_)
  · refine R_iconst fX0_gainInLastRound_9 ?_
    refine R_ireturn fX0_gainInLastRound_10 rfl ?_
    simp only [QE]; unfold lastG; rw [if_pos (by omega)]
  · refine R_iload_n fX0_gainInLastRound_4 rfl ?_
    refine R_iload_n fX0_gainInLastRound_5 rfl ?_
    refine R_icmp_ne fX0_gainInLastRound_6 rfl (fun h6 => ?_) (fun h6 => ?_)
    · refine R_iload_n fX0_gainInLastRound_11 rfl ?_
      refine R_iload_n fX0_gainInLastRound_12 rfl ?_
      refine R_icmp_le fX0_gainInLastRound_13 rfl (fun h13 => ?_) (fun h13 => ?_)
      · refine R_iload_n fX0_gainInLastRound_20 rfl ?_
        refine R_ineg fX0_gainInLastRound_21 (by omega) ?_
        refine R_ireturn fX0_gainInLastRound_22 rfl ?_
        simp only [QE]; unfold lastG; rw [if_neg (by omega)]; first | rw [if_pos (by omega)] | rw [if_neg (by omega)]
      · refine R_iload_n fX0_gainInLastRound_16 rfl ?_
        refine R_goto fX0_gainInLastRound_17 rfl ?_
        refine R_ireturn fX0_gainInLastRound_22 rfl ?_
        simp only [QE]; unfold lastG; rw [if_neg (by omega)]; first | rw [if_pos (by omega)] | rw [if_neg (by omega)]
    · refine R_iconst fX0_gainInLastRound_9 ?_
      refine R_ireturn fX0_gainInLastRound_10 rfl ?_
      simp only [QE]; unfold lastG; rw [if_pos (by omega)]
theorem sp_gainOfTrial {d : Nat} {kd : KL} {F : FM} {P : PM} {B O D T : Nat} {s : Int → Int} {p e x y : Int} (hd : 6 ≤ d) (hS : shS kd P B) (hR : Rel B F s) (hw : WF s) (hO : shO kd P O) (hD : shA kd P D T O) (hBO : B + 16 ≤ O ∨ O + 3 ≤ B) (hTO : T < O ∨ O + 3 ≤ T) (hTB : T < B ∨ B + 16 ≤ T) (h20 : s 0 = 2) (h4 : 1 ≤ s 4) (hp : p = 0 ∨ p = 1) (hx : F T p = x ∧ 0 ≤ x ∧ x ≤ s (126 + 6 * p)) (hy : F T (1 - p) = y ∧ 0 ≤ y ∧ y ≤ s (126 + 6 * (1 - p))) : Sp d 5 [.inr (some D), .inr (some B), .inl p, .inl (1 - p), .inl e] kd F P (QV kd P (fun r F' => r = gT s p e x y ∧ ∀ k, (k < O ∨ O + 3 ≤ k) → F' k = F k)) := by
  refine Sp_of (me := mX0_gainOfTrial) (by omega) pX0_gainOfTrial ⟨rfl, Nat.le_of_ble_eq_true rfl⟩ ?_
  obtain ⟨w0, w1, w2, w3, w4, w5, w6, w7, w8, w9, w10, w11, w12, w13⟩ := id hw
  have hcp := w3 p (by omega) (by omega)
  have hcq := w3 (1 - p) (by omega) (by omega)
  have h01 : 0 ≤ F T 0 ∧ F T 0 ≤ 120 ∧ 0 ≤ F T 1 ∧ F T 1 ≤ 120 := by
    rcases hp with rfl | rfl
    · rw [show (1 : Int) - 0 = 1 by omega] at hy hcq
      omega
    · rw [show (1 : Int) - 1 = 0 by omega] at hy hcq
      omega
  have hst := stake_b hw h4
  have hq : 1 - p = 0 ∨ 1 - p = 1 := by omega
  have e2 : (s 0).toNat = 2 := by omega
  have hpx := py_b hw (x := x) (y := y) hx.2.1
  have hpy := py_b hw (x := y) (y := x) hy.2.1
  have hpot : 0 ≤ s 1 ∧ s 1 ≤ 120 := by
    have h3 := sg_bound (f := fun p => s (126 + 6 * p)) (a := 0) (b := 120) (n := (s 0).toNat) (fun i h0 h1 => ⟨(w3 i h0 (by omega)).1, (w3 i h0 (by omega)).2.1⟩)
    omega
  have main : ∀ (F1 : FM) (ca ga : Int), (∀ k, (k < O ∨ O + 3 ≤ k) → F1 k = F k) → (F1 (O + 1) p = py s x y ∧ F1 (O + 2) p = (if s 28 = 1 ∧ x < y then s 1 + (py s x y + py s y x) else 0)) → (F1 (O + 1) (1 - p) = py s y x ∧ F1 (O + 2) (1 - p) = (if s 28 = 1 ∧ y < x then s 1 + (py s y x + py s x y) else 0)) → ca = (if x = y then tabS s + s 5 else 0) → ga = gn (tabS s + s 5) x y → Rn (d - 1) mX0_gainOfTrial 71 [some (.inr (some D)), some (.inr (some B)), some (.inl p), some (.inl (1 - p)), some (.inl e), some (.inl (tabS s + s 5)), some (.inl ca), some (.inl ga), none, none, none] [] kd F1 P (QV kd P (fun r F' => r = gT s p e x y ∧ ∀ k, (k < O ∨ O + 3 ≤ k) → F' k = F k)) := by
    intro F1 ca ga x5 xp xq hca hga
    have hR1 : Rel B F1 s := Rel_frame hR (fun k a b => x5 k (by omega))
    obtain ⟨r0, r1, r2, r3, r4, r5, r6, rp, rse, rt, rl, rg1, rg2, rg, rn, rr⟩ := id hR1
    have hcp1 := (rp p (by omega) (by omega)).1
    have hcq1 := (rp (1 - p) (by omega) (by omega)).1
    have hgab : -400 ≤ ga ∧ ga ≤ 400 := by
      rw [hga]; unfold gn
      split
      · omega
      · split <;> omega
    have hcab : -400 ≤ ca ∧ ca ≤ 400 := by rw [hca]; split <;> omega
    refine R_iload fX0_gainOfTrial_71 rfl ?_
    refine R_iconst fX0_gainOfTrial_73 ?_
    refine R_icmp_lt fX0_gainOfTrial_74 rfl (fun h74 => ?_) (fun h74 => ?_)
    · refine R_iload fX0_gainOfTrial_85 rfl ?_
      refine R_ireturn fX0_gainOfTrial_87 rfl ?_
      refine ⟨_, _, rfl, ?_, x5⟩
      unfold gT
      rw [if_pos (by omega), hga]
      omega
    · refine R_aload_n fX0_gainOfTrial_77 rfl ?_
      refine R_getI 6 fX0_gainOfTrial_78 (shS_k0 hS) (shS_3 hS 0) rfl rfl rfl ?_
      refine R_iconst fX0_gainOfTrial_81 ?_
      refine R_icmp_ge fX0_gainOfTrial_82 rfl (fun h82 => ?_) (fun h82 => ?_)
      · have hl := rl 1 (by omega) (by omega)
        rw [show (5 : Int) + 1 = 6 by omega] at hl
        have hlb := w5 1 (by omega) (by omega)
        rw [show (5 : Int) + 1 = 6 by omega] at hlb
        refine R_iload fX0_gainOfTrial_88 rfl ?_
        refine R_aload_n fX0_gainOfTrial_90 rfl ?_
        refine R_getP 14 fX0_gainOfTrial_91 (shS_k0 hS) (shS_3 hS 0) rfl rfl rfl (shS_p14 hS) ?_
        refine R_aload_n fX0_gainOfTrial_94 rfl ?_
        refine R_getI 4 fX0_gainOfTrial_95 (shS_k0 hS) (shS_3 hS 0) rfl rfl rfl ?_
        refine R_iconst fX0_gainOfTrial_98 ?_
        refine R_iadd fX0_gainOfTrial_99 (by omega) ?_
        refine R_iaload fX0_gainOfTrial_100 (shS_k8 hS) (by omega) ?_
        rw [r4, hl]
        refine R_iadd fX0_gainOfTrial_101 (by omega) ?_
        refine R_istore fX0_gainOfTrial_102 rfl ?_
        refine R_aload_n fX0_gainOfTrial_104 rfl ?_
        refine R_getP 0 fX0_gainOfTrial_105 hD.2.2.1 hD.1 rfl rfl rfl hD.2.2.2.2.1 ?_
        refine R_aload_n fX0_gainOfTrial_108 rfl ?_
        refine R_iload_n fX0_gainOfTrial_109 rfl ?_
        refine R_callE fX0_gainOfTrial_110 rfl rfl pX2_coinsBehind rfl ⟨Nat.le_of_ble_eq_true rfl, rcv_v rfl hO.1 hO.2.1⟩ (sp_coinsBehind (by omega) hO hS (by omega) (by rw [hcp1, xp.1, xp.2]; split <;> omega)) ?_
        refine R_istore fX0_gainOfTrial_113 rfl ?_
        refine R_aload_n fX0_gainOfTrial_115 rfl ?_
        refine R_getP 0 fX0_gainOfTrial_116 hD.2.2.1 hD.1 rfl rfl rfl hD.2.2.2.2.1 ?_
        refine R_aload_n fX0_gainOfTrial_119 rfl ?_
        refine R_iload_n fX0_gainOfTrial_120 rfl ?_
        refine R_callE fX0_gainOfTrial_121 rfl rfl pX2_coinsBehind rfl ⟨Nat.le_of_ble_eq_true rfl, rcv_v rfl hO.1 hO.2.1⟩ (sp_coinsBehind (by omega) hO hS (by omega) (by rw [hcq1, xq.1, xq.2]; split <;> omega)) ?_
        rw [show F1 (B + 1) p - F1 (O + 1) p + F1 (O + 2) p = ow s p x y by rw [hcp1, xp.1, xp.2]; rfl]
        rw [show F1 (B + 1) (1 - p) - F1 (O + 1) (1 - p) + F1 (O + 2) (1 - p) = ow s (1 - p) y x by rw [hcq1, xq.1, xq.2]; rfl]
        have hlg := lastG_b (S := ca + s 6) (a := ow s p x y) (b := ow s (1 - p) y x) (c := 1000) (by omega)
        refine R_istore fX0_gainOfTrial_124 rfl ?_
        refine R_iload fX0_gainOfTrial_126 rfl ?_
        refine R_iload fX0_gainOfTrial_128 rfl ?_
        refine R_iload fX0_gainOfTrial_130 rfl ?_
        refine R_iload fX0_gainOfTrial_132 rfl ?_
        refine R_callE fX0_gainOfTrial_134 rfl rfl pX0_gainInLastRound rfl ⟨Nat.le_of_ble_eq_true rfl, rfl⟩ (sp_gainInLastRound (by omega) (by omega)) ?_
        refine R_iadd fX0_gainOfTrial_137 (by omega) ?_
        refine R_ireturn fX0_gainOfTrial_138 rfl ?_
        refine ⟨_, _, rfl, ?_, x5⟩
        unfold gT
        rw [if_neg (by omega), hga, hca]
      · refine R_iload fX0_gainOfTrial_85 rfl ?_
        refine R_ireturn fX0_gainOfTrial_87 rfl ?_
        refine ⟨_, _, rfl, ?_, x5⟩
        unfold gT
        rw [if_pos (by omega), hga]
        omega
  refine R_aload_n fX0_gainOfTrial_0 rfl ?_
  refine R_getP 0 fX0_gainOfTrial_1 hD.2.2.1 hD.1 rfl rfl rfl hD.2.2.2.2.1 ?_
  refine R_aload_n fX0_gainOfTrial_4 rfl ?_
  refine R_aload_n fX0_gainOfTrial_5 rfl ?_
  refine R_getP 1 fX0_gainOfTrial_6 hD.2.2.1 hD.1 rfl rfl rfl hD.2.2.2.2.2 ?_
  refine R_callN fX0_gainOfTrial_9 rfl rfl pX2_work rfl ⟨Nat.le_of_ble_eq_true rfl, rcv_v rfl hO.1 hO.2.1⟩ (sp_work (by omega) hO hS hD.2.2.2.1 hD.2.1 hTO hBO hR hw (fun i i0 i1 => by rcases (by omega : i = 0 ∨ i = 1) with rfl | rfl <;> omega)) (fun F1 x_ => ?_)
  obtain ⟨x0, x1, x2, x3, x4, x5⟩ := x_
  rw [e2, win2 hp h01.1 h01.2.2.1, hx.1, hy.1] at x0
  have hR1 : Rel B F1 s := Rel_frame hR (fun k a b => x5 k (by omega))
  have xp := x4 p (by omega) (by omega)
  have xq := x4 (1 - p) (by omega) (by omega)
  rw [e2, fee2 hp h01.1 h01.2.2.1, got2 hp h01.1 h01.2.2.1, hx.1, hy.1] at xp
  rw [e2, fee2 hq h01.1 h01.2.2.1, got2 hq h01.1 h01.2.2.1, show (1 : Int) - (1 - p) = p by omega, hx.1, hy.1] at xq
  refine R_aload_n fX0_gainOfTrial_12 rfl ?_
  refine R_callE fX0_gainOfTrial_13 rfl rfl pX5_nextStake rfl ⟨Nat.le_of_ble_eq_true rfl, rcv_v rfl (shS_3 hS 0) (shS_k0 hS)⟩ (sp_nextStake (by omega) hS hR1 hw) ?_
  rw [if_neg (by omega)]
  refine R_istore fX0_gainOfTrial_16 rfl ?_
  refine R_aload_n fX0_gainOfTrial_18 rfl ?_
  refine R_getP 0 fX0_gainOfTrial_19 hD.2.2.1 hD.1 rfl rfl rfl hD.2.2.2.2.1 ?_
  refine R_getI 0 fX0_gainOfTrial_22 hO.2.1 hO.1 rfl rfl rfl ?_
  refine R_iconst fX0_gainOfTrial_25 ?_
  refine R_icmp_ne fX0_gainOfTrial_26 rfl (fun h26 => ?_) (fun h26 => ?_)
  · refine R_iconst fX0_gainOfTrial_34 ?_
    refine R_istore fX0_gainOfTrial_35 rfl ?_
    refine R_iconst fX0_gainOfTrial_37 ?_
    refine R_istore fX0_gainOfTrial_38 rfl ?_
    refine R_aload_n fX0_gainOfTrial_40 rfl ?_
    refine R_getP 0 fX0_gainOfTrial_41 hD.2.2.1 hD.1 rfl rfl rfl hD.2.2.2.2.1 ?_
    refine R_getI 0 fX0_gainOfTrial_44 hO.2.1 hO.1 rfl rfl rfl ?_
    refine R_iload_n fX0_gainOfTrial_47 rfl ?_
    refine R_icmp_ne fX0_gainOfTrial_48 rfl (fun h48 => ?_) (fun h48 => ?_)
    · refine R_aload_n fX0_gainOfTrial_55 rfl ?_
      refine R_getP 0 fX0_gainOfTrial_56 hD.2.2.1 hD.1 rfl rfl rfl hD.2.2.2.2.1 ?_
      refine R_getI 0 fX0_gainOfTrial_59 hO.2.1 hO.1 rfl rfl rfl ?_
      refine R_iload_n fX0_gainOfTrial_62 rfl ?_
      refine R_icmp_ne fX0_gainOfTrial_63 rfl (fun h63 => ?_) (fun h63 => ?_)
      · refine main F1 _ _ x5 xp xq ?_ ?_
        · by_cases a : y < x
          · rw [if_pos a] at x0; first | (exfalso; omega) | rw [if_neg (by omega)]
          · rw [if_neg a] at x0
            by_cases b : x < y
            · rw [if_pos b] at x0; first | (exfalso; omega) | rw [if_neg (by omega)]
            · rw [if_neg b] at x0; first | (exfalso; omega) | rw [if_pos (by omega)]
        · unfold gn
          by_cases a : y < x
          · rw [if_pos a] at x0 ⊢ <;> first | (exfalso; omega) | rfl
          · rw [if_neg a] at x0 ⊢
            by_cases b : x < y
            · rw [if_pos b] at x0 ⊢ <;> first | (exfalso; omega) | rfl
            · rw [if_neg b] at x0 ⊢ <;> first | (exfalso; omega) | rfl
      · refine R_iload fX0_gainOfTrial_66 rfl ?_
        refine R_ineg fX0_gainOfTrial_68 (by omega) ?_
        refine R_istore fX0_gainOfTrial_69 rfl ?_
        refine main F1 _ _ x5 xp xq ?_ ?_
        · by_cases a : y < x
          · rw [if_pos a] at x0; first | (exfalso; omega) | rw [if_neg (by omega)]
          · rw [if_neg a] at x0
            by_cases b : x < y
            · rw [if_pos b] at x0; first | (exfalso; omega) | rw [if_neg (by omega)]
            · rw [if_neg b] at x0; first | (exfalso; omega) | rw [if_pos (by omega)]
        · unfold gn
          by_cases a : y < x
          · rw [if_pos a] at x0 ⊢ <;> first | (exfalso; omega) | rfl
          · rw [if_neg a] at x0 ⊢
            by_cases b : x < y
            · rw [if_pos b] at x0 ⊢ <;> first | (exfalso; omega) | rfl
            · rw [if_neg b] at x0 ⊢ <;> first | (exfalso; omega) | rfl
    · refine R_iload fX0_gainOfTrial_51 rfl ?_
      refine R_istore fX0_gainOfTrial_53 rfl ?_
      refine R_aload_n fX0_gainOfTrial_55 rfl ?_
      refine R_getP 0 fX0_gainOfTrial_56 hD.2.2.1 hD.1 rfl rfl rfl hD.2.2.2.2.1 ?_
      refine R_getI 0 fX0_gainOfTrial_59 hO.2.1 hO.1 rfl rfl rfl ?_
      refine R_iload_n fX0_gainOfTrial_62 rfl ?_
      refine R_icmp_ne fX0_gainOfTrial_63 rfl (fun h63 => ?_) (fun h63 => ?_)
      · refine main F1 _ _ x5 xp xq ?_ ?_
        · by_cases a : y < x
          · rw [if_pos a] at x0; first | (exfalso; omega) | rw [if_neg (by omega)]
          · rw [if_neg a] at x0
            by_cases b : x < y
            · rw [if_pos b] at x0; first | (exfalso; omega) | rw [if_neg (by omega)]
            · rw [if_neg b] at x0; first | (exfalso; omega) | rw [if_pos (by omega)]
        · unfold gn
          by_cases a : y < x
          · rw [if_pos a] at x0 ⊢ <;> first | (exfalso; omega) | rfl
          · rw [if_neg a] at x0 ⊢
            by_cases b : x < y
            · rw [if_pos b] at x0 ⊢ <;> first | (exfalso; omega) | rfl
            · rw [if_neg b] at x0 ⊢ <;> first | (exfalso; omega) | rfl
      · refine R_iload fX0_gainOfTrial_66 rfl ?_
        refine R_ineg fX0_gainOfTrial_68 (by omega) ?_
        refine R_istore fX0_gainOfTrial_69 rfl ?_
        refine main F1 _ _ x5 xp xq ?_ ?_
        · by_cases a : y < x
          · rw [if_pos a] at x0; first | (exfalso; omega) | rw [if_neg (by omega)]
          · rw [if_neg a] at x0
            by_cases b : x < y
            · rw [if_pos b] at x0; first | (exfalso; omega) | rw [if_neg (by omega)]
            · rw [if_neg b] at x0; first | (exfalso; omega) | rw [if_pos (by omega)]
        · unfold gn
          by_cases a : y < x
          · rw [if_pos a] at x0 ⊢ <;> first | (exfalso; omega) | rfl
          · rw [if_neg a] at x0 ⊢
            by_cases b : x < y
            · rw [if_pos b] at x0 ⊢ <;> first | (exfalso; omega) | rfl
            · rw [if_neg b] at x0 ⊢ <;> first | (exfalso; omega) | rfl
  · refine R_iload fX0_gainOfTrial_29 rfl ?_
    refine R_goto fX0_gainOfTrial_31 rfl ?_
    refine R_istore fX0_gainOfTrial_35 rfl ?_
    refine R_iconst fX0_gainOfTrial_37 ?_
    refine R_istore fX0_gainOfTrial_38 rfl ?_
    refine R_aload_n fX0_gainOfTrial_40 rfl ?_
    refine R_getP 0 fX0_gainOfTrial_41 hD.2.2.1 hD.1 rfl rfl rfl hD.2.2.2.2.1 ?_
    refine R_getI 0 fX0_gainOfTrial_44 hO.2.1 hO.1 rfl rfl rfl ?_
    refine R_iload_n fX0_gainOfTrial_47 rfl ?_
    refine R_icmp_ne fX0_gainOfTrial_48 rfl (fun h48 => ?_) (fun h48 => ?_)
    · refine R_aload_n fX0_gainOfTrial_55 rfl ?_
      refine R_getP 0 fX0_gainOfTrial_56 hD.2.2.1 hD.1 rfl rfl rfl hD.2.2.2.2.1 ?_
      refine R_getI 0 fX0_gainOfTrial_59 hO.2.1 hO.1 rfl rfl rfl ?_
      refine R_iload_n fX0_gainOfTrial_62 rfl ?_
      refine R_icmp_ne fX0_gainOfTrial_63 rfl (fun h63 => ?_) (fun h63 => ?_)
      · refine main F1 _ _ x5 xp xq ?_ ?_
        · by_cases a : y < x
          · rw [if_pos a] at x0; first | (exfalso; omega) | rw [if_neg (by omega)]
          · rw [if_neg a] at x0
            by_cases b : x < y
            · rw [if_pos b] at x0; first | (exfalso; omega) | rw [if_neg (by omega)]
            · rw [if_neg b] at x0; first | (exfalso; omega) | rw [if_pos (by omega)]
        · unfold gn
          by_cases a : y < x
          · rw [if_pos a] at x0 ⊢ <;> first | (exfalso; omega) | rfl
          · rw [if_neg a] at x0 ⊢
            by_cases b : x < y
            · rw [if_pos b] at x0 ⊢ <;> first | (exfalso; omega) | rfl
            · rw [if_neg b] at x0 ⊢ <;> first | (exfalso; omega) | rfl
      · refine R_iload fX0_gainOfTrial_66 rfl ?_
        refine R_ineg fX0_gainOfTrial_68 (by omega) ?_
        refine R_istore fX0_gainOfTrial_69 rfl ?_
        refine main F1 _ _ x5 xp xq ?_ ?_
        · by_cases a : y < x
          · rw [if_pos a] at x0; first | (exfalso; omega) | rw [if_neg (by omega)]
          · rw [if_neg a] at x0
            by_cases b : x < y
            · rw [if_pos b] at x0; first | (exfalso; omega) | rw [if_neg (by omega)]
            · rw [if_neg b] at x0; first | (exfalso; omega) | rw [if_pos (by omega)]
        · unfold gn
          by_cases a : y < x
          · rw [if_pos a] at x0 ⊢ <;> first | (exfalso; omega) | rfl
          · rw [if_neg a] at x0 ⊢
            by_cases b : x < y
            · rw [if_pos b] at x0 ⊢ <;> first | (exfalso; omega) | rfl
            · rw [if_neg b] at x0 ⊢ <;> first | (exfalso; omega) | rfl
    · refine R_iload fX0_gainOfTrial_51 rfl ?_
      refine R_istore fX0_gainOfTrial_53 rfl ?_
      refine R_aload_n fX0_gainOfTrial_55 rfl ?_
      refine R_getP 0 fX0_gainOfTrial_56 hD.2.2.1 hD.1 rfl rfl rfl hD.2.2.2.2.1 ?_
      refine R_getI 0 fX0_gainOfTrial_59 hO.2.1 hO.1 rfl rfl rfl ?_
      refine R_iload_n fX0_gainOfTrial_62 rfl ?_
      refine R_icmp_ne fX0_gainOfTrial_63 rfl (fun h63 => ?_) (fun h63 => ?_)
      · refine main F1 _ _ x5 xp xq ?_ ?_
        · by_cases a : y < x
          · rw [if_pos a] at x0; first | (exfalso; omega) | rw [if_neg (by omega)]
          · rw [if_neg a] at x0
            by_cases b : x < y
            · rw [if_pos b] at x0; first | (exfalso; omega) | rw [if_neg (by omega)]
            · rw [if_neg b] at x0; first | (exfalso; omega) | rw [if_pos (by omega)]
        · unfold gn
          by_cases a : y < x
          · rw [if_pos a] at x0 ⊢ <;> first | (exfalso; omega) | rfl
          · rw [if_neg a] at x0 ⊢
            by_cases b : x < y
            · rw [if_pos b] at x0 ⊢ <;> first | (exfalso; omega) | rfl
            · rw [if_neg b] at x0 ⊢ <;> first | (exfalso; omega) | rfl
      · refine R_iload fX0_gainOfTrial_66 rfl ?_
        refine R_ineg fX0_gainOfTrial_68 (by omega) ?_
        refine R_istore fX0_gainOfTrial_69 rfl ?_
        refine main F1 _ _ x5 xp xq ?_ ?_
        · by_cases a : y < x
          · rw [if_pos a] at x0; first | (exfalso; omega) | rw [if_neg (by omega)]
          · rw [if_neg a] at x0
            by_cases b : x < y
            · rw [if_pos b] at x0; first | (exfalso; omega) | rw [if_neg (by omega)]
            · rw [if_neg b] at x0; first | (exfalso; omega) | rw [if_pos (by omega)]
        · unfold gn
          by_cases a : y < x
          · rw [if_pos a] at x0 ⊢ <;> first | (exfalso; omega) | rfl
          · rw [if_neg a] at x0 ⊢
            by_cases b : x < y
            · rw [if_pos b] at x0 ⊢ <;> first | (exfalso; omega) | rfl
            · rw [if_neg b] at x0 ⊢ <;> first | (exfalso; omega) | rfl
theorem sp_leastGain {d : Nat} {kd : KL} {F : FM} {P : PM} {B O D T : Nat} {s : Int → Int} {p e x fl : Int} (hd : 7 ≤ d) (hS : shS kd P B) (hR : Rel B F s) (hw : WF s) (hO : shO kd P O) (hD : shA kd P D T O) (hBO : B + 16 ≤ O ∨ O + 3 ≤ B) (hTO : T < O ∨ O + 3 ≤ T) (hTB : T < B ∨ B + 16 ≤ T) (h20 : s 0 = 2) (h4 : 1 ≤ s 4) (hp : p = 0 ∨ p = 1) (hx : 0 ≤ x ∧ x ≤ s (126 + 6 * p)) (hfl : fl ≤ 1000) : Sp d 4 [.inr (some D), .inr (some B), .inl p, .inl x, .inl e, .inl fl] kd F P (QV kd P (fun r F' => ((fl < hT s p e x → r = hT s p e x) ∧ (hT s p e x ≤ fl → r ≤ fl)) ∧ ∀ k, (k < O ∨ O + 3 ≤ k) → k ≠ T → F' k = F k)) := by
  refine Sp_of (me := mX0_leastGain) (by omega) pX0_leastGain ⟨rfl, Nat.le_of_ble_eq_true rfl⟩ ?_
  obtain ⟨w0, w1, w2, w3, w4, w5, w6, w7, w8, w9, w10, w11, w12, w13⟩ := id hw
  have hcp := w3 p (by omega) (by omega)
  have hcq := w3 (1 - p) (by omega) (by omega)
  have lp : ∀ (N : Nat) (i : Int) (G : FM), 0 ≤ i → i ≤ s (126 + 6 * (1 - p)) + 1 → G T p = x → (∀ k, (k < O ∨ O + 3 ≤ k) → k ≠ T → G k = F k) → s (126 + 6 * (1 - p)) + 1 - i < N → Rn (d - 1) mX0_leastGain 19 [some (.inr (some D)), some (.inr (some B)), some (.inl p), some (.inl x), some (.inl e), some (.inl fl), some (.inl (1 - p)), some (.inl (mnP (gT s p e x) i.toNat)), some (.inl i)] [] kd G P (QV kd P (fun r F' => ((fl < hT s p e x → r = hT s p e x) ∧ (hT s p e x ≤ fl → r ≤ fl)) ∧ ∀ k, (k < O ∨ O + 3 ≤ k) → k ≠ T → F' k = F k)) := by
    intro N
    induction N with
    | zero => intro i G h0 h1 h2 h3 h4; omega
    | succ N ih =>
      intro i G h0 h1 h2 h3 h5
      have hRG : Rel B G s := Rel_frame hR (fun k a b => h3 k (by omega) (by omega))
      obtain ⟨r0, r1, r2, r3, r4, r5, r6, rp, rse, rt, rl, rg1, rg2, rg, rn, rr⟩ := id hRG
      have hcq1 := (rp (1 - p) (by omega) (by omega)).1
      have hgt := gT_b hw h4 (p := p) (e := e) (x := x) (y := i)
      refine R_iload fX0_leastGain_19 rfl ?_
      refine R_aload_n fX0_leastGain_21 rfl ?_
      refine R_getP 7 fX0_leastGain_22 (shS_k0 hS) (shS_3 hS 0) rfl rfl rfl (shS_p7 hS) ?_
      refine R_iload fX0_leastGain_25 rfl ?_
      refine R_iaload fX0_leastGain_27 (shS_k1 hS) (by omega) ?_
      refine R_icmp_gt fX0_leastGain_28 rfl (fun h28 => ?_) (fun h28 => ?_)
      · refine R_iload fX0_leastGain_70 rfl ?_
        refine R_ireturn fX0_leastGain_72 rfl ?_
        first
        | (have hi : i = s (126 + 6 * (1 - p)) + 1 := by omega
           subst hi
           exact ⟨_, _, rfl, ⟨fun _ => rfl, fun z => z⟩, h3⟩)
        | (have ha : hT s p e x ≤ mnP (gT s p e x) i.toNat := by
             have h := mnP_anti (g := gT s p e x) (n := i.toNat) ((s (126 + 6 * (1 - p)) + 1).toNat - i.toNat)
             rw [show i.toNat + ((s (126 + 6 * (1 - p)) + 1).toNat - i.toNat) = (s (126 + 6 * (1 - p)) + 1).toNat by omega] at h
             exact h
           exact ⟨_, _, rfl, ⟨fun z => by omega, fun z => by omega⟩, h3⟩)
      · refine R_iload fX0_leastGain_31 rfl ?_
        refine R_iload fX0_leastGain_33 rfl ?_
        refine R_icmp_le fX0_leastGain_35 rfl (fun h35 => ?_) (fun h35 => ?_)
        · refine R_iload fX0_leastGain_70 rfl ?_
          refine R_ireturn fX0_leastGain_72 rfl ?_
          first
          | (have hi : i = s (126 + 6 * (1 - p)) + 1 := by omega
             subst hi
             exact ⟨_, _, rfl, ⟨fun _ => rfl, fun z => z⟩, h3⟩)
          | (have ha : hT s p e x ≤ mnP (gT s p e x) i.toNat := by
               have h := mnP_anti (g := gT s p e x) (n := i.toNat) ((s (126 + 6 * (1 - p)) + 1).toNat - i.toNat)
               rw [show i.toNat + ((s (126 + 6 * (1 - p)) + 1).toNat - i.toNat) = (s (126 + 6 * (1 - p)) + 1).toNat by omega] at h
               exact h
             exact ⟨_, _, rfl, ⟨fun z => by omega, fun z => by omega⟩, h3⟩)
        · refine R_aload_n fX0_leastGain_38 rfl ?_
          refine R_getP 1 fX0_leastGain_39 hD.2.2.1 hD.1 rfl rfl rfl hD.2.2.2.2.2 ?_
          refine R_iload fX0_leastGain_42 rfl ?_
          refine R_iload fX0_leastGain_44 rfl ?_
          refine R_iastore fX0_leastGain_46 hD.2.2.2.1 hD.2.1 (by omega) ?_
          refine R_iload fX0_leastGain_47 rfl ?_
          refine R_aload_n fX0_leastGain_49 rfl ?_
          refine R_aload_n fX0_leastGain_50 rfl ?_
          refine R_iload_n fX0_leastGain_51 rfl ?_
          refine R_iload fX0_leastGain_52 rfl ?_
          refine R_iload fX0_leastGain_54 rfl ?_
          refine R_callV fX0_leastGain_56 rfl rfl pX0_gainOfTrial rfl ⟨Nat.le_of_ble_eq_true rfl, rcv_v rfl hD.1 hD.2.2.1⟩ (sp_gainOfTrial (by omega) hS (Rel_frame hRG (fun k a b => by simp (disch := omega) only [stt_kr])) hw hO hD hBO hTO hTB h20 h4 hp (x := x) (y := i) (by rw [stt_j _ _ (by omega)]; exact ⟨h2, hx⟩) (by rw [stt_eq]; omega)) (fun r F1 q => ?_)
          obtain ⟨q0, q1⟩ := q
          subst q0
          refine R_min fX0_leastGain_59 (by omega) rfl ?_
          rw [← mnP_s h0]
          refine R_istore fX0_leastGain_62 rfl ?_
          refine R_iinc fX0_leastGain_64 rfl (by omega) ?_
          refine R_goto fX0_leastGain_67 rfl ?_
          refine ih _ _ (by omega) (by omega) ?_ (fun k k0 k1 => ?_) (by omega)
          · rw [q1 T (by omega), stt_j _ _ (by omega)]; exact h2
          · rw [q1 k k0]
            simp (disch := omega) only [stt_kr]
            exact h3 k k0 k1
  refine R_iconst fX0_leastGain_0 ?_
  refine R_iload_n fX0_leastGain_1 rfl ?_
  refine R_isub fX0_leastGain_2 (by omega) ?_
  refine R_istore fX0_leastGain_3 rfl ?_
  refine R_ldc fX0_leastGain_5 ?_
  refine R_istore fX0_leastGain_7 rfl ?_
  refine R_aload_n fX0_leastGain_9 rfl ?_
  refine R_getP 1 fX0_leastGain_10 hD.2.2.1 hD.1 rfl rfl rfl hD.2.2.2.2.2 ?_
  refine R_iload_n fX0_leastGain_13 rfl ?_
  refine R_iload_n fX0_leastGain_14 rfl ?_
  refine R_iastore fX0_leastGain_15 hD.2.2.2.1 hD.2.1 (by omega) ?_
  refine R_iconst fX0_leastGain_16 ?_
  refine R_istore fX0_leastGain_17 rfl ?_
  refine lp 200 0 _ (by omega) (by omega) ?_ (fun k k0 k1 => ?_) (by omega)
  · exact stt_eq _ _ _ _
  · exact stt_kr _ _ _ k1
theorem sp_bestOpenBid {d : Nat} {kd : KL} {F : FM} {P : PM} {B O D T : Nat} {s : Int → Int} {p e : Int} (hd : 8 ≤ d) (hS : shS kd P B) (hR : Rel B F s) (hw : WF s) (hO : shO kd P O) (hD : shA kd P D T O) (hBO : B + 16 ≤ O ∨ O + 3 ≤ B) (hTO : T < O ∨ O + 3 ≤ T) (hTB : T < B ∨ B + 16 ≤ T) (h20 : s 0 = 2) (h4 : 1 ≤ s 4) (hp : p = 0 ∨ p = 1) : Sp d 2 [.inr (some D), .inr (some B), .inl p, .inl e] kd F P (QV kd P (fun r F' => r = abP (hT s p e) (s (126 + 6 * p) + 1).toNat ∧ ∀ k, (k < O ∨ O + 3 ≤ k) → k ≠ T → F' k = F k)) := by
  refine Sp_of (me := mX0_bestOpenBid) (by omega) pX0_bestOpenBid ⟨rfl, Nat.le_of_ble_eq_true rfl⟩ ?_
  obtain ⟨w0, w1, w2, w3, w4, w5, w6, w7, w8, w9, w10, w11, w12, w13⟩ := id hw
  have hcp := w3 p (by omega) (by omega)
  have lp : ∀ (N : Nat) (i : Int) (jx : Option AV) (G : FM), 0 ≤ i → i ≤ s (126 + 6 * p) + 1 → (∀ k, (k < O ∨ O + 3 ≤ k) → k ≠ T → G k = F k) → s (126 + 6 * p) + 1 - i < N → Rn (d - 1) mX0_bestOpenBid 10 [some (.inr (some D)), some (.inr (some B)), some (.inl p), some (.inl e), some (.inl (abP (hT s p e) i.toNat)), some (.inl (mxP (hT s p e) i.toNat)), some (.inl i), jx] [] kd G P (QV kd P (fun r F' => r = abP (hT s p e) (s (126 + 6 * p) + 1).toNat ∧ ∀ k, (k < O ∨ O + 3 ≤ k) → k ≠ T → F' k = F k)) := by
    intro N
    induction N with
    | zero => intro i jx G h0 h1 h3 h4; omega
    | succ N ih =>
      intro i jx G h0 h1 h3 h5
      have hRG : Rel B G s := Rel_frame hR (fun k a b => h3 k (by omega) (by omega))
      obtain ⟨r0, r1, r2, r3, r4, r5, r6, rp, rse, rt, rl, rg1, rg2, rg, rn, rr⟩ := id hRG
      have hcp1 := (rp p (by omega) (by omega)).1
      have hmx := mxP_b (g := hT s p e) (b := 900) (by omega) (n := i.toNat) (fun i _ _ => (hT_b hw h4 (by omega)).2)
      refine R_iload fX0_bestOpenBid_10 rfl ?_
      refine R_aload_n fX0_bestOpenBid_12 rfl ?_
      refine R_getP 7 fX0_bestOpenBid_13 (shS_k0 hS) (shS_3 hS 0) rfl rfl rfl (shS_p7 hS) ?_
      refine R_iload_n fX0_bestOpenBid_16 rfl ?_
      refine R_iaload fX0_bestOpenBid_17 (shS_k1 hS) (by omega) ?_
      refine R_icmp_gt fX0_bestOpenBid_18 rfl (fun h18 => ?_) (fun h18 => ?_)
      · refine R_iload fX0_bestOpenBid_55 rfl ?_
        refine R_ireturn fX0_bestOpenBid_57 rfl ?_
        have hi : i = s (126 + 6 * p) + 1 := by omega
        subst hi
        exact ⟨_, _, rfl, rfl, h3⟩
      · refine R_aload_n fX0_bestOpenBid_21 rfl ?_
        refine R_aload_n fX0_bestOpenBid_22 rfl ?_
        refine R_iload_n fX0_bestOpenBid_23 rfl ?_
        refine R_iload fX0_bestOpenBid_24 rfl ?_
        refine R_iload_n fX0_bestOpenBid_26 rfl ?_
        refine R_iload fX0_bestOpenBid_27 rfl ?_
        refine R_callV fX0_bestOpenBid_29 rfl rfl pX0_leastGain rfl ⟨Nat.le_of_ble_eq_true rfl, rcv_v rfl hD.1 hD.2.2.1⟩ (sp_leastGain (by omega) hS hRG hw hO hD hBO hTO hTB h20 h4 hp (x := i) (by omega) (by omega)) (fun r F1 q => ?_)
        obtain ⟨⟨q0, q1⟩, q2⟩ := q
        refine R_istore fX0_bestOpenBid_32 rfl ?_
        refine R_iload fX0_bestOpenBid_34 rfl ?_
        refine R_iload fX0_bestOpenBid_36 rfl ?_
        refine R_icmp_le fX0_bestOpenBid_38 rfl (fun h38 => ?_) (fun h38 => ?_)
        · refine R_iinc fX0_bestOpenBid_49 rfl (by omega) ?_
          refine R_goto fX0_bestOpenBid_52 rfl ?_
          first
          | (have hlt : mxP (hT s p e) i.toNat < hT s p e i := by omega
             have hr := q0 hlt
             subst hr
             rw [show (some (Sum.inl i) : Option AV) = some (.inl (abP (hT s p e) (i + 1).toNat)) by rw [abP_s h0, if_pos hlt], show (some (Sum.inl (hT s p e i)) : Option AV) = some (.inl (mxP (hT s p e) (i + 1).toNat)) by rw [mxP_s h0, if_pos hlt]]
             exact ih _ _ _ (by omega) (by omega) (fun k k0 k1 => by rw [q2 k k0 k1]; exact h3 k k0 k1) (by omega))
          | (have hlt : ¬ mxP (hT s p e) i.toNat < hT s p e i := fun z => by have := q0 z; omega
             rw [show abP (hT s p e) i.toNat = abP (hT s p e) (i + 1).toNat by rw [abP_s h0, if_neg hlt], show mxP (hT s p e) i.toNat = mxP (hT s p e) (i + 1).toNat by rw [mxP_s h0, if_neg hlt]]
             exact ih _ _ _ (by omega) (by omega) (fun k k0 k1 => by rw [q2 k k0 k1]; exact h3 k k0 k1) (by omega))
        · refine R_iload fX0_bestOpenBid_41 rfl ?_
          refine R_istore fX0_bestOpenBid_43 rfl ?_
          refine R_iload fX0_bestOpenBid_45 rfl ?_
          refine R_istore fX0_bestOpenBid_47 rfl ?_
          refine R_iinc fX0_bestOpenBid_49 rfl (by omega) ?_
          refine R_goto fX0_bestOpenBid_52 rfl ?_
          first
          | (have hlt : mxP (hT s p e) i.toNat < hT s p e i := by omega
             have hr := q0 hlt
             subst hr
             rw [show (some (Sum.inl i) : Option AV) = some (.inl (abP (hT s p e) (i + 1).toNat)) by rw [abP_s h0, if_pos hlt], show (some (Sum.inl (hT s p e i)) : Option AV) = some (.inl (mxP (hT s p e) (i + 1).toNat)) by rw [mxP_s h0, if_pos hlt]]
             exact ih _ _ _ (by omega) (by omega) (fun k k0 k1 => by rw [q2 k k0 k1]; exact h3 k k0 k1) (by omega))
          | (have hlt : ¬ mxP (hT s p e) i.toNat < hT s p e i := fun z => by have := q0 z; omega
             rw [show abP (hT s p e) i.toNat = abP (hT s p e) (i + 1).toNat by rw [abP_s h0, if_neg hlt], show mxP (hT s p e) i.toNat = mxP (hT s p e) (i + 1).toNat by rw [mxP_s h0, if_neg hlt]]
             exact ih _ _ _ (by omega) (by omega) (fun k k0 k1 => by rw [q2 k k0 k1]; exact h3 k k0 k1) (by omega))
  refine R_iconst fX0_bestOpenBid_0 ?_
  refine R_istore fX0_bestOpenBid_1 rfl ?_
  refine R_ldc fX0_bestOpenBid_3 ?_
  refine R_istore fX0_bestOpenBid_5 rfl ?_
  refine R_iconst fX0_bestOpenBid_7 ?_
  refine R_istore fX0_bestOpenBid_8 rfl ?_
  exact lp 200 0 _ _ (by omega) (by omega) (fun _ _ _ => rfl) (by omega)
theorem sp_gainByOpenBid {d : Nat} {kd : KL} {F : FM} {P : PM} {B O D T : Nat} {s : Int → Int} {p e b : Int} (hd : 8 ≤ d) (hS : shS kd P B) (hR : Rel B F s) (hw : WF s) (hO : shO kd P O) (hD : shA kd P D T O) (hBO : B + 16 ≤ O ∨ O + 3 ≤ B) (hTO : T < O ∨ O + 3 ≤ T) (hTB : T < B ∨ B + 16 ≤ T) (h20 : s 0 = 2) (h4 : 1 ≤ s 4) (hp : p = 0 ∨ p = 1) (hb : 0 ≤ b ∧ b ≤ s (126 + 6 * p)) : Sp d 3 [.inr (some D), .inr (some B), .inl p, .inl b, .inl e] kd F P (QV kd P (fun r F' => r = hT s p e b ∧ ∀ k, (k < O ∨ O + 3 ≤ k) → k ≠ T → F' k = F k)) := by
  refine Sp_of (me := mX0_gainByOpenBid) (by omega) pX0_gainByOpenBid ⟨rfl, Nat.le_of_ble_eq_true rfl⟩ ?_
  obtain ⟨w0, w1, w2, w3, w4, w5, w6, w7, w8, w9, w10, w11, w12, w13⟩ := id hw
  have hcp := w3 p (by omega) (by omega)
  have hhb := hT_b hw h4 (p := p) (e := e) (x := b) (by omega)
  refine R_aload_n fX0_gainByOpenBid_0 rfl ?_
  refine R_aload_n fX0_gainByOpenBid_1 rfl ?_
  refine R_iload_n fX0_gainByOpenBid_2 rfl ?_
  refine R_iload_n fX0_gainByOpenBid_3 rfl ?_
  refine R_iload fX0_gainByOpenBid_4 rfl ?_
  refine R_ldc fX0_gainByOpenBid_6 ?_
  refine R_callV fX0_gainByOpenBid_8 rfl rfl pX0_leastGain rfl ⟨Nat.le_of_ble_eq_true rfl, rcv_v rfl hD.1 hD.2.2.1⟩ (sp_leastGain (by omega) hS hR hw hO hD hBO hTO hTB h20 h4 hp (by omega) (by omega)) (fun r F2 z => ?_)
  obtain ⟨⟨z0, z1⟩, z2⟩ := z
  refine R_ireturn fX0_gainByOpenBid_11 rfl ?_
  exact ⟨_, _, rfl, z0 (by omega), z2⟩
