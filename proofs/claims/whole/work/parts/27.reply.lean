/-- the reply: what a bid brings -/
def rpS (s : Int → Int) (p b : Int) : Int := if wnS (bidS s p b) = p then tabS s + s 5 else 0
def rcS (s : Int → Int) (p b : Int) : Int := s (126 + 6 * p) - FE (bidS s p b) p + GO (bidS s p b) p
theorem sp_bestReply {d : Nat} {kd : KL} {F : FM} {P : PM} {B O D T : Nat} {s : Int → Int} {p : Int} (hd : 7 ≤ d) (hS : shS kd P B) (hR : Rel B F s) (hw : WF s) (hO : shO kd P O) (hD : shA kd P D T O) (hBO : B + 16 ≤ O ∨ O + 3 ≤ B) (hTO : T < O ∨ O + 3 ≤ T) (hTB : T < B ∨ B + 16 ≤ T) (h4 : 1 ≤ s 4) (hp : 0 ≤ p ∧ p < s 0) (hq : ∀ q, 0 ≤ q → q < s 0 → q ≠ p → s (126 + 6 * q + 2) ≠ -1) : Sp d 1 [.inr (some D), .inr (some B), .inl p] kd F P (QV kd P (fun r F' => r = ldS (rpS s p) (rcS s p) (s (126 + 6 * p) + 1).toNat ∧ ∀ k, (k < O ∨ O + 3 ≤ k) → k ≠ T → F' k = F k)) := by
  refine Sp_of (me := mX0_bestReply) (by omega) pX0_bestReply ⟨rfl, Nat.le_of_ble_eq_true rfl⟩ ?_
  obtain ⟨w0, w1, w2, w3, w4, w5, w6, w7, w8, w9, w10, w11, w12, w13⟩ := id hw
  have hcp := w3 p (by omega) (by omega)
  have hst := stake_b hw h4
  have lp : ∀ (N : Nat) (i mp mc : Int) (j1 j2 : Option AV) (G : FM), 0 ≤ i → i ≤ s (126 + 6 * p) + 1 → (i = 0 → mp = -1000000 ∧ mc = -1000000) → (1 ≤ i → mp = rpS s p (ldS (rpS s p) (rcS s p) i.toNat) ∧ mc = rcS s p (ldS (rpS s p) (rcS s p) i.toNat)) → (∀ q, 0 ≤ q → q < 4 → q ≠ p → G T q = s (126 + 6 * q + 2)) → (∀ k, (k < O ∨ O + 3 ≤ k) → k ≠ T → G k = F k) → s (126 + 6 * p) + 1 - i < N → Rn (d - 1) mX0_bestReply 27 [some (.inr (some D)), some (.inr (some B)), some (.inl p), some (.inl (ldS (rpS s p) (rcS s p) i.toNat)), some (.inl mp), some (.inl mc), some (.inl i), j1, j2] [] kd G P (QV kd P (fun r F' => r = ldS (rpS s p) (rcS s p) (s (126 + 6 * p) + 1).toNat ∧ ∀ k, (k < O ∨ O + 3 ≤ k) → k ≠ T → F' k = F k)) := by
    intro N
    induction N with
    | zero => intro i mp mc j1 j2 G h0 h1 h2 h3 h6 h7 h8; omega
    | succ N ih =>
      intro i mp mc j1 j2 G h0 h1 h2 h3 h6 h7 h8
      have hRG : Rel B G s := Rel_frame hR (fun k a b => h7 k (by omega) (by omega))
      obtain ⟨r0, r1, r2, r3, r4, r5, r6, rp, rse, rt, rl, rg1, rg2, rg, rn, rr⟩ := id hRG
      have hcp1 := (rp p (by omega) (by omega)).1
      refine R_iload fX0_bestReply_27 rfl ?_
      refine R_aload_n fX0_bestReply_29 rfl ?_
      refine R_getP 7 fX0_bestReply_30 (shS_k0 hS) (shS_3 hS 0) rfl rfl rfl (shS_p7 hS) ?_
      refine R_iload_n fX0_bestReply_33 rfl ?_
      refine R_iaload fX0_bestReply_34 (shS_k1 hS) (by omega) ?_
      refine R_icmp_gt fX0_bestReply_35 rfl (fun h35 => ?_) (fun h35 => ?_)
      · refine R_iload_n fX0_bestReply_128 rfl ?_
        refine R_ireturn fX0_bestReply_129 rfl ?_
        have hi : i = s (126 + 6 * p) + 1 := by omega
        subst hi
        exact ⟨_, _, rfl, rfl, h7⟩
      · have hwb : WF (bidS s p i) := WF_bid hw hp (by omega)
        have e0 : bidS s p i 0 = s 0 := bid_o (by omega)
        have hbd : BD (bidS s p i) := fun q a b => by
          show 0 ≤ bidS s p i (126 + 6 * q + 2)
          rw [e0] at b
          by_cases hqp : q = p
          · rw [hqp, bid_v]; exact h0
          · rw [bid_o (by omega)]
            have x1 := hq q a b hqp
            have x2 := w3 q a (by omega)
            omega
        have hf3 : ∀ q : Int, 0 ≤ q → q < ((s 0).toNat : Nat) → stt G T p i T q = bdS (bidS s p i) q := fun q a b => by
          show _ = bidS s p i (126 + 6 * q + 2)
          by_cases hqp : q = p
          · rw [hqp, bid_v, stt_eq]
          · rw [bid_o (by omega), stt_j _ _ hqp]
            exact h6 q a (by omega) hqp
        have hRG2 : Rel B (stt G T p i) s := Rel_frame hRG (fun k a b => by simp (disch := omega) only [stt_kr])
        have hfe := FE_b hwb hbd p hp.1 (by rw [e0]; exact hp.2)
        rw [bid_o (by omega)] at hfe
        have hgo := GO_b hwb hbd p
        refine R_aload_n fX0_bestReply_38 rfl ?_
        refine R_getP 1 fX0_bestReply_39 hD.2.2.1 hD.1 rfl rfl rfl hD.2.2.2.2.2 ?_
        refine R_iload_n fX0_bestReply_42 rfl ?_
        refine R_iload fX0_bestReply_43 rfl ?_
        refine R_iastore fX0_bestReply_45 hD.2.2.2.1 hD.2.1 (by omega) ?_
        refine R_aload_n fX0_bestReply_46 rfl ?_
        refine R_getP 0 fX0_bestReply_47 hD.2.2.1 hD.1 rfl rfl rfl hD.2.2.2.2.1 ?_
        refine R_aload_n fX0_bestReply_50 rfl ?_
        refine R_aload_n fX0_bestReply_51 rfl ?_
        refine R_getP 1 fX0_bestReply_52 hD.2.2.1 hD.1 rfl rfl rfl hD.2.2.2.2.2 ?_
        refine R_callN fX0_bestReply_55 rfl rfl pX2_work rfl ⟨Nat.le_of_ble_eq_true rfl, rcv_v rfl hO.1 hO.2.1⟩ (sp_work (by omega) hO hS hD.2.2.2.1 hD.2.1 hTO hBO hRG2 hw (fun q a b => by rw [hf3 q a (by omega)]; exact bd_b hwb hbd q a (by rw [e0]; exact b))) (fun F1 x_ => ?_)
        obtain ⟨x0, x1, x2, x3, x4, x5⟩ := x_
        rw [winF_congr hf3, show winF (bdS (bidS s p i)) (s 0).toNat = wnS (bidS s p i) by unfold wnS; rw [e0]] at x0
        have xp := x4 p hp.1 hp.2
        rw [feeF_congr hf3 hp.1 (by omega), gotF_congr hf3, show feeF (bdS (bidS s p i)) (s 0).toNat (s 26) (s 27) p = FE (bidS s p i) p by unfold FE; rw [e0, bid_o (by omega), bid_o (by omega)], show gotF (bdS (bidS s p i)) (s 0).toNat (s 1) (s 26) (s 27) (s 28) p = GO (bidS s p i) p by unfold GO; rw [e0, bid_o (by omega), bid_o (by omega), bid_o (by omega), bid_o (by omega)]] at xp
        have hR1 : Rel B F1 s := Rel_frame hRG2 (fun k a b => x5 k (by omega))
        have hcp2 := (hR1.2.2.2.2.2.2.2.1 p (by omega) (by omega)).1
        refine R_aload_n fX0_bestReply_58 rfl ?_
        refine R_getP 0 fX0_bestReply_59 hD.2.2.1 hD.1 rfl rfl rfl hD.2.2.2.2.1 ?_
        refine R_getI 0 fX0_bestReply_62 hO.2.1 hO.1 rfl rfl rfl ?_
        refine R_iload_n fX0_bestReply_65 rfl ?_
        refine R_icmp_ne fX0_bestReply_66 rfl (fun h66 => ?_) (fun h66 => ?_)
        · refine R_iconst fX0_bestReply_76 ?_
          refine R_istore fX0_bestReply_77 rfl ?_
          refine R_aload_n fX0_bestReply_79 rfl ?_
          refine R_getP 0 fX0_bestReply_80 hD.2.2.1 hD.1 rfl rfl rfl hD.2.2.2.2.1 ?_
          refine R_aload_n fX0_bestReply_83 rfl ?_
          refine R_iload_n fX0_bestReply_84 rfl ?_
          refine R_callE fX0_bestReply_85 rfl rfl pX2_coinsBehind rfl ⟨Nat.le_of_ble_eq_true rfl, rcv_v rfl hO.1 hO.2.1⟩ (sp_coinsBehind (by omega) hO hS (by omega) (by rw [hcp2, xp.1, xp.2]; omega)) ?_
          rw [show F1 (B + 1) p - F1 (O + 1) p + F1 (O + 2) p = rcS s p i by rw [hcp2, xp.1, xp.2]; rfl]
          have hrp : rpS s p i = if wnS (bidS s p i) = p then tabS s + s 5 else 0 := rfl
          rw [x0] at h66
          refine R_istore fX0_bestReply_88 rfl ?_
          refine R_iload fX0_bestReply_90 rfl ?_
          refine R_iload fX0_bestReply_92 rfl ?_
          refine R_icmp_gt fX0_bestReply_94 rfl (fun h94 => ?_) (fun h94 => ?_)
          · refine R_iload fX0_bestReply_111 rfl ?_
            refine R_istore_n fX0_bestReply_113 rfl ?_
            refine R_iload fX0_bestReply_114 rfl ?_
            refine R_istore fX0_bestReply_116 rfl ?_
            refine R_iload fX0_bestReply_118 rfl ?_
            refine R_istore fX0_bestReply_120 rfl ?_
            refine R_iinc fX0_bestReply_122 rfl (by omega) ?_
            refine R_goto fX0_bestReply_125 rfl ?_
            have hfr : ∀ k, (k < O ∨ O + 3 ≤ k) → k ≠ T → F1 k = F k := fun k k0 k1 => by
              rw [x5 k k0, stt_kr _ _ _ k1]; exact h7 k k0 k1
            have htr : ∀ q, 0 ≤ q → q < 4 → q ≠ p → F1 T q = s (126 + 6 * q + 2) := fun q a b c => by
              rw [x5 T (by omega), stt_j _ _ c]; exact h6 q a b c
            first | rw [if_neg (by omega)] at hrp | rw [if_pos (by omega)] at hrp
            by_cases hi0 : i = 0
            · subst hi0
              obtain ⟨hm1, hm2⟩ := h2 rfl
              first
              | (exfalso; omega)
              | exact ih (0 + 1) _ _ _ _ _ (by omega) (by omega) (fun z => by omega) (fun _ => ⟨hrp.symm, rfl⟩) htr hfr (by omega)
            · obtain ⟨hm1, hm2⟩ := h3 (by omega)
              have hs := ldS_s (pt := rpS s p) (co := rcS s p) (i := i) (by omega)
              first
              | (rw [if_pos (by omega)] at hs
                 refine (?_ : Rn (d - 1) _ 27 [_, _, _, some (.inl i), _, _, _, _, _] [] kd F1 P _)
                 rw [show (some (Sum.inl i) : Option AV) = some (.inl (ldS (rpS s p) (rcS s p) (i + 1).toNat)) by rw [hs]]
                 exact ih _ _ _ _ _ _ (by omega) (by omega) (fun z => by omega) (fun _ => by rw [hs]; exact ⟨hrp.symm, rfl⟩) htr hfr (by omega))
              | (rw [if_neg (by omega)] at hs
                 rw [← hs]
                 exact ih _ _ _ _ _ _ (by omega) (by omega) (fun z => by omega) (fun _ => by rw [hs]; exact ⟨hm1, hm2⟩) htr hfr (by omega))
          · refine R_iload fX0_bestReply_97 rfl ?_
            refine R_iload fX0_bestReply_99 rfl ?_
            refine R_icmp_ne fX0_bestReply_101 rfl (fun h101 => ?_) (fun h101 => ?_)
            · refine R_iinc fX0_bestReply_122 rfl (by omega) ?_
              refine R_goto fX0_bestReply_125 rfl ?_
              have hfr : ∀ k, (k < O ∨ O + 3 ≤ k) → k ≠ T → F1 k = F k := fun k k0 k1 => by
                rw [x5 k k0, stt_kr _ _ _ k1]; exact h7 k k0 k1
              have htr : ∀ q, 0 ≤ q → q < 4 → q ≠ p → F1 T q = s (126 + 6 * q + 2) := fun q a b c => by
                rw [x5 T (by omega), stt_j _ _ c]; exact h6 q a b c
              first | rw [if_neg (by omega)] at hrp | rw [if_pos (by omega)] at hrp
              by_cases hi0 : i = 0
              · subst hi0
                obtain ⟨hm1, hm2⟩ := h2 rfl
                first
                | (exfalso; omega)
                | exact ih (0 + 1) _ _ _ _ _ (by omega) (by omega) (fun z => by omega) (fun _ => ⟨hrp.symm, rfl⟩) htr hfr (by omega)
              · obtain ⟨hm1, hm2⟩ := h3 (by omega)
                have hs := ldS_s (pt := rpS s p) (co := rcS s p) (i := i) (by omega)
                first
                | (rw [if_pos (by omega)] at hs
                   refine (?_ : Rn (d - 1) _ 27 [_, _, _, some (.inl i), _, _, _, _, _] [] kd F1 P _)
                   rw [show (some (Sum.inl i) : Option AV) = some (.inl (ldS (rpS s p) (rcS s p) (i + 1).toNat)) by rw [hs]]
                   exact ih _ _ _ _ _ _ (by omega) (by omega) (fun z => by omega) (fun _ => by rw [hs]; exact ⟨hrp.symm, rfl⟩) htr hfr (by omega))
                | (rw [if_neg (by omega)] at hs
                   rw [← hs]
                   exact ih _ _ _ _ _ _ (by omega) (by omega) (fun z => by omega) (fun _ => by rw [hs]; exact ⟨hm1, hm2⟩) htr hfr (by omega))
            · refine R_iload fX0_bestReply_104 rfl ?_
              refine R_iload fX0_bestReply_106 rfl ?_
              refine R_icmp_le fX0_bestReply_108 rfl (fun h108 => ?_) (fun h108 => ?_)
              · refine R_iinc fX0_bestReply_122 rfl (by omega) ?_
                refine R_goto fX0_bestReply_125 rfl ?_
                have hfr : ∀ k, (k < O ∨ O + 3 ≤ k) → k ≠ T → F1 k = F k := fun k k0 k1 => by
                  rw [x5 k k0, stt_kr _ _ _ k1]; exact h7 k k0 k1
                have htr : ∀ q, 0 ≤ q → q < 4 → q ≠ p → F1 T q = s (126 + 6 * q + 2) := fun q a b c => by
                  rw [x5 T (by omega), stt_j _ _ c]; exact h6 q a b c
                first | rw [if_neg (by omega)] at hrp | rw [if_pos (by omega)] at hrp
                by_cases hi0 : i = 0
                · subst hi0
                  obtain ⟨hm1, hm2⟩ := h2 rfl
                  first
                  | (exfalso; omega)
                  | exact ih (0 + 1) _ _ _ _ _ (by omega) (by omega) (fun z => by omega) (fun _ => ⟨hrp.symm, rfl⟩) htr hfr (by omega)
                · obtain ⟨hm1, hm2⟩ := h3 (by omega)
                  have hs := ldS_s (pt := rpS s p) (co := rcS s p) (i := i) (by omega)
                  first
                  | (rw [if_pos (by omega)] at hs
                     refine (?_ : Rn (d - 1) _ 27 [_, _, _, some (.inl i), _, _, _, _, _] [] kd F1 P _)
                     rw [show (some (Sum.inl i) : Option AV) = some (.inl (ldS (rpS s p) (rcS s p) (i + 1).toNat)) by rw [hs]]
                     exact ih _ _ _ _ _ _ (by omega) (by omega) (fun z => by omega) (fun _ => by rw [hs]; exact ⟨hrp.symm, rfl⟩) htr hfr (by omega))
                  | (rw [if_neg (by omega)] at hs
                     rw [← hs]
                     exact ih _ _ _ _ _ _ (by omega) (by omega) (fun z => by omega) (fun _ => by rw [hs]; exact ⟨hm1, hm2⟩) htr hfr (by omega))
              · refine R_iload fX0_bestReply_111 rfl ?_
                refine R_istore_n fX0_bestReply_113 rfl ?_
                refine R_iload fX0_bestReply_114 rfl ?_
                refine R_istore fX0_bestReply_116 rfl ?_
                refine R_iload fX0_bestReply_118 rfl ?_
                refine R_istore fX0_bestReply_120 rfl ?_
                refine R_iinc fX0_bestReply_122 rfl (by omega) ?_
                refine R_goto fX0_bestReply_125 rfl ?_
                have hfr : ∀ k, (k < O ∨ O + 3 ≤ k) → k ≠ T → F1 k = F k := fun k k0 k1 => by
                  rw [x5 k k0, stt_kr _ _ _ k1]; exact h7 k k0 k1
                have htr : ∀ q, 0 ≤ q → q < 4 → q ≠ p → F1 T q = s (126 + 6 * q + 2) := fun q a b c => by
                  rw [x5 T (by omega), stt_j _ _ c]; exact h6 q a b c
                first | rw [if_neg (by omega)] at hrp | rw [if_pos (by omega)] at hrp
                by_cases hi0 : i = 0
                · subst hi0
                  obtain ⟨hm1, hm2⟩ := h2 rfl
                  first
                  | (exfalso; omega)
                  | exact ih (0 + 1) _ _ _ _ _ (by omega) (by omega) (fun z => by omega) (fun _ => ⟨hrp.symm, rfl⟩) htr hfr (by omega)
                · obtain ⟨hm1, hm2⟩ := h3 (by omega)
                  have hs := ldS_s (pt := rpS s p) (co := rcS s p) (i := i) (by omega)
                  first
                  | (rw [if_pos (by omega)] at hs
                     refine (?_ : Rn (d - 1) _ 27 [_, _, _, some (.inl i), _, _, _, _, _] [] kd F1 P _)
                     rw [show (some (Sum.inl i) : Option AV) = some (.inl (ldS (rpS s p) (rcS s p) (i + 1).toNat)) by rw [hs]]
                     exact ih _ _ _ _ _ _ (by omega) (by omega) (fun z => by omega) (fun _ => by rw [hs]; exact ⟨hrp.symm, rfl⟩) htr hfr (by omega))
                  | (rw [if_neg (by omega)] at hs
                     rw [← hs]
                     exact ih _ _ _ _ _ _ (by omega) (by omega) (fun z => by omega) (fun _ => by rw [hs]; exact ⟨hm1, hm2⟩) htr hfr (by omega))
        · refine R_aload_n fX0_bestReply_69 rfl ?_
          refine R_callE fX0_bestReply_70 rfl rfl pX5_nextStake rfl ⟨Nat.le_of_ble_eq_true rfl, rcv_v rfl (shS_3 hS 0) (shS_k0 hS)⟩ (sp_nextStake (by omega) hS hR1 hw) ?_
          rw [if_neg (by omega)]
          refine R_goto fX0_bestReply_73 rfl ?_
          refine R_istore fX0_bestReply_77 rfl ?_
          refine R_aload_n fX0_bestReply_79 rfl ?_
          refine R_getP 0 fX0_bestReply_80 hD.2.2.1 hD.1 rfl rfl rfl hD.2.2.2.2.1 ?_
          refine R_aload_n fX0_bestReply_83 rfl ?_
          refine R_iload_n fX0_bestReply_84 rfl ?_
          refine R_callE fX0_bestReply_85 rfl rfl pX2_coinsBehind rfl ⟨Nat.le_of_ble_eq_true rfl, rcv_v rfl hO.1 hO.2.1⟩ (sp_coinsBehind (by omega) hO hS (by omega) (by rw [hcp2, xp.1, xp.2]; omega)) ?_
          rw [show F1 (B + 1) p - F1 (O + 1) p + F1 (O + 2) p = rcS s p i by rw [hcp2, xp.1, xp.2]; rfl]
          have hrp : rpS s p i = if wnS (bidS s p i) = p then tabS s + s 5 else 0 := rfl
          rw [x0] at h66
          refine R_istore fX0_bestReply_88 rfl ?_
          refine R_iload fX0_bestReply_90 rfl ?_
          refine R_iload fX0_bestReply_92 rfl ?_
          refine R_icmp_gt fX0_bestReply_94 rfl (fun h94 => ?_) (fun h94 => ?_)
          · refine R_iload fX0_bestReply_111 rfl ?_
            refine R_istore_n fX0_bestReply_113 rfl ?_
            refine R_iload fX0_bestReply_114 rfl ?_
            refine R_istore fX0_bestReply_116 rfl ?_
            refine R_iload fX0_bestReply_118 rfl ?_
            refine R_istore fX0_bestReply_120 rfl ?_
            refine R_iinc fX0_bestReply_122 rfl (by omega) ?_
            refine R_goto fX0_bestReply_125 rfl ?_
            have hfr : ∀ k, (k < O ∨ O + 3 ≤ k) → k ≠ T → F1 k = F k := fun k k0 k1 => by
              rw [x5 k k0, stt_kr _ _ _ k1]; exact h7 k k0 k1
            have htr : ∀ q, 0 ≤ q → q < 4 → q ≠ p → F1 T q = s (126 + 6 * q + 2) := fun q a b c => by
              rw [x5 T (by omega), stt_j _ _ c]; exact h6 q a b c
            first | rw [if_neg (by omega)] at hrp | rw [if_pos (by omega)] at hrp
            by_cases hi0 : i = 0
            · subst hi0
              obtain ⟨hm1, hm2⟩ := h2 rfl
              first
              | (exfalso; omega)
              | exact ih (0 + 1) _ _ _ _ _ (by omega) (by omega) (fun z => by omega) (fun _ => ⟨hrp.symm, rfl⟩) htr hfr (by omega)
            · obtain ⟨hm1, hm2⟩ := h3 (by omega)
              have hs := ldS_s (pt := rpS s p) (co := rcS s p) (i := i) (by omega)
              first
              | (rw [if_pos (by omega)] at hs
                 refine (?_ : Rn (d - 1) _ 27 [_, _, _, some (.inl i), _, _, _, _, _] [] kd F1 P _)
                 rw [show (some (Sum.inl i) : Option AV) = some (.inl (ldS (rpS s p) (rcS s p) (i + 1).toNat)) by rw [hs]]
                 exact ih _ _ _ _ _ _ (by omega) (by omega) (fun z => by omega) (fun _ => by rw [hs]; exact ⟨hrp.symm, rfl⟩) htr hfr (by omega))
              | (rw [if_neg (by omega)] at hs
                 rw [← hs]
                 exact ih _ _ _ _ _ _ (by omega) (by omega) (fun z => by omega) (fun _ => by rw [hs]; exact ⟨hm1, hm2⟩) htr hfr (by omega))
          · refine R_iload fX0_bestReply_97 rfl ?_
            refine R_iload fX0_bestReply_99 rfl ?_
            refine R_icmp_ne fX0_bestReply_101 rfl (fun h101 => ?_) (fun h101 => ?_)
            · refine R_iinc fX0_bestReply_122 rfl (by omega) ?_
              refine R_goto fX0_bestReply_125 rfl ?_
              have hfr : ∀ k, (k < O ∨ O + 3 ≤ k) → k ≠ T → F1 k = F k := fun k k0 k1 => by
                rw [x5 k k0, stt_kr _ _ _ k1]; exact h7 k k0 k1
              have htr : ∀ q, 0 ≤ q → q < 4 → q ≠ p → F1 T q = s (126 + 6 * q + 2) := fun q a b c => by
                rw [x5 T (by omega), stt_j _ _ c]; exact h6 q a b c
              first | rw [if_neg (by omega)] at hrp | rw [if_pos (by omega)] at hrp
              by_cases hi0 : i = 0
              · subst hi0
                obtain ⟨hm1, hm2⟩ := h2 rfl
                first
                | (exfalso; omega)
                | exact ih (0 + 1) _ _ _ _ _ (by omega) (by omega) (fun z => by omega) (fun _ => ⟨hrp.symm, rfl⟩) htr hfr (by omega)
              · obtain ⟨hm1, hm2⟩ := h3 (by omega)
                have hs := ldS_s (pt := rpS s p) (co := rcS s p) (i := i) (by omega)
                first
                | (rw [if_pos (by omega)] at hs
                   refine (?_ : Rn (d - 1) _ 27 [_, _, _, some (.inl i), _, _, _, _, _] [] kd F1 P _)
                   rw [show (some (Sum.inl i) : Option AV) = some (.inl (ldS (rpS s p) (rcS s p) (i + 1).toNat)) by rw [hs]]
                   exact ih _ _ _ _ _ _ (by omega) (by omega) (fun z => by omega) (fun _ => by rw [hs]; exact ⟨hrp.symm, rfl⟩) htr hfr (by omega))
                | (rw [if_neg (by omega)] at hs
                   rw [← hs]
                   exact ih _ _ _ _ _ _ (by omega) (by omega) (fun z => by omega) (fun _ => by rw [hs]; exact ⟨hm1, hm2⟩) htr hfr (by omega))
            · refine R_iload fX0_bestReply_104 rfl ?_
              refine R_iload fX0_bestReply_106 rfl ?_
              refine R_icmp_le fX0_bestReply_108 rfl (fun h108 => ?_) (fun h108 => ?_)
              · refine R_iinc fX0_bestReply_122 rfl (by omega) ?_
                refine R_goto fX0_bestReply_125 rfl ?_
                have hfr : ∀ k, (k < O ∨ O + 3 ≤ k) → k ≠ T → F1 k = F k := fun k k0 k1 => by
                  rw [x5 k k0, stt_kr _ _ _ k1]; exact h7 k k0 k1
                have htr : ∀ q, 0 ≤ q → q < 4 → q ≠ p → F1 T q = s (126 + 6 * q + 2) := fun q a b c => by
                  rw [x5 T (by omega), stt_j _ _ c]; exact h6 q a b c
                first | rw [if_neg (by omega)] at hrp | rw [if_pos (by omega)] at hrp
                by_cases hi0 : i = 0
                · subst hi0
                  obtain ⟨hm1, hm2⟩ := h2 rfl
                  first
                  | (exfalso; omega)
                  | exact ih (0 + 1) _ _ _ _ _ (by omega) (by omega) (fun z => by omega) (fun _ => ⟨hrp.symm, rfl⟩) htr hfr (by omega)
                · obtain ⟨hm1, hm2⟩ := h3 (by omega)
                  have hs := ldS_s (pt := rpS s p) (co := rcS s p) (i := i) (by omega)
                  first
                  | (rw [if_pos (by omega)] at hs
                     refine (?_ : Rn (d - 1) _ 27 [_, _, _, some (.inl i), _, _, _, _, _] [] kd F1 P _)
                     rw [show (some (Sum.inl i) : Option AV) = some (.inl (ldS (rpS s p) (rcS s p) (i + 1).toNat)) by rw [hs]]
                     exact ih _ _ _ _ _ _ (by omega) (by omega) (fun z => by omega) (fun _ => by rw [hs]; exact ⟨hrp.symm, rfl⟩) htr hfr (by omega))
                  | (rw [if_neg (by omega)] at hs
                     rw [← hs]
                     exact ih _ _ _ _ _ _ (by omega) (by omega) (fun z => by omega) (fun _ => by rw [hs]; exact ⟨hm1, hm2⟩) htr hfr (by omega))
              · refine R_iload fX0_bestReply_111 rfl ?_
                refine R_istore_n fX0_bestReply_113 rfl ?_
                refine R_iload fX0_bestReply_114 rfl ?_
                refine R_istore fX0_bestReply_116 rfl ?_
                refine R_iload fX0_bestReply_118 rfl ?_
                refine R_istore fX0_bestReply_120 rfl ?_
                refine R_iinc fX0_bestReply_122 rfl (by omega) ?_
                refine R_goto fX0_bestReply_125 rfl ?_
                have hfr : ∀ k, (k < O ∨ O + 3 ≤ k) → k ≠ T → F1 k = F k := fun k k0 k1 => by
                  rw [x5 k k0, stt_kr _ _ _ k1]; exact h7 k k0 k1
                have htr : ∀ q, 0 ≤ q → q < 4 → q ≠ p → F1 T q = s (126 + 6 * q + 2) := fun q a b c => by
                  rw [x5 T (by omega), stt_j _ _ c]; exact h6 q a b c
                first | rw [if_neg (by omega)] at hrp | rw [if_pos (by omega)] at hrp
                by_cases hi0 : i = 0
                · subst hi0
                  obtain ⟨hm1, hm2⟩ := h2 rfl
                  first
                  | (exfalso; omega)
                  | exact ih (0 + 1) _ _ _ _ _ (by omega) (by omega) (fun z => by omega) (fun _ => ⟨hrp.symm, rfl⟩) htr hfr (by omega)
                · obtain ⟨hm1, hm2⟩ := h3 (by omega)
                  have hs := ldS_s (pt := rpS s p) (co := rcS s p) (i := i) (by omega)
                  first
                  | (rw [if_pos (by omega)] at hs
                     refine (?_ : Rn (d - 1) _ 27 [_, _, _, some (.inl i), _, _, _, _, _] [] kd F1 P _)
                     rw [show (some (Sum.inl i) : Option AV) = some (.inl (ldS (rpS s p) (rcS s p) (i + 1).toNat)) by rw [hs]]
                     exact ih _ _ _ _ _ _ (by omega) (by omega) (fun z => by omega) (fun _ => by rw [hs]; exact ⟨hrp.symm, rfl⟩) htr hfr (by omega))
                  | (rw [if_neg (by omega)] at hs
                     rw [← hs]
                     exact ih _ _ _ _ _ _ (by omega) (by omega) (fun z => by omega) (fun _ => by rw [hs]; exact ⟨hm1, hm2⟩) htr hfr (by omega))
  obtain ⟨r0, r1, r2, r3, r4, r5, r6, rp, rse, rt, rl, rg1, rg2, rg, rn, rr⟩ := id hR
  refine R_aload_n fX0_bestReply_0 rfl ?_
  refine R_getP 9 fX0_bestReply_1 (shS_k0 hS) (shS_3 hS 0) rfl rfl rfl (shS_p9 hS) ?_
  refine R_iconst fX0_bestReply_4 ?_
  refine R_aload_n fX0_bestReply_5 rfl ?_
  refine R_getP 1 fX0_bestReply_6 hD.2.2.1 hD.1 rfl rfl rfl hD.2.2.2.2.2 ?_
  refine R_iconst fX0_bestReply_9 ?_
  refine R_iconst fX0_bestReply_10 ?_
  refine R_copy fX0_bestReply_11 (by omega) (shS_k3 hS) hD.2.2.2.1 hD.2.1 (by decide) ?_
  refine R_iconst fX0_bestReply_14 ?_
  refine R_istore_n fX0_bestReply_15 rfl ?_
  refine R_ldc fX0_bestReply_16 ?_
  refine R_istore fX0_bestReply_18 rfl ?_
  refine R_ldc fX0_bestReply_20 ?_
  refine R_istore fX0_bestReply_22 rfl ?_
  refine R_iconst fX0_bestReply_24 ?_
  refine R_istore fX0_bestReply_25 rfl ?_
  refine lp 200 0 _ _ _ _ _ (by omega) (by omega) (fun _ => ⟨rfl, rfl⟩) (fun z => by omega) (fun q a b c => ?_) (fun k k0 k1 => ?_) (by omega)
  · rw [cpF_in _ (by omega), show 0 + (q - 0) = q by omega]
    exact (rp q a b).2.2.1
  · exact cpF_kr _ k1
