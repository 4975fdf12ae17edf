def othF (s : Int → Int) (p : Int) : Int → Int := fun q => if q ≠ p ∧ 0 ≤ s (126 + 6 * q + 2) then 1 else 0
theorem oth_in {s : Int → Int} {p : Int} : ∀ n : Nat, 0 ≤ sg (othF s p) n ∧ sg (othF s p) n ≤ n
  | 0 => by simp [sg]
  | n + 1 => by
    have h := oth_in (s := s) (p := p) n
    show 0 ≤ sg (othF s p) n + othF s p n ∧ sg (othF s p) n + othF s p n ≤ ((n + 1 : Nat) : Int)
    have h2 : othF s p n = 0 ∨ othF s p n = 1 := by unfold othF; split <;> simp
    omega
/-- all the others have bids -/
theorem oth_all {s : Int → Int} (hw : WF s) {p : Int} (hp : 0 ≤ p ∧ p < s 0) : cI (∀ q, 0 ≤ q → q < s 0 → q ≠ p → s (126 + 6 * q + 2) ≠ -1) = 0 ↔ sg (othF s p) (s 0).toNat < s 0 - 1 := by
  have h0 := hw.1
  have w3 := hw.2.2.2.1
  have hb := sg_but (c := 1) (w := p) (n := (s 0).toNat) hp.1 (by omega)
  have hn : (((s 0).toNat : Nat) : Int) = s 0 := by omega
  rw [hn] at hb
  constructor
  · intro h
    have h1 := cI_0 h
    by_cases z : sg (othF s p) (s 0).toNat < s 0 - 1
    · exact z
    · exfalso
      apply h1
      intro q q0 q1 qp hq
      have e := sg_plus (f := othF s p) (g := fun i => (if i = p then 0 else 1) - othF s p i) (n := (s 0).toNat)
      have e2 : sg (fun i => othF s p i + ((if i = p then 0 else 1) - othF s p i)) (s 0).toNat = sg (fun i => if i = p then 0 else 1) (s 0).toNat := sg_congr (fun i _ _ => by omega)
      have e3 := sg_one (f := fun i => (if i = p then 0 else 1) - othF s p i) (n := (s 0).toNat) (p := q) (fun i a b => by
        show 0 ≤ (if i = p then 0 else 1) - othF s p i
        unfold othF
        by_cases y : i = p
        · rw [if_pos y, if_neg (fun x => x.1 y)]; omega
        · rw [if_neg y]; split <;> omega) q0 (by omega)
      have e4 : (if q = p then (0 : Int) else 1) - othF s p q = 1 := by
        unfold othF
        rw [if_neg qp, if_neg (fun x => by have := x.2; omega)]; omega
      rw [e4] at e3
      omega
  · intro h
    refine cI_f (fun z => ?_)
    have e : sg (othF s p) (s 0).toNat = sg (fun i => if i = p then 0 else 1) (s 0).toNat := sg_congr (fun i a b => by
      unfold othF
      by_cases y : i = p
      · rw [if_pos y, if_neg (fun x => x.1 y)]
      · have x1 := z i a (by omega) y
        have x2 := w3 i a (by omega)
        rw [if_neg y, if_pos ⟨y, by omega⟩])
    omega
theorem Zr_bidS {s : Int → Int} {p b : Int} (hp : 0 ≤ p ∧ p < s 0) (hw : WF s) (h : Zr s) : Zr (bidS s p b) := fun j hj => by
  have := hw.1
  rw [bid_o (by omega)]; exact h j hj
theorem Zr_resS {s : Int → Int} (hw : WF s) (hb : BD s) (h4 : 1 ≤ s 4) (h : Zr s) : Zr (resS s) := fun j hj => by
  have w1 := hw.2.1
  rcases hj with a | a
  · rw [res_lo hw hb (by omega) (by omega) (by omega)]
    unfold r1S keepsS laysS
    rw [if_neg (by omega), if_neg (by omega), if_neg (by omega), if_neg (by omega), if_neg (by omega), if_neg (by omega), if_neg (by omega), if_neg (by omega), if_neg (by omega), if_neg (by omega), if_neg (by omega), if_neg (by omega), if_neg (by omega)]
    exact h j (Or.inl a)
  · rw [res_hi hw hb (by omega), r1_tabo hw (by omega) (by omega)]
    exact h j (Or.inr a)
theorem rpS_b {s : Int → Int} {p b : Int} (hw : WF s) (h4 : 1 ≤ s 4) : -400 ≤ rpS s p b ∧ rpS s p b ≤ 400 := by
  have hst := stake_b hw h4
  unfold rpS
  split <;> omega
theorem reply_facts {s : Int → Int} {p i : Int} (hw : WF s) (zs : Zr s) (h4 : 1 ≤ s 4) (hp : 0 ≤ p ∧ p < s 0) (hq : ∀ q, 0 ≤ q → q < s 0 → q ≠ p → s (126 + 6 * q + 2) ≠ -1) (hi : 0 ≤ i ∧ i ≤ s (126 + 6 * p)) : WF (bidS s p i) ∧ BD (bidS s p i) ∧ (-1 ≤ wnS (bidS s p i) ∧ wnS (bidS s p i) < s 0) ∧ resS (bidS s p i) (126 + 6 * p) = rcS s p i ∧ resS (bidS s p i) (126 + 6 * p + 1) = s (126 + 6 * p + 1) + rpS s p i ∧ 0 ≤ rcS s p i ∧ (-400 ≤ rpS s p i ∧ rpS s p i ≤ 400) ∧ Zr (resS (bidS s p i)) := by
  have hwb : WF (bidS s p i) := WF_bid hw hp (by omega)
  have e0 : bidS s p i 0 = s 0 := bid_o (by omega)
  have w3 := hw.2.2.2.1
  have h0 := hw.1
  have h2 := hw.2.2.2.2.2.2.2.2.2.2.2.1
  have h12 := hw.2.2.2.2.2.2.2.2.2.2.2.2.1 p (by omega) (by omega)
  have hst := stake_b hw h4
  have hbd : BD (bidS s p i) := fun q a b => by
    show 0 ≤ bidS s p i (126 + 6 * q + 2)
    rw [e0] at b
    by_cases hqp : q = p
    · rw [hqp, bid_v]; exact hi.1
    · rw [bid_o (by omega)]
      have x1 := hq q a b hqp
      have x2 := w3 q a (by omega)
      omega
  have hfe := FE_b hwb hbd p hp.1 (by rw [e0]; exact hp.2)
  rw [bid_o (by omega)] at hfe
  have hgo := GO_b hwb hbd p
  have hwn := wnS_in hwb
  rw [e0] at hwn
  have hpl := res_pl hwb hbd hp.1 (by rw [e0]; exact hp.2)
  have htb : tabS (bidS s p i) = tabS s := tabS_congr (bid_o (by omega)) (fun k a b => bid_o (by omega))
  have hx : wr (s (126 + 6 * p + 1) + (tabS s + s 5)) = s (126 + 6 * p + 1) + (tabS s + s 5) := wr_id (by unfold inb; omega)
  have hrb := rpS_b (p := p) (b := i) hw h4
  refine ⟨hwb, hbd, hwn, ?_, ?_, ?_, hrb, Zr_resS hwb hbd (by rw [bid_o (by omega)]; exact h4) (Zr_bidS hp hw zs)⟩
  · rw [hpl.1, bid_o (by omega)]; rfl
  · rw [hpl.2.1, htb, bid_o (j := 126 + 6 * p + 1) (by omega), bid_o (j := 5) (by omega), hx]
    unfold rpS
    by_cases y : wnS (bidS s p i) = p
    · rw [if_pos y.symm, if_pos y]
    · rw [if_neg (fun x => y x.symm), if_neg y]; omega
  · unfold rcS; omega
set_option maxHeartbeats 4000000 in
theorem sp_mreply {d : Nat} {kd : KL} {F : FM} {P : PM} {s : Int → Int} {p : Int} (hd : 5 ≤ d) (hM : shM kd P) (hw : WF s) (h126 : F 129 = s) (zs : Zr s) (z129 : Zr (F 132)) : Sp d 117 [.inr (some 128), .inl p] kd F P (QV kd P (fun r F' => r = aReply s p ∧ F' 129 = s ∧ Zr (F' 132) ∧ ∀ k, k ≠ 129 → k ≠ 132 → F' k = F k)) := by
  refine Sp_of (me := mX8_reply) (by omega) pX8_reply ⟨rfl, Nat.le_of_ble_eq_true rfl⟩ ?_
  obtain ⟨w0, w1, w2, w3, w4, w5, w6, w7, w8, w9, w10, w11, w12, w13⟩ := id hw
  have lp : ∀ (N : Nat) (i pt co : Int) (j2 j7 j8 : Option AV) (G : FM), 1 ≤ s 4 → (0 ≤ p ∧ p < s 0) → (∀ q, 0 ≤ q → q < s 0 → q ≠ p → s (126 + 6 * q + 2) ≠ -1) → 0 ≤ i → i ≤ s (126 + 6 * p) + 1 → (i = 0 → pt = 0 ∧ co = -1) → (1 ≤ i → pt = s (126 + 6 * p + 1) + rpS s p (ldS (rpS s p) (rcS s p) i.toNat) ∧ co = rcS s p (ldS (rpS s p) (rcS s p) i.toNat) ∧ 0 ≤ co) → G 132 = s → Zr (G 129) → (∀ k, k ≠ 129 → k ≠ 132 → G k = F k) → s (126 + 6 * p) + 1 - i < N → Rn (d - 1) mX8_reply 99 [some (.inr (some 128)), some (.inl p), j2, some (.inl (ldS (rpS s p) (rcS s p) i.toNat)), some (.inl pt), some (.inl co), some (.inl i), j7, j8] [] kd G P (QV kd P (fun r F' => r = aReply s p ∧ F' 129 = s ∧ Zr (F' 132) ∧ ∀ k, k ≠ 129 → k ≠ 132 → F' k = F k)) := by
    intro N
    induction N with
    | zero => intro i pt co j2 j7 j8 G h4 hp hq h0 h1 h2 h3 g129 zg hfr h8; omega
    | succ N ih =>
      intro i pt co j2 j7 j8 G h4 hp hq h0 h1 h2 h3 g129 zg hfr h8
      have hcp := w3 p (by omega) (by omega)
      have hst := stake_b hw h4
      have w2' := w12 p (by omega) (by omega)
      refine R_iload fX8_reply_99 rfl ?_
      refine R_aload_n fX8_reply_101 rfl ?_
      refine R_getP 3 fX8_reply_102 hM.1 (by omega) rfl rfl rfl hM.2.2.2.2.2.2.2.2.2.2.2.1 ?_
      refine R_bipush fX8_reply_105 ?_
      refine R_bipush fX8_reply_107 ?_
      refine R_iload_n fX8_reply_109 rfl ?_
      refine R_imul fX8_reply_110 (by omega) ?_
      refine R_iadd fX8_reply_111 (by omega) ?_
      refine R_iconst fX8_reply_112 ?_
      refine R_iadd fX8_reply_113 (by omega) ?_
      refine R_iaload fX8_reply_114 hM.2.2.2.2.1 (by omega) ?_
      rw [Int.add_zero, g129]
      refine R_icmp_gt fX8_reply_115 rfl (fun h115 => ?_) (fun h115 => ?_)
      · refine R_aload_n fX8_reply_219 rfl ?_
        refine R_getP 3 fX8_reply_220 hM.1 (by omega) rfl rfl rfl hM.2.2.2.2.2.2.2.2.2.2.2.1 ?_
        refine R_aload_n fX8_reply_223 rfl ?_
        refine R_getP 0 fX8_reply_224 hM.1 (by omega) rfl rfl rfl hM.2.2.2.2.2.2.2.2.1 ?_
        refine R_callN fX8_reply_227 rfl rfl pX8_copies rfl ⟨Nat.le_of_ble_eq_true rfl, rfl⟩ (sp_mcopies (by omega) hM.2.2.2.2.1 hM.2.1 (by omega) (by omega) (by rw [g129]; exact zs) zg) (fun F1 e1 => ?_)
        refine R_iload_n fX8_reply_230 rfl ?_
        refine R_ireturn fX8_reply_231 rfl ?_
        have hi : i = s (126 + 6 * p) + 1 := by omega
        subst hi
        have hno : ¬ (s 4 = 0 ∨ cI (∀ q, 0 ≤ q → q < s 0 → q ≠ p → s (126 + 6 * q + 2) ≠ -1) = 0) := by
          rw [cI_t hq]; omega
        refine ⟨_, _, rfl, ?_, ?_, ?_, fun k a b => ?_⟩
        · unfold aReply; rw [if_neg (fun y => y hp), if_neg hno]
        · rw [e1, setr_eq]; exact g129
        · rw [e1, setr_ne _ _ (by omega), g129]; exact zs
        · rw [e1, setr_ne _ _ a]; exact hfr k a b
      · refine R_aload_n fX8_reply_118 rfl ?_
        refine R_getP 3 fX8_reply_119 hM.1 (by omega) rfl rfl rfl hM.2.2.2.2.2.2.2.2.2.2.2.1 ?_
        refine R_aload_n fX8_reply_122 rfl ?_
        refine R_getP 0 fX8_reply_123 hM.1 (by omega) rfl rfl rfl hM.2.2.2.2.2.2.2.2.1 ?_
        refine R_callN fX8_reply_126 rfl rfl pX8_copies rfl ⟨Nat.le_of_ble_eq_true rfl, rfl⟩ (sp_mcopies (by omega) hM.2.2.2.2.1 hM.2.1 (by omega) (by omega) (by rw [g129]; exact zs) zg) (fun F1 e1 => ?_)
        rw [g129] at e1
        subst e1
        obtain ⟨hwb, hbd, hwn, hco, hpt, hco0, hrb, hzr⟩ := reply_facts hw zs h4 hp hq (i := i) ⟨h0, by omega⟩
        have hrb2 := rpS_b (p := p) (b := ldS (rpS s p) (rcS s p) i.toNat) hw h4
        refine R_aload_n fX8_reply_129 rfl ?_
        refine R_getP 0 fX8_reply_130 hM.1 (by omega) rfl rfl rfl hM.2.2.2.2.2.2.2.2.1 ?_
        refine R_bipush fX8_reply_133 ?_
        refine R_bipush fX8_reply_135 ?_
        refine R_iload_n fX8_reply_137 rfl ?_
        refine R_imul fX8_reply_138 (by omega) ?_
        refine R_iadd fX8_reply_139 (by omega) ?_
        refine R_iconst fX8_reply_140 ?_
        refine R_iadd fX8_reply_141 (by omega) ?_
        refine R_iload fX8_reply_142 rfl ?_
        refine R_iastore fX8_reply_144 hM.2.1 (by omega) (by omega) ?_
        rw [stt_setr, show up s (126 + 6 * p + 2) i = bidS s p i from rfl]
        refine R_aload_n fX8_reply_145 rfl ?_
        refine R_callV fX8_reply_146 rfl rfl pX8_resolves rfl ⟨Nat.le_of_ble_eq_true rfl, rcv_v rfl (by omega) hM.1⟩ (sp_mresolves (by omega) hM hwb hbd (by rw [bid_o (by omega)]; exact h4)) (fun r F2 z => ?_)
        obtain ⟨z0, z1⟩ := z
        subst z0
        subst z1
        have hptb : -9000000 ≤ pt ∧ pt ≤ 9000000 := by
          by_cases y : i = 0
          · have := (h2 y).1; omega
          · have x := (h3 (by omega)).1
            omega
        refine R_istore fX8_reply_149 rfl ?_
        refine R_aload_n fX8_reply_151 rfl ?_
        refine R_iload_n fX8_reply_152 rfl ?_
        refine R_iconst fX8_reply_153 ?_
        refine R_callE fX8_reply_154 rfl rfl pX8_of rfl ⟨Nat.le_of_ble_eq_true rfl, rcv_v rfl (by omega) hM.1⟩ (sp_mof (by omega) hM (by omega) (by omega)) ?_
        rw [hpt]
        refine R_iload fX8_reply_157 rfl ?_
        refine R_isub fX8_reply_159 (by omega) ?_
        refine R_istore fX8_reply_160 rfl ?_
        refine R_iload fX8_reply_162 rfl ?_
        refine R_iconst fX8_reply_164 ?_
        refine R_icmp_ge fX8_reply_165 rfl (fun h165 => absurd h165 (by omega)) (fun h165 => ?_)
        refine R_iload fX8_reply_168 rfl ?_
        refine R_if_lt fX8_reply_170 rfl (fun h170 => ?_) (fun h170 => ?_)
        · refine R_iload fX8_reply_194 rfl ?_
          refine R_istore_n fX8_reply_196 rfl ?_
          refine R_aload_n fX8_reply_197 rfl ?_
          refine R_iload_n fX8_reply_198 rfl ?_
          refine R_iconst fX8_reply_199 ?_
          refine R_callE fX8_reply_200 rfl rfl pX8_of rfl ⟨Nat.le_of_ble_eq_true rfl, rcv_v rfl (by omega) hM.1⟩ (sp_mof (by omega) hM (by omega) (by omega)) ?_
          rw [hpt]
          refine R_istore fX8_reply_203 rfl ?_
          refine R_aload_n fX8_reply_205 rfl ?_
          refine R_iload_n fX8_reply_206 rfl ?_
          refine R_iconst fX8_reply_207 ?_
          refine R_callE fX8_reply_208 rfl rfl pX8_of rfl ⟨Nat.le_of_ble_eq_true rfl, rcv_v rfl (by omega) hM.1⟩ (sp_mof (by omega) hM (by omega) (by omega)) ?_
          rw [Int.add_zero, hco]
          refine R_istore fX8_reply_211 rfl ?_
          refine R_iinc fX8_reply_213 rfl (by omega) ?_
          refine R_goto fX8_reply_216 rfl ?_
          clear w0 w1 w2 w4 w7 w8 w11 hst w2' hwn hrb hrb2 hptb
          have hi0 : i = 0 := by
            by_cases z : i = 0
            · exact z
            · have := (h3 (by omega)).2.2; omega
          have hm1 := (h2 hi0).1
          clear h2 h3
          subst hi0
          have l1 : ldS (rpS s p) (rcS s p) (0 + 1 : Int).toNat = 0 := rfl
          refine (?_ : Rn (d - 1) _ 99 [_, _, _, some (.inl 0), _, _, _, _, _] [] kd _ P _)
          rw [show (some (Sum.inl 0) : Option AV) = some (.inl (ldS (rpS s p) (rcS s p) (0 + 1 : Int).toNat)) by rw [l1]]
          exact ih (0 + 1) _ _ _ _ _ _ h4 hp hq (by omega) (by omega) (fun z => by omega) (fun _ => by rw [l1]; exact ⟨rfl, rfl, hco0⟩) (by rw [setr_ne _ _ (by omega)]; exact g129) (by rw [setr_eq]; exact hzr) (fun k a b => by rw [setr_ne _ _ a]; exact hfr k a b) (by omega)
        · refine R_iload fX8_reply_173 rfl ?_
          refine R_if_gt fX8_reply_175 rfl (fun h175 => ?_) (fun h175 => ?_)
          · refine R_iload fX8_reply_194 rfl ?_
            refine R_istore_n fX8_reply_196 rfl ?_
            refine R_aload_n fX8_reply_197 rfl ?_
            refine R_iload_n fX8_reply_198 rfl ?_
            refine R_iconst fX8_reply_199 ?_
            refine R_callE fX8_reply_200 rfl rfl pX8_of rfl ⟨Nat.le_of_ble_eq_true rfl, rcv_v rfl (by omega) hM.1⟩ (sp_mof (by omega) hM (by omega) (by omega)) ?_
            rw [hpt]
            refine R_istore fX8_reply_203 rfl ?_
            refine R_aload_n fX8_reply_205 rfl ?_
            refine R_iload_n fX8_reply_206 rfl ?_
            refine R_iconst fX8_reply_207 ?_
            refine R_callE fX8_reply_208 rfl rfl pX8_of rfl ⟨Nat.le_of_ble_eq_true rfl, rcv_v rfl (by omega) hM.1⟩ (sp_mof (by omega) hM (by omega) (by omega)) ?_
            rw [Int.add_zero, hco]
            refine R_istore fX8_reply_211 rfl ?_
            refine R_iinc fX8_reply_213 rfl (by omega) ?_
            refine R_goto fX8_reply_216 rfl ?_
            clear w0 w1 w2 w4 w7 w8 w11 hst w2' hwn hrb hrb2 hptb
            have hi1 : 1 ≤ i := by
              by_cases z : i = 0
              · have := (h2 z).2; omega
              · omega
            obtain ⟨hm1, hm2, hm3⟩ := h3 hi1
            clear h2 h3
            have hs := ldS_s (pt := rpS s p) (co := rcS s p) (i := i) hi1
            rw [if_pos (by omega)] at hs
            refine (?_ : Rn (d - 1) _ 99 [_, _, _, some (.inl i), _, _, _, _, _] [] kd _ P _)
            rw [show (some (Sum.inl i) : Option AV) = some (.inl (ldS (rpS s p) (rcS s p) (i + 1).toNat)) by rw [hs]]
            exact ih _ _ _ _ _ _ _ h4 hp hq (by omega) (by omega) (fun z => by omega) (fun _ => by rw [hs]; exact ⟨rfl, rfl, hco0⟩) (by rw [setr_ne _ _ (by omega)]; exact g129) (by rw [setr_eq]; exact hzr) (fun k a b => by rw [setr_ne _ _ a]; exact hfr k a b) (by omega)
          · refine R_iload fX8_reply_178 rfl ?_
            refine R_if_ne fX8_reply_180 rfl (fun h180 => ?_) (fun h180 => ?_)
            · refine R_iinc fX8_reply_213 rfl (by omega) ?_
              refine R_goto fX8_reply_216 rfl ?_
              clear w0 w1 w2 w4 w7 w8 w11 hst w2' hwn hrb hrb2 hptb
              have hi1 : 1 ≤ i := by
                by_cases z : i = 0
                · have := (h2 z).2; omega
                · omega
              obtain ⟨hm1, hm2, hm3⟩ := h3 hi1
              clear h2 h3
              have hs := ldS_s (pt := rpS s p) (co := rcS s p) (i := i) hi1
              rw [if_neg (by omega)] at hs
              rw [← hs]
              exact ih _ _ _ _ _ _ _ h4 hp hq (by omega) (by omega) (fun z => by omega) (fun _ => by rw [hs]; exact ⟨hm1, hm2, hm3⟩) (by rw [setr_ne _ _ (by omega)]; exact g129) (by rw [setr_eq]; exact hzr) (fun k a b => by rw [setr_ne _ _ a]; exact hfr k a b) (by omega)
            · refine R_aload_n fX8_reply_183 rfl ?_
              refine R_iload_n fX8_reply_184 rfl ?_
              refine R_iconst fX8_reply_185 ?_
              refine R_callE fX8_reply_186 rfl rfl pX8_of rfl ⟨Nat.le_of_ble_eq_true rfl, rcv_v rfl (by omega) hM.1⟩ (sp_mof (by omega) hM (by omega) (by omega)) ?_
              rw [Int.add_zero, hco]
              refine R_iload fX8_reply_189 rfl ?_
              refine R_icmp_le fX8_reply_191 rfl (fun h191 => ?_) (fun h191 => ?_)
              · refine R_iinc fX8_reply_213 rfl (by omega) ?_
                refine R_goto fX8_reply_216 rfl ?_
                clear w0 w1 w2 w4 w7 w8 w11 hst w2' hwn hrb hrb2 hptb
                have hi1 : 1 ≤ i := by
                  by_cases z : i = 0
                  · have := (h2 z).2; omega
                  · omega
                obtain ⟨hm1, hm2, hm3⟩ := h3 hi1
                clear h2 h3
                have hs := ldS_s (pt := rpS s p) (co := rcS s p) (i := i) hi1
                rw [if_neg (by omega)] at hs
                rw [← hs]
                exact ih _ _ _ _ _ _ _ h4 hp hq (by omega) (by omega) (fun z => by omega) (fun _ => by rw [hs]; exact ⟨hm1, hm2, hm3⟩) (by rw [setr_ne _ _ (by omega)]; exact g129) (by rw [setr_eq]; exact hzr) (fun k a b => by rw [setr_ne _ _ a]; exact hfr k a b) (by omega)
              · refine R_iload fX8_reply_194 rfl ?_
                refine R_istore_n fX8_reply_196 rfl ?_
                refine R_aload_n fX8_reply_197 rfl ?_
                refine R_iload_n fX8_reply_198 rfl ?_
                refine R_iconst fX8_reply_199 ?_
                refine R_callE fX8_reply_200 rfl rfl pX8_of rfl ⟨Nat.le_of_ble_eq_true rfl, rcv_v rfl (by omega) hM.1⟩ (sp_mof (by omega) hM (by omega) (by omega)) ?_
                rw [hpt]
                refine R_istore fX8_reply_203 rfl ?_
                refine R_aload_n fX8_reply_205 rfl ?_
                refine R_iload_n fX8_reply_206 rfl ?_
                refine R_iconst fX8_reply_207 ?_
                refine R_callE fX8_reply_208 rfl rfl pX8_of rfl ⟨Nat.le_of_ble_eq_true rfl, rcv_v rfl (by omega) hM.1⟩ (sp_mof (by omega) hM (by omega) (by omega)) ?_
                rw [Int.add_zero, hco]
                refine R_istore fX8_reply_211 rfl ?_
                refine R_iinc fX8_reply_213 rfl (by omega) ?_
                refine R_goto fX8_reply_216 rfl ?_
                clear w0 w1 w2 w4 w7 w8 w11 hst w2' hwn hrb hrb2 hptb
                have hi1 : 1 ≤ i := by
                  by_cases z : i = 0
                  · have := (h2 z).2; omega
                  · omega
                obtain ⟨hm1, hm2, hm3⟩ := h3 hi1
                clear h2 h3
                have hs := ldS_s (pt := rpS s p) (co := rcS s p) (i := i) hi1
                rw [if_pos (by omega)] at hs
                refine (?_ : Rn (d - 1) _ 99 [_, _, _, some (.inl i), _, _, _, _, _] [] kd _ P _)
                rw [show (some (Sum.inl i) : Option AV) = some (.inl (ldS (rpS s p) (rcS s p) (i + 1).toNat)) by rw [hs]]
                exact ih _ _ _ _ _ _ _ h4 hp hq (by omega) (by omega) (fun z => by omega) (fun _ => by rw [hs]; exact ⟨rfl, rfl, hco0⟩) (by rw [setr_ne _ _ (by omega)]; exact g129) (by rw [setr_eq]; exact hzr) (fun k a b => by rw [setr_ne _ _ a]; exact hfr k a b) (by omega)
  have oc : ∀ (N : Nat) (i : Int), (0 ≤ p ∧ p < s 0) → 0 ≤ i → i ≤ s 0 → s 0 - i < N → Rn (d - 1) mX8_reply 15 [some (.inr (some 128)), some (.inl p), some (.inl (sg (othF s p) i.toNat)), some (.inl i), none, none, none, none, none] [] kd F P (QV kd P (fun r F' => r = aReply s p ∧ F' 129 = s ∧ Zr (F' 132) ∧ ∀ k, k ≠ 129 → k ≠ 132 → F' k = F k)) := by
    intro N
    induction N with
    | zero => intro i hp h0 h1 h2; omega
    | succ N ih =>
      intro i hp h0 h1 h2
      have hoi := oth_in (s := s) (p := p) i.toNat
      have hall := oth_all hw hp
      have hs := sg_s (f := othF s p) h0
      refine R_iload_n fX8_reply_15 rfl ?_
      refine R_aload_n fX8_reply_16 rfl ?_
      refine R_getP 0 fX8_reply_17 hM.1 (by omega) rfl rfl rfl hM.2.2.2.2.2.2.2.2.1 ?_
      refine R_iconst fX8_reply_20 ?_
      refine R_iaload fX8_reply_21 hM.2.1 (by omega) ?_
      rw [h126]
      refine R_icmp_ge fX8_reply_22 rfl (fun h22 => ?_) (fun h22 => ?_)
      · refine R_aload_n fX8_reply_53 rfl ?_
        refine R_getP 0 fX8_reply_54 hM.1 (by omega) rfl rfl rfl hM.2.2.2.2.2.2.2.2.1 ?_
        refine R_iconst fX8_reply_57 ?_
        refine R_iaload fX8_reply_58 hM.2.1 (by omega) ?_
        rw [h126]
        refine R_if_eq fX8_reply_59 rfl (fun h59 => ?_) (fun h59 => ?_)
        · refine R_ldc fX8_reply_74 ?_
          refine R_ireturn fX8_reply_76 rfl ?_
          have hi : i = s 0 := by omega
          subst hi
          refine ⟨_, _, rfl, ?_, h126, z129, fun _ _ _ => rfl⟩
          unfold aReply
          rw [if_neg (fun y => y hp), if_pos]
          first
          | exact Or.inl (by omega)
          | exact Or.inr (hall.mpr (by omega))
        · refine R_iload_n fX8_reply_62 rfl ?_
          refine R_aload_n fX8_reply_63 rfl ?_
          refine R_getP 0 fX8_reply_64 hM.1 (by omega) rfl rfl rfl hM.2.2.2.2.2.2.2.2.1 ?_
          refine R_iconst fX8_reply_67 ?_
          refine R_iaload fX8_reply_68 hM.2.1 (by omega) ?_
          rw [h126]
          refine R_iconst fX8_reply_69 ?_
          refine R_isub fX8_reply_70 (by omega) ?_
          refine R_icmp_ge fX8_reply_71 rfl (fun h71 => ?_) (fun h71 => ?_)
          · refine R_aload_n fX8_reply_77 rfl ?_
            refine R_getP 0 fX8_reply_78 hM.1 (by omega) rfl rfl rfl hM.2.2.2.2.2.2.2.2.1 ?_
            refine R_aload_n fX8_reply_81 rfl ?_
            refine R_getP 3 fX8_reply_82 hM.1 (by omega) rfl rfl rfl hM.2.2.2.2.2.2.2.2.2.2.2.1 ?_
            have hi : i = s 0 := by omega
            subst hi
            have hq : ∀ q, 0 ≤ q → q < s 0 → q ≠ p → s (126 + 6 * q + 2) ≠ -1 := by
              refine Classical.byContradiction (fun y => ?_)
              have := hall.mp (cI_f y)
              omega
            refine R_callN fX8_reply_85 rfl rfl pX8_copies rfl ⟨Nat.le_of_ble_eq_true rfl, rfl⟩ (sp_mcopies (by omega) hM.2.1 hM.2.2.2.2.1 (by omega) (by omega) (by rw [h126]; exact zs) z129) (fun F1 e1 => ?_)
            refine R_iconst fX8_reply_88 ?_
            refine R_istore_n fX8_reply_89 rfl ?_
            refine R_iconst fX8_reply_90 ?_
            refine R_istore fX8_reply_91 rfl ?_
            refine R_iconst fX8_reply_93 ?_
            refine R_istore fX8_reply_94 rfl ?_
            refine R_iconst fX8_reply_96 ?_
            refine R_istore fX8_reply_97 rfl ?_
            exact lp 200 0 0 (-1) _ _ _ F1 (by omega) hp hq (by omega) (by have := w3 p (by omega) (by omega); omega) (fun _ => ⟨rfl, rfl⟩) (fun z => by omega) (by rw [e1, setr_eq]; exact h126) (by rw [e1, setr_ne _ _ (by omega), h126]; exact zs) (fun k a b => by rw [e1, setr_ne _ _ b]) (by have := w3 p (by omega) (by omega); omega)
          · refine R_ldc fX8_reply_74 ?_
            refine R_ireturn fX8_reply_76 rfl ?_
            have hi : i = s 0 := by omega
            subst hi
            refine ⟨_, _, rfl, ?_, h126, z129, fun _ _ _ => rfl⟩
            unfold aReply
            rw [if_neg (fun y => y hp), if_pos]
            first
            | exact Or.inl (by omega)
            | exact Or.inr (hall.mpr (by omega))
      · refine R_iload_n fX8_reply_25 rfl ?_
        refine R_iload_n fX8_reply_26 rfl ?_
        refine R_iload_n fX8_reply_27 rfl ?_
        refine R_icmp_eq fX8_reply_28 rfl (fun h28 => ?_) (fun h28 => ?_)
        · refine R_iconst fX8_reply_44 ?_
          refine R_iadd fX8_reply_45 (by omega) ?_
          refine R_istore_n fX8_reply_46 rfl ?_
          refine R_iinc fX8_reply_47 rfl (by omega) ?_
          refine R_goto fX8_reply_50 rfl ?_
          have ho : othF s p i = if i ≠ p ∧ 0 ≤ s (126 + 6 * i + 2) then 1 else 0 := rfl
          first
          | rw [if_pos (by omega)] at ho
          | rw [if_neg (by omega)] at ho
          have h := ih (i + 1) hp (by omega) (by omega) (by omega)
          rw [hs, ho] at h
          first
          | exact h
          | (rw [Int.add_zero] at h; exact h)
        · refine R_aload_n fX8_reply_31 rfl ?_
          refine R_iload_n fX8_reply_32 rfl ?_
          refine R_iconst fX8_reply_33 ?_
          rw [setr_me h126]
          refine R_callE fX8_reply_34 rfl rfl pX8_of rfl ⟨Nat.le_of_ble_eq_true rfl, rcv_v rfl (by omega) hM.1⟩ (sp_mof (by omega) hM (by omega) (by omega)) ?_
          rw [← setr_me h126]
          refine R_if_lt fX8_reply_37 rfl (fun h37 => ?_) (fun h37 => ?_)
          · refine R_iconst fX8_reply_44 ?_
            refine R_iadd fX8_reply_45 (by omega) ?_
            refine R_istore_n fX8_reply_46 rfl ?_
            refine R_iinc fX8_reply_47 rfl (by omega) ?_
            refine R_goto fX8_reply_50 rfl ?_
            have ho : othF s p i = if i ≠ p ∧ 0 ≤ s (126 + 6 * i + 2) then 1 else 0 := rfl
            first
            | rw [if_pos (by omega)] at ho
            | rw [if_neg (by omega)] at ho
            have h := ih (i + 1) hp (by omega) (by omega) (by omega)
            rw [hs, ho] at h
            first
            | exact h
            | (rw [Int.add_zero] at h; exact h)
          · refine R_iconst fX8_reply_40 ?_
            refine R_goto fX8_reply_41 rfl ?_
            refine R_iadd fX8_reply_45 (by omega) ?_
            refine R_istore_n fX8_reply_46 rfl ?_
            refine R_iinc fX8_reply_47 rfl (by omega) ?_
            refine R_goto fX8_reply_50 rfl ?_
            have ho : othF s p i = if i ≠ p ∧ 0 ≤ s (126 + 6 * i + 2) then 1 else 0 := rfl
            first
            | rw [if_pos (by omega)] at ho
            | rw [if_neg (by omega)] at ho
            have h := ih (i + 1) hp (by omega) (by omega) (by omega)
            rw [hs, ho] at h
            first
            | exact h
            | (rw [Int.add_zero] at h; exact h)
  refine R_aload_n fX8_reply_0 rfl ?_
  refine R_iload_n fX8_reply_1 rfl ?_
  rw [setr_me h126]
  refine R_callE fX8_reply_2 rfl rfl pX8_isPlayer rfl ⟨Nat.le_of_ble_eq_true rfl, rcv_v rfl (by omega) hM.1⟩ (sp_misPlayer (by omega) hM) ?_
  rw [← setr_me h126]
  refine R_if_ne fX8_reply_5 rfl (fun h5 => ?_) (fun h5 => ?_)
  · refine R_iconst fX8_reply_11 ?_
    refine R_istore_n fX8_reply_12 rfl ?_
    refine R_iconst fX8_reply_13 ?_
    refine R_istore_n fX8_reply_14 rfl ?_
    have hp : 0 ≤ p ∧ p < s 0 := by
      by_cases z : 0 ≤ p ∧ p < s 0
      · exact z
      · rw [if_neg z] at h5; omega
    exact oc 100 0 hp (by omega) (by omega) (by omega)
  · refine R_ldc fX8_reply_8 ?_
    refine R_ireturn fX8_reply_10 rfl ?_
    have hp : ¬ (0 ≤ p ∧ p < s 0) := fun z => by rw [if_pos z] at h5; omega
    exact ⟨_, _, rfl, by unfold aReply; rw [if_pos hp], h126, z129, fun _ _ _ => rfl⟩
theorem sp_rreply {d : Nat} {kd : KL} {F : FM} {P : PM} {s : Int → Int} {m : Int} {σ : Int → Int → Int} {hs : Int} {sn : Int → Int} {n : Int} {c : Int → Int} {p : Int} (hd : 5 ≤ d) (hM : shM kd P) (hW : RWl F s m σ hs sn n c) (hA : AW s m σ hs sn n)  : Sp d 117 [.inr (some 128), .inl p] kd F P (QV kd P (fun r F' => r = aReply s p ∧ RWl F' s m σ hs sn n c ∧ ∀ k, k < 128 → F' k = F k)) := by
  obtain ⟨r1, r2, r3, r4, r5, r6, r7, r8, z1, z2, z3, z4⟩ := id hW
  have zs : Zr s := by rw [← r1]; exact z1
  refine (sp_mreply (p := p) hd hM hA.1 r1 zs z3).mono (fun rs q => ?_)
  obtain ⟨r, F', e, q1, q2, q3, q4⟩ := q
  have f125 := q4 128 (by omega) (by omega)
  exact ⟨r, F', e, q1, RW_fr hW (by rw [f125]) (by rw [f125]) (by rw [f125]) (by rw [f125]; exact r8) (q4 130 (by omega) (by omega)) (q4 133 (by omega) (by omega)) (q4 134 (by omega) (by omega)) q2 zs (by rw [q4 131 (by omega) (by omega)]; exact z2) q3, fun k hk => q4 k (by omega) (by omega)⟩
