theorem ls_pos {f : Int → Int} {m : Int} : ∀ {n : Nat}, 1 ≤ cnF f m n → 0 ≤ lsF f m n
  | 0, h => by have : cnF f m 0 = 0 := rfl; omega
  | n + 1, h => by
    have h2 : 1 ≤ cnF f m n + (if f n = m then 1 else 0) := h
    unfold lsF
    split
    · omega
    · next z => rw [if_neg z] at h2; exact ls_pos (by omega)
/-- how many have the greatest bid, and who wins -/
theorem win_cases {s : Int → Int} (hw : WF s) (hb : BD s) : (cnF (bdS s) (grF (bdS s) (s 0).toNat) (s 0).toNat = 1 ∧ wnS s = lsF (bdS s) (grF (bdS s) (s 0).toNat) (s 0).toNat ∧ 0 ≤ wnS s) ∨ (2 ≤ cnF (bdS s) (grF (bdS s) (s 0).toNat) (s 0).toNat ∧ wnS s = -1) := by
  have h0 := hw.1
  have hg : 0 ≤ grF (bdS s) (s 0).toNat := by
    have h1 := grF_le (f := bdS s) (n := (s 0).toNat) (p := 0) (by omega) (by omega)
    have h2 := hb 0 (by omega) (by omega)
    omega
  have h1 := cnF_pos (f := bdS s) (n := (s 0).toNat) hg
  by_cases h2 : cnF (bdS s) (grF (bdS s) (s 0).toNat) (s 0).toNat = 1
  · have h3 : wnS s = lsF (bdS s) (grF (bdS s) (s 0).toNat) (s 0).toNat := if_pos h2
    exact Or.inl ⟨h2, h3, by rw [h3]; exact ls_pos (by omega)⟩
  · exact Or.inr ⟨by omega, if_neg h2⟩
theorem inb_rl {s : Int → Int} (hw : WF s) (hb : BD s) (h4 : 1 ≤ s 4) {k : Nat} (hk : (k : Int) ≤ s 0) : ∀ j, inb (rlS (FE s) (oneW (wnS s)) (r1S s) k j) := by
  intro j
  have h0 := hw.1
  have w13 := hw.2.2.2.2.2.2.2.2.2.2.2.2.2
  obtain ⟨a1, a2, a3, a4, a5, a6⟩ := rl_facts (fee := FE s) hw (bd_b hw hb) (FE_b hw hb) k hk
  by_cases z1 : j = 1
  · have h1 := sg_le (n := k) (f := FE s) (g := fun p => s (126 + 6 * p)) (fun i a b => (FE_b hw hb i a (by omega)).2)
    have h2 := sg_bound (f := FE s) (a := 0) (b := 120) (n := k) (fun i a b => by have := FE_b hw hb i a (by omega); have := hw.2.2.2.1 i a (by omega); omega)
    have h3 := sg_bound (f := fun p => s (126 + 6 * p)) (a := 0) (b := 120) (n := (s 0).toNat) (fun i h0 h1 => ⟨(hw.2.2.2.1 i h0 (by omega)).1, (hw.2.2.2.1 i h0 (by omega)).2.1⟩)
    have h5 := hw.2.2.1
    rw [z1, a3]; unfold inb; omega
  · by_cases z2 : j < 126 ∨ 2087 ≤ j
    · rw [a2 j z1 z2]; exact inb_r1 hw h4 j
    · by_cases z3 : 150 ≤ j
      · rw [a1 j z3 (by omega)]; exact (prS_wp hw (bd_b hw hb) k hk).2.1 j
      · obtain ⟨p, c, rfl, p0, p1, c0, c1⟩ := pl_cases (j := j) (by omega) (by omega)
        by_cases hp : p < k
        · have h7 := a4 p p0 hp
          have h8 := FE_b hw hb p p0 (by omega)
          have h9 := hw.2.2.2.1 p p0 p1
          rcases (by omega : c = 0 ∨ c = 4 ∨ (c = 1 ∨ c = 2 ∨ c = 3 ∨ c = 5)) with rfl | rfl | hc
          · rw [Int.add_zero, h7.1]; unfold inb; omega
          · rw [h7.2]; exact inb_wr _
          · rw [a6 p c p0 p1 hc]; exact w13 _
        · have h7 := a5 p (by omega) p1
          rcases (by omega : c = 0 ∨ c = 4 ∨ (c = 1 ∨ c = 2 ∨ c = 3 ∨ c = 5)) with rfl | rfl | hc
          · rw [Int.add_zero, h7.1]; exact w13 _
          · rw [h7.2]; exact w13 _
          · rw [a6 p c p0 p1 hc]; exact w13 _
theorem sp_mresolves {d : Nat} {kd : KL} {F : FM} {P : PM} {s : Int → Int}  (hd : 3 ≤ d) (hM : shM kd P) (hw : WF s) (hb : BD s) (h4 : 1 ≤ s 4) : Sp d 106 [.inr (some 128)] kd (setr F 129 s) P (QV kd P (fun r F' => r = wnS s ∧ F' = setr F 129 (resS s))) := by
  refine Sp_of (me := mX8_resolves) (by omega) pX8_resolves ⟨rfl, Nat.le_of_ble_eq_true rfl⟩ ?_
  obtain ⟨w0, w1, w2, w3, w4, w5, w6, w7, w8, w9, w10, w11, w12, w13⟩ := id hw
  have hwn := wnS_in hw
  have hst := stake_b hw h4
  have hwc := win_cases hw hb
  have hn : (((s 0).toNat : Nat) : Int) = s 0 := by omega
  have hclr : ∀ (N : Nat) (i : Int) (j1 j2 j4 j6 : Option AV) (g : Int → Int), g 0 = s 0 → 0 ≤ i → i ≤ s 0 → s 0 - i < N → Rn (d - 1) mX8_resolves 280 [some (.inr (some 128)), j1, j2, some (.inl (wnS s)), j4, some (.inl i), j6] [] kd (setr F 129 (clrS g i.toNat)) P (QV kd P (fun r F' => r = wnS s ∧ F' = setr F 129 (clrS g (s 0).toNat))) := by
    intro N
    induction N with
    | zero => intro i j1 j2 j4 j6 g g0 h1 h2 h4; omega
    | succ N ih =>
      intro i j1 j2 j4 j6 g g0 h1 h2 h4
      have c0 : clrS g i.toNat 0 = s 0 := by rw [(clr_facts (t := g) i.toNat).2 0 (fun p a b => by omega)]; exact g0
      refine R_iload fX8_resolves_280 rfl ?_
      refine R_aload_n fX8_resolves_282 rfl ?_
      refine R_getP 0 fX8_resolves_283 hM.1 (by omega) rfl rfl rfl hM.2.2.2.2.2.2.2.2.1 ?_
      refine R_iconst fX8_resolves_286 ?_
      refine R_iaload fX8_resolves_287 hM.2.1 (by omega) ?_
      rw [setr_eq]
      refine R_icmp_ge fX8_resolves_288 rfl (fun h288 => ?_) (fun h288 => ?_)
      · refine R_iload_n fX8_resolves_313 rfl ?_
        refine R_ireturn fX8_resolves_314 rfl ?_
        exact ⟨_, _, rfl, rfl, by rw [show i = s 0 by omega]⟩
      · refine R_aload_n fX8_resolves_291 rfl ?_
        refine R_getP 0 fX8_resolves_292 hM.1 (by omega) rfl rfl rfl hM.2.2.2.2.2.2.2.2.1 ?_
        refine R_bipush fX8_resolves_295 ?_
        refine R_bipush fX8_resolves_297 ?_
        refine R_iload fX8_resolves_299 rfl ?_
        refine R_imul fX8_resolves_301 (by omega) ?_
        refine R_iadd fX8_resolves_302 (by omega) ?_
        refine R_iconst fX8_resolves_303 ?_
        refine R_iadd fX8_resolves_304 (by omega) ?_
        refine R_iconst fX8_resolves_305 ?_
        refine R_iastore fX8_resolves_306 hM.2.1 (by omega) (by omega) ?_
        rw [stt_setr]
        refine R_iinc fX8_resolves_307 rfl (by omega) ?_
        refine R_goto fX8_resolves_310 rfl ?_
        have e : up (clrS g i.toNat) (126 + 6 * i + 2) (-1) = clrS g (i + 1).toNat := by
          rw [toN h1]
          show _ = up (clrS g i.toNat) (126 + 6 * ((i.toNat : Nat) : Int) + 2) (-1)
          rw [toC h1]
        rw [e]
        exact ih (i + 1) _ _ _ _ g g0 (by omega) (by omega) (by omega)
  have r2a := r2_all hw hb
  have q0 : r2S s 0 = s 0 := by rw [r2a.2.1 0 (by omega) (by omega), r1_same hw (by omega)]
  have q28 : r2S s 28 = s 28 := by rw [r2a.2.1 28 (by omega) (by omega), r1_same hw (by omega)]
  have hend : ∀ (j1 j2 j5 j6 : Option AV), Rn (d - 1) mX8_resolves 208 [some (.inr (some 128)), j1, j2, some (.inl (wnS s)), some (.inl (tabS s + s 5)), j5, j6] [] kd (setr F 129 (r2S s)) P (QV kd P (fun r F' => r = wnS s ∧ F' = setr F 129 (resS s))) := by
    intro j1 j2 j5 j6
    have hmid : ∀ (j5' : Option AV), Rn (d - 1) mX8_resolves 257 [some (.inr (some 128)), j1, j2, some (.inl (wnS s)), some (.inl (tabS s + s 5)), j5', j6] [] kd (setr F 129 (r3S s)) P (QV kd P (fun r F' => r = wnS s ∧ F' = setr F 129 (resS s))) := by
      intro j5'
      have t0 : r3S s 0 = s 0 := by rw [r3_out hw (by omega) (by omega)]; exact q0
      have t28 : r3S s 28 = s 28 := by rw [r3_out hw (by omega) (by omega)]; exact q28
      refine R_iload_n fX8_resolves_257 rfl ?_
      refine R_if_lt fX8_resolves_258 rfl (fun h258 => ?_) (fun h258 => ?_)
      · refine R_iconst fX8_resolves_277 ?_
        refine R_istore fX8_resolves_278 rfl ?_
        have e : r4S s = r3S s := by unfold r4S; rw [if_neg (by omega)]
        have e2 : resS s = clrS (r3S s) (s 0).toNat := by
          show clrS (r4S s) _ = _
          rw [e]
        rw [e2]
        exact hclr 5 0 j1 j2 (some (.inl (tabS s + s 5))) j6 (r3S s) t0 (by omega) (by omega) (by omega)
      · refine R_aload_n fX8_resolves_261 rfl ?_
        refine R_getP 0 fX8_resolves_262 hM.1 (by omega) rfl rfl rfl hM.2.2.2.2.2.2.2.2.1 ?_
        refine R_bipush fX8_resolves_265 ?_
        refine R_iaload fX8_resolves_267 hM.2.1 (by omega) ?_
        rw [setr_eq]
        refine R_iconst fX8_resolves_268 ?_
        refine R_icmp_ne fX8_resolves_269 rfl (fun h269 => ?_) (fun h269 => ?_)
        · refine R_iconst fX8_resolves_277 ?_
          refine R_istore fX8_resolves_278 rfl ?_
          have e : r4S s = r3S s := by unfold r4S; rw [if_neg (fun z => h269 (by rw [t28]; exact z.2))]
          have e2 : resS s = clrS (r3S s) (s 0).toNat := by
            show clrS (r4S s) _ = _
            rw [e]
          rw [e2]
          exact hclr 5 0 j1 j2 (some (.inl (tabS s + s 5))) j6 (r3S s) t0 (by omega) (by omega) (by omega)
        · refine R_aload_n fX8_resolves_272 rfl ?_
          refine R_iload_n fX8_resolves_273 rfl ?_
          refine R_callN fX8_resolves_274 rfl rfl pX8_shares rfl ⟨Nat.le_of_ble_eq_true rfl, rcv_v rfl (by omega) hM.1⟩ (sp_mshares (by omega) hM (by omega)) (fun F1 q => ?_)
          subst q
          refine R_iconst fX8_resolves_277 ?_
          refine R_istore fX8_resolves_278 rfl ?_
          have e : r4S s = shrS (wnS s) (wr (Int.tdiv (r3S s 1) (r3S s 0 - 1))) (r3S s) (r3S s 0).toNat := by
            unfold r4S; rw [if_pos ⟨h258, by rw [← t28]; exact h269⟩, t0]
          rw [← e]
          exact hclr 5 0 j1 j2 (some (.inl (tabS s + s 5))) j6 (r4S s) (by rw [e, shrS_0]; exact t0) (by omega) (by omega) (by omega)
    refine R_iload_n fX8_resolves_208 rfl ?_
    refine R_if_lt fX8_resolves_209 rfl (fun h209 => ?_) (fun h209 => ?_)
    · have e : r3S s = r2S s := by unfold r3S wonS; rw [if_neg (by omega)]
      have h := hmid j5
      rw [e] at h
      exact h
    · refine R_aload_n fX8_resolves_212 rfl ?_
      refine R_getP 0 fX8_resolves_213 hM.1 (by omega) rfl rfl rfl hM.2.2.2.2.2.2.2.2.1 ?_
      refine R_bipush fX8_resolves_216 ?_
      refine R_bipush fX8_resolves_218 ?_
      refine R_iload_n fX8_resolves_220 rfl ?_
      refine R_imul fX8_resolves_221 (by omega) ?_
      refine R_iadd fX8_resolves_222 (by omega) ?_
      refine R_iconst fX8_resolves_223 ?_
      refine R_iadd fX8_resolves_224 (by omega) ?_
      refine R_dup2 fX8_resolves_225 ?_
      refine R_iaload fX8_resolves_226 hM.2.1 (by omega) ?_
      rw [setr_eq]
      refine R_iload fX8_resolves_227 rfl ?_
      refine R_iaddV fX8_resolves_229 (rfl) ?_
      refine R_iastore fX8_resolves_230 hM.2.1 (by omega) (by omega) ?_
      rw [stt_setr]
      refine R_aload_n fX8_resolves_231 rfl ?_
      refine R_getP 0 fX8_resolves_232 hM.1 (by omega) rfl rfl rfl hM.2.2.2.2.2.2.2.2.1 ?_
      refine R_bipush fX8_resolves_235 ?_
      refine R_bipush fX8_resolves_237 ?_
      refine R_iload_n fX8_resolves_239 rfl ?_
      refine R_imul fX8_resolves_240 (by omega) ?_
      refine R_iadd fX8_resolves_241 (by omega) ?_
      refine R_iconst fX8_resolves_242 ?_
      refine R_iadd fX8_resolves_243 (by omega) ?_
      refine R_dup2 fX8_resolves_244 ?_
      refine R_iaload fX8_resolves_245 hM.2.1 (by omega) ?_
      rw [setr_eq]
      refine R_iconst fX8_resolves_246 ?_
      refine R_iaddV fX8_resolves_247 (rfl) ?_
      refine R_iastore fX8_resolves_248 hM.2.1 (by omega) (by omega) ?_
      rw [stt_setr]
      refine R_aload_n fX8_resolves_249 rfl ?_
      refine R_getP 0 fX8_resolves_250 hM.1 (by omega) rfl rfl rfl hM.2.2.2.2.2.2.2.2.1 ?_
      refine R_bipush fX8_resolves_253 ?_
      refine R_iconst fX8_resolves_255 ?_
      refine R_iastore fX8_resolves_256 hM.2.1 (by omega) (by omega) ?_
      rw [stt_setr]
      have e : up (up (up (r2S s) (126 + 6 * wnS s + 1) (wr (r2S s (126 + 6 * wnS s + 1) + (tabS s + s 5)))) (126 + 6 * wnS s + 3) (wr (up (r2S s) (126 + 6 * wnS s + 1) (wr (r2S s (126 + 6 * wnS s + 1) + (tabS s + s 5))) (126 + 6 * wnS s + 3) + 1))) 25 0 = r3S s := by
        unfold r3S wonS
        rw [if_pos h209, up_ne (r2S s) _ (by omega : 126 + 6 * wnS s + 3 ≠ 126 + 6 * wnS s + 1)]
        funext j
        by_cases z1 : j = 25
        · rw [z1, up_eq, if_neg (by omega), if_neg (by omega), if_pos rfl]
        · rw [up_ne _ _ z1]
          by_cases z2 : j = 126 + 6 * wnS s + 3
          · rw [z2, up_eq, if_neg (by omega), if_pos rfl]
          · rw [up_ne _ _ z2]
            by_cases z3 : j = 126 + 6 * wnS s + 1
            · rw [z3, up_eq, if_pos rfl]
            · rw [up_ne _ _ z3, if_neg z3, if_neg z2, if_neg z1]
      rw [e]
      exact hmid _
  generalize hmost : grF (bdS s) (s 0).toNat = most at *
  generalize hmany : cnF (bdS s) most (s 0).toNat = many at *
  have hpl : ∀ (N : Nat) (i : Int) (j6 : Option AV), 0 ≤ i → i ≤ s 0 → s 0 - i < N → Rn (d - 1) mX8_resolves 106 [some (.inr (some 128)), some (.inl most), some (.inl many), some (.inl (wnS s)), some (.inl (tabS s + s 5)), some (.inl i), j6] [] kd (setr F 129 (rlS (FE s) (oneW (wnS s)) (r1S s) i.toNat)) P (QV kd P (fun r F' => r = wnS s ∧ F' = setr F 129 (resS s))) := by
    intro N
    induction N with
    | zero => intro i j6 h1 h2 h4; omega
    | succ N ih =>
      intro i j6 h1 h2 h5
      have hfacts := rl_facts (fee := FE s) hw (bd_b hw hb) (FE_b hw hb) i.toNat (by omega)
      have hinb := inb_rl hw hb h4 (k := i.toNat) (by omega)
      have hprw := prS_wp hw (bd_b hw hb) i.toNat (by omega)
      obtain ⟨a1, a2, a3, a4, a5, a6⟩ := hfacts
      have estep : ∀ x y, x = oneW (wnS s) i → y = FE s i → i < s 0 → paysS (notesS (rlS (FE s) (oneW (wnS s)) (r1S s) i.toNat) i ((rlS (FE s) (oneW (wnS s)) (r1S s) i.toNat) (126 + 6 * i + 2)) x) i y = rlS (FE s) (oneW (wnS s)) (r1S s) (i + 1).toNat := fun x y hx hy _ => by
        rw [toN h1]
        show _ = paysS (notesS (rlS (FE s) (oneW (wnS s)) (r1S s) i.toNat) ((i.toNat : Nat) : Int) ((rlS (FE s) (oneW (wnS s)) (r1S s) i.toNat) (126 + 6 * ((i.toNat : Nat) : Int) + 2)) (oneW (wnS s) ((i.toNat : Nat) : Int))) ((i.toNat : Nat) : Int) (FE s ((i.toNat : Nat) : Int))
        rw [toC h1, hx, hy]
      have e2 : (rlS (FE s) (oneW (wnS s)) (r1S s) i.toNat) 2 = (rlS (FE s) (oneW (wnS s)) (r1S s) i.toNat) 2 := rfl
      generalize hg : (rlS (FE s) (oneW (wnS s)) (r1S s) i.toNat) = g at *
      have g0 : g 0 = s 0 := by rw [a2 0 (by omega) (by omega), r1_same hw (by omega)]
      have g26 : g 26 = s 26 := by rw [a2 26 (by omega) (by omega), r1_same hw (by omega)]
      have g27 : g 27 = s 27 := by rw [a2 27 (by omega) (by omega), r1_same hw (by omega)]
      have g150 : g 150 = prS s i.toNat 150 := a1 150 (by omega) (by omega)
      have hb150 := hprw.1.1
      refine R_iload fX8_resolves_106 rfl ?_
      refine R_aload_n fX8_resolves_108 rfl ?_
      refine R_getP 0 fX8_resolves_109 hM.1 (by omega) rfl rfl rfl hM.2.2.2.2.2.2.2.2.1 ?_
      refine R_iconst fX8_resolves_112 ?_
      refine R_iaload fX8_resolves_113 hM.2.1 (by omega) ?_
      rw [setr_eq]
      refine R_icmp_ge fX8_resolves_114 rfl (fun h114 => ?_) (fun h114 => ?_)
      · have e : (rlS (FE s) (oneW (wnS s)) (r1S s) i.toNat) = r2S s := by rw [show i = s 0 by omega]; rfl
        rw [← hg, e]
        exact hend _ _ _ _
      · refine R_aload_n fX8_resolves_117 rfl ?_
        refine R_iload fX8_resolves_118 rfl ?_
        refine R_iconst fX8_resolves_120 ?_
        refine R_callE fX8_resolves_121 rfl rfl pX8_of rfl ⟨Nat.le_of_ble_eq_true rfl, rcv_v rfl (by omega) hM.1⟩ (sp_mof (by omega) hM ⟨h1, by omega⟩ (by omega)) ?_
        refine R_istore fX8_resolves_124 rfl ?_
        refine R_aload_n fX8_resolves_126 rfl ?_
        refine R_iload fX8_resolves_127 rfl ?_
        refine R_iload fX8_resolves_129 rfl ?_
        refine R_iload_n fX8_resolves_131 rfl ?_
        refine R_icmp_ne fX8_resolves_132 rfl (fun h132 => ?_) (fun h132 => ?_)
        · refine R_iconst fX8_resolves_139 ?_
          refine R_callN fX8_resolves_140 rfl rfl pX8_notes rfl ⟨Nat.le_of_ble_eq_true rfl, rcv_v rfl (by omega) hM.1⟩ (sp_mnotes (by omega) hM (q := g (126 + 6 * i + 2)) ⟨h1, by omega⟩ rfl (by omega) (by omega) hinb) (fun F1 q => ?_)
          subst q
          have hix := ixS_in (t := g) (p := i) (b := g (126 + 6 * i + 2)) (by omega)
          have n26 : ∀ won, notesS g i (g (126 + 6 * i + 2)) won 26 = s 26 := fun won => by rw [nS_o (by omega) (by omega)]; exact g26
          have n27 : ∀ won, notesS g i (g (126 + 6 * i + 2)) won 27 = s 27 := fun won => by rw [nS_o (by omega) (by omega)]; exact g27
          refine R_aload_n fX8_resolves_143 rfl ?_
          refine R_iload fX8_resolves_144 rfl ?_
          refine R_iload_n fX8_resolves_146 rfl ?_
          refine R_iconst fX8_resolves_147 ?_
          refine R_icmp_le fX8_resolves_148 rfl (fun h148 => ?_) (fun h148 => ?_)
          · refine R_iload fX8_resolves_176 rfl ?_
            refine R_iload_n fX8_resolves_178 rfl ?_
            refine R_icmp_ne fX8_resolves_179 rfl (fun h179 => ?_) (fun h179 => ?_)
            · refine R_iload fX8_resolves_187 rfl ?_
              refine R_aload_n fX8_resolves_189 rfl ?_
              refine R_getP 0 fX8_resolves_190 hM.1 (by omega) rfl rfl rfl hM.2.2.2.2.2.2.2.2.1 ?_
              refine R_bipush fX8_resolves_193 ?_
              refine R_iaload fX8_resolves_195 hM.2.1 (by omega) ?_
              rw [setr_eq]
              refine R_callE fX8_resolves_196 rfl rfl pX8_least rfl ⟨Nat.le_of_ble_eq_true rfl, rfl⟩ (sp_mleast (by omega)) ?_
              refine R_callN fX8_resolves_199 rfl rfl pX8_pays rfl ⟨Nat.le_of_ble_eq_true rfl, rcv_v rfl (by omega) hM.1⟩ (sp_mpays (by omega) hM ⟨h1, by omega⟩) (fun F2 q => ?_)
              subst q
              refine R_iinc fX8_resolves_202 rfl (by omega) ?_
              refine R_goto fX8_resolves_205 rfl ?_
              have hbid : g (126 + 6 * i + 2) = bdS s i := a6 i 2 h1 (by omega) (by omega)
              have how : oneW (wnS s) i = if i = wnS s then 1 else 0 := rfl
              have hfe : FE s i = if i = wnS s then bdS s i else if wnS s ≠ -1 then (if bdS s i < s 27 then bdS s i else s 27) else if bdS s i = most then (if bdS s i < s 26 then bdS s i else s 26) else 0 := by
                rw [← hmost]; rfl
              rw [hbid] at n26 n27
              simp only [hbid] at *
              (try simp only [n26])
              (try simp only [n27])
              first
              | (exfalso; omega)
              | (have hy : FE s i = if bdS s i < s 27 then bdS s i else s 27 := hfe.trans ((if_neg (by omega)).trans (if_pos (by omega)))
                 have hx : oneW (wnS s) i = 0 := how.trans (if_neg (by omega))
                 have h := estep 0 (if bdS s i < s 27 then bdS s i else s 27) hx.symm hy.symm (by omega)
                 rw [h]
                 exact ih (i + 1) _ (by omega) (by omega) (by omega))
            · refine R_iload fX8_resolves_182 rfl ?_
              refine R_goto fX8_resolves_184 rfl ?_
              refine R_callN fX8_resolves_199 rfl rfl pX8_pays rfl ⟨Nat.le_of_ble_eq_true rfl, rcv_v rfl (by omega) hM.1⟩ (sp_mpays (by omega) hM ⟨h1, by omega⟩) (fun F2 q => ?_)
              subst q
              refine R_iinc fX8_resolves_202 rfl (by omega) ?_
              refine R_goto fX8_resolves_205 rfl ?_
              have hbid : g (126 + 6 * i + 2) = bdS s i := a6 i 2 h1 (by omega) (by omega)
              have how : oneW (wnS s) i = if i = wnS s then 1 else 0 := rfl
              have hfe : FE s i = if i = wnS s then bdS s i else if wnS s ≠ -1 then (if bdS s i < s 27 then bdS s i else s 27) else if bdS s i = most then (if bdS s i < s 26 then bdS s i else s 26) else 0 := by
                rw [← hmost]; rfl
              rw [hbid] at n26 n27
              simp only [hbid] at *
              (try simp only [n26])
              (try simp only [n27])
              first
              | (exfalso; omega)
              | (have hy : FE s i = bdS s i := hfe.trans (if_pos (by omega))
                 have hx : oneW (wnS s) i = 0 := how.trans (if_neg (by omega))
                 have h := estep 0 (bdS s i) hx.symm hy.symm (by omega)
                 rw [h]
                 exact ih (i + 1) _ (by omega) (by omega) (by omega))
          · refine R_iload fX8_resolves_151 rfl ?_
            refine R_iload_n fX8_resolves_153 rfl ?_
            refine R_icmp_ne fX8_resolves_154 rfl (fun h154 => ?_) (fun h154 => ?_)
            · refine R_iconst fX8_resolves_172 ?_
              refine R_goto fX8_resolves_173 rfl ?_
              refine R_callN fX8_resolves_199 rfl rfl pX8_pays rfl ⟨Nat.le_of_ble_eq_true rfl, rcv_v rfl (by omega) hM.1⟩ (sp_mpays (by omega) hM ⟨h1, by omega⟩) (fun F2 q => ?_)
              subst q
              refine R_iinc fX8_resolves_202 rfl (by omega) ?_
              refine R_goto fX8_resolves_205 rfl ?_
              have hbid : g (126 + 6 * i + 2) = bdS s i := a6 i 2 h1 (by omega) (by omega)
              have how : oneW (wnS s) i = if i = wnS s then 1 else 0 := rfl
              have hfe : FE s i = if i = wnS s then bdS s i else if wnS s ≠ -1 then (if bdS s i < s 27 then bdS s i else s 27) else if bdS s i = most then (if bdS s i < s 26 then bdS s i else s 26) else 0 := by
                rw [← hmost]; rfl
              rw [hbid] at n26 n27
              simp only [hbid] at *
              (try simp only [n26])
              (try simp only [n27])
              first
              | (exfalso; omega)
              | (have hy : FE s i = 0 := hfe.trans ((if_neg (by omega)).trans ((if_neg (by omega)).trans (if_neg (by omega))))
                 have hx : oneW (wnS s) i = 0 := how.trans (if_neg (by omega))
                 have h := estep 0 (0) hx.symm hy.symm (by omega)
                 rw [h]
                 exact ih (i + 1) _ (by omega) (by omega) (by omega))
            · refine R_iload fX8_resolves_157 rfl ?_
              refine R_aload_n fX8_resolves_159 rfl ?_
              refine R_getP 0 fX8_resolves_160 hM.1 (by omega) rfl rfl rfl hM.2.2.2.2.2.2.2.2.1 ?_
              refine R_bipush fX8_resolves_163 ?_
              refine R_iaload fX8_resolves_165 hM.2.1 (by omega) ?_
              rw [setr_eq]
              refine R_callE fX8_resolves_166 rfl rfl pX8_least rfl ⟨Nat.le_of_ble_eq_true rfl, rfl⟩ (sp_mleast (by omega)) ?_
              refine R_goto fX8_resolves_169 rfl ?_
              refine R_callN fX8_resolves_199 rfl rfl pX8_pays rfl ⟨Nat.le_of_ble_eq_true rfl, rcv_v rfl (by omega) hM.1⟩ (sp_mpays (by omega) hM ⟨h1, by omega⟩) (fun F2 q => ?_)
              subst q
              refine R_iinc fX8_resolves_202 rfl (by omega) ?_
              refine R_goto fX8_resolves_205 rfl ?_
              have hbid : g (126 + 6 * i + 2) = bdS s i := a6 i 2 h1 (by omega) (by omega)
              have how : oneW (wnS s) i = if i = wnS s then 1 else 0 := rfl
              have hfe : FE s i = if i = wnS s then bdS s i else if wnS s ≠ -1 then (if bdS s i < s 27 then bdS s i else s 27) else if bdS s i = most then (if bdS s i < s 26 then bdS s i else s 26) else 0 := by
                rw [← hmost]; rfl
              rw [hbid] at n26 n27
              simp only [hbid] at *
              (try simp only [n26])
              (try simp only [n27])
              first
              | (exfalso; omega)
              | (have hy : FE s i = if bdS s i < s 26 then bdS s i else s 26 := hfe.trans ((if_neg (by omega)).trans ((if_neg (by omega)).trans (if_pos (by omega))))
                 have hx : oneW (wnS s) i = 0 := how.trans (if_neg (by omega))
                 have h := estep 0 (if bdS s i < s 26 then bdS s i else s 26) hx.symm hy.symm (by omega)
                 rw [h]
                 exact ih (i + 1) _ (by omega) (by omega) (by omega))
        · refine R_iconst fX8_resolves_135 ?_
          refine R_goto fX8_resolves_136 rfl ?_
          refine R_callN fX8_resolves_140 rfl rfl pX8_notes rfl ⟨Nat.le_of_ble_eq_true rfl, rcv_v rfl (by omega) hM.1⟩ (sp_mnotes (by omega) hM (q := g (126 + 6 * i + 2)) ⟨h1, by omega⟩ rfl (by omega) (by omega) hinb) (fun F1 q => ?_)
          subst q
          have hix := ixS_in (t := g) (p := i) (b := g (126 + 6 * i + 2)) (by omega)
          have n26 : ∀ won, notesS g i (g (126 + 6 * i + 2)) won 26 = s 26 := fun won => by rw [nS_o (by omega) (by omega)]; exact g26
          have n27 : ∀ won, notesS g i (g (126 + 6 * i + 2)) won 27 = s 27 := fun won => by rw [nS_o (by omega) (by omega)]; exact g27
          refine R_aload_n fX8_resolves_143 rfl ?_
          refine R_iload fX8_resolves_144 rfl ?_
          refine R_iload_n fX8_resolves_146 rfl ?_
          refine R_iconst fX8_resolves_147 ?_
          refine R_icmp_le fX8_resolves_148 rfl (fun h148 => ?_) (fun h148 => ?_)
          · refine R_iload fX8_resolves_176 rfl ?_
            refine R_iload_n fX8_resolves_178 rfl ?_
            refine R_icmp_ne fX8_resolves_179 rfl (fun h179 => ?_) (fun h179 => ?_)
            · refine R_iload fX8_resolves_187 rfl ?_
              refine R_aload_n fX8_resolves_189 rfl ?_
              refine R_getP 0 fX8_resolves_190 hM.1 (by omega) rfl rfl rfl hM.2.2.2.2.2.2.2.2.1 ?_
              refine R_bipush fX8_resolves_193 ?_
              refine R_iaload fX8_resolves_195 hM.2.1 (by omega) ?_
              rw [setr_eq]
              refine R_callE fX8_resolves_196 rfl rfl pX8_least rfl ⟨Nat.le_of_ble_eq_true rfl, rfl⟩ (sp_mleast (by omega)) ?_
              refine R_callN fX8_resolves_199 rfl rfl pX8_pays rfl ⟨Nat.le_of_ble_eq_true rfl, rcv_v rfl (by omega) hM.1⟩ (sp_mpays (by omega) hM ⟨h1, by omega⟩) (fun F2 q => ?_)
              subst q
              refine R_iinc fX8_resolves_202 rfl (by omega) ?_
              refine R_goto fX8_resolves_205 rfl ?_
              have hbid : g (126 + 6 * i + 2) = bdS s i := a6 i 2 h1 (by omega) (by omega)
              have how : oneW (wnS s) i = if i = wnS s then 1 else 0 := rfl
              have hfe : FE s i = if i = wnS s then bdS s i else if wnS s ≠ -1 then (if bdS s i < s 27 then bdS s i else s 27) else if bdS s i = most then (if bdS s i < s 26 then bdS s i else s 26) else 0 := by
                rw [← hmost]; rfl
              rw [hbid] at n26 n27
              simp only [hbid] at *
              (try simp only [n26])
              (try simp only [n27])
              first
              | (exfalso; omega)
              | (have hy : FE s i = if bdS s i < s 27 then bdS s i else s 27 := hfe.trans ((if_neg (by omega)).trans (if_pos (by omega)))
                 have hx : oneW (wnS s) i = 1 := how.trans (if_pos (by omega))
                 have h := estep 1 (if bdS s i < s 27 then bdS s i else s 27) hx.symm hy.symm (by omega)
                 rw [h]
                 exact ih (i + 1) _ (by omega) (by omega) (by omega))
            · refine R_iload fX8_resolves_182 rfl ?_
              refine R_goto fX8_resolves_184 rfl ?_
              refine R_callN fX8_resolves_199 rfl rfl pX8_pays rfl ⟨Nat.le_of_ble_eq_true rfl, rcv_v rfl (by omega) hM.1⟩ (sp_mpays (by omega) hM ⟨h1, by omega⟩) (fun F2 q => ?_)
              subst q
              refine R_iinc fX8_resolves_202 rfl (by omega) ?_
              refine R_goto fX8_resolves_205 rfl ?_
              have hbid : g (126 + 6 * i + 2) = bdS s i := a6 i 2 h1 (by omega) (by omega)
              have how : oneW (wnS s) i = if i = wnS s then 1 else 0 := rfl
              have hfe : FE s i = if i = wnS s then bdS s i else if wnS s ≠ -1 then (if bdS s i < s 27 then bdS s i else s 27) else if bdS s i = most then (if bdS s i < s 26 then bdS s i else s 26) else 0 := by
                rw [← hmost]; rfl
              rw [hbid] at n26 n27
              simp only [hbid] at *
              (try simp only [n26])
              (try simp only [n27])
              first
              | (exfalso; omega)
              | (have hy : FE s i = bdS s i := hfe.trans (if_pos (by omega))
                 have hx : oneW (wnS s) i = 1 := how.trans (if_pos (by omega))
                 have h := estep 1 (bdS s i) hx.symm hy.symm (by omega)
                 rw [h]
                 exact ih (i + 1) _ (by omega) (by omega) (by omega))
          · refine R_iload fX8_resolves_151 rfl ?_
            refine R_iload_n fX8_resolves_153 rfl ?_
            refine R_icmp_ne fX8_resolves_154 rfl (fun h154 => ?_) (fun h154 => ?_)
            · refine R_iconst fX8_resolves_172 ?_
              refine R_goto fX8_resolves_173 rfl ?_
              refine R_callN fX8_resolves_199 rfl rfl pX8_pays rfl ⟨Nat.le_of_ble_eq_true rfl, rcv_v rfl (by omega) hM.1⟩ (sp_mpays (by omega) hM ⟨h1, by omega⟩) (fun F2 q => ?_)
              subst q
              refine R_iinc fX8_resolves_202 rfl (by omega) ?_
              refine R_goto fX8_resolves_205 rfl ?_
              have hbid : g (126 + 6 * i + 2) = bdS s i := a6 i 2 h1 (by omega) (by omega)
              have how : oneW (wnS s) i = if i = wnS s then 1 else 0 := rfl
              have hfe : FE s i = if i = wnS s then bdS s i else if wnS s ≠ -1 then (if bdS s i < s 27 then bdS s i else s 27) else if bdS s i = most then (if bdS s i < s 26 then bdS s i else s 26) else 0 := by
                rw [← hmost]; rfl
              rw [hbid] at n26 n27
              simp only [hbid] at *
              (try simp only [n26])
              (try simp only [n27])
              first
              | (exfalso; omega)
              | (have hy : FE s i = 0 := hfe.trans ((if_neg (by omega)).trans ((if_neg (by omega)).trans (if_neg (by omega))))
                 have hx : oneW (wnS s) i = 1 := how.trans (if_pos (by omega))
                 have h := estep 1 (0) hx.symm hy.symm (by omega)
                 rw [h]
                 exact ih (i + 1) _ (by omega) (by omega) (by omega))
            · refine R_iload fX8_resolves_157 rfl ?_
              refine R_aload_n fX8_resolves_159 rfl ?_
              refine R_getP 0 fX8_resolves_160 hM.1 (by omega) rfl rfl rfl hM.2.2.2.2.2.2.2.2.1 ?_
              refine R_bipush fX8_resolves_163 ?_
              refine R_iaload fX8_resolves_165 hM.2.1 (by omega) ?_
              rw [setr_eq]
              refine R_callE fX8_resolves_166 rfl rfl pX8_least rfl ⟨Nat.le_of_ble_eq_true rfl, rfl⟩ (sp_mleast (by omega)) ?_
              refine R_goto fX8_resolves_169 rfl ?_
              refine R_callN fX8_resolves_199 rfl rfl pX8_pays rfl ⟨Nat.le_of_ble_eq_true rfl, rcv_v rfl (by omega) hM.1⟩ (sp_mpays (by omega) hM ⟨h1, by omega⟩) (fun F2 q => ?_)
              subst q
              refine R_iinc fX8_resolves_202 rfl (by omega) ?_
              refine R_goto fX8_resolves_205 rfl ?_
              have hbid : g (126 + 6 * i + 2) = bdS s i := a6 i 2 h1 (by omega) (by omega)
              have how : oneW (wnS s) i = if i = wnS s then 1 else 0 := rfl
              have hfe : FE s i = if i = wnS s then bdS s i else if wnS s ≠ -1 then (if bdS s i < s 27 then bdS s i else s 27) else if bdS s i = most then (if bdS s i < s 26 then bdS s i else s 26) else 0 := by
                rw [← hmost]; rfl
              rw [hbid] at n26 n27
              simp only [hbid] at *
              (try simp only [n26])
              (try simp only [n27])
              first
              | (exfalso; omega)
              | (have hy : FE s i = if bdS s i < s 26 then bdS s i else s 26 := hfe.trans ((if_neg (by omega)).trans ((if_neg (by omega)).trans (if_pos (by omega))))
                 have hx : oneW (wnS s) i = 1 := how.trans (if_pos (by omega))
                 have h := estep 1 (if bdS s i < s 26 then bdS s i else s 26) hx.symm hy.symm (by omega)
                 rw [h]
                 exact ih (i + 1) _ (by omega) (by omega) (by omega))
  have hcnt : ∀ (N : Nat) (i : Int) (j5 j6 : Option AV), 0 ≤ i → i ≤ s 0 → s 0 - i < N → (0 ≤ cnF (bdS s) most i.toNat ∧ cnF (bdS s) most i.toNat ≤ i) → Rn (d - 1) mX8_resolves 12 [some (.inr (some 128)), some (.inl most), some (.inl (cnF (bdS s) most i.toNat)), some (.inl (lsF (bdS s) most i.toNat)), some (.inl i), j5, j6] [] kd (setr F 129 s) P (QV kd P (fun r F' => r = wnS s ∧ F' = setr F 129 (resS s))) := by
    intro N
    induction N with
    | zero => intro i j5 j6 h1 h2 h4 h5; omega
    | succ N ih =>
      intro i j5 j6 h1 h2 h5 h6
      refine R_iload fX8_resolves_12 rfl ?_
      refine R_aload_n fX8_resolves_14 rfl ?_
      refine R_getP 0 fX8_resolves_15 hM.1 (by omega) rfl rfl rfl hM.2.2.2.2.2.2.2.2.1 ?_
      refine R_iconst fX8_resolves_18 ?_
      refine R_iaload fX8_resolves_19 hM.2.1 (by omega) ?_
      rw [setr_eq]
      refine R_icmp_ge fX8_resolves_20 rfl (fun h20 => ?_) (fun h20 => ?_)
      · have hi : i = s 0 := by omega
        subst hi
        rw [hmany]
        refine R_iload_n fX8_resolves_66 rfl ?_
        refine R_iconst fX8_resolves_67 ?_
        refine R_icmp_ne fX8_resolves_68 rfl (fun h68 => ?_) (fun h68 => ?_)
        · refine R_iconst fX8_resolves_75 ?_
          refine R_istore_n fX8_resolves_76 rfl ?_
          rw [show (-1 : Int) = wnS s by omega]
          refine R_aload_n fX8_resolves_77 rfl ?_
          refine R_callE fX8_resolves_78 rfl rfl pX8_onTable rfl ⟨Nat.le_of_ble_eq_true rfl, rcv_v rfl (by omega) hM.1⟩ (sp_monTable (by omega) hM (by omega) w6) ?_
          refine R_aload_n fX8_resolves_81 rfl ?_
          refine R_getP 0 fX8_resolves_82 hM.1 (by omega) rfl rfl rfl hM.2.2.2.2.2.2.2.2.1 ?_
          refine R_iconst fX8_resolves_85 ?_
          refine R_iaload fX8_resolves_86 hM.2.1 (by omega) ?_
          rw [setr_eq]
          refine R_iadd fX8_resolves_87 (by omega) ?_
          refine R_istore fX8_resolves_88 rfl ?_
          refine R_aload_n fX8_resolves_90 rfl ?_
          refine R_callN fX8_resolves_91 rfl rfl pX8_lays rfl ⟨Nat.le_of_ble_eq_true rfl, rcv_v rfl (by omega) hM.1⟩ (sp_mlays (by omega) hM (by omega)) (fun F1 q => ?_)
          subst q
          refine R_aload_n fX8_resolves_94 rfl ?_
          refine R_iload_n fX8_resolves_95 rfl ?_
          refine R_iload_n fX8_resolves_96 rfl ?_
          refine R_iload fX8_resolves_97 rfl ?_
          refine R_iload_n fX8_resolves_99 rfl ?_
          refine R_callN fX8_resolves_100 rfl rfl pX8_keeps rfl ⟨Nat.le_of_ble_eq_true rfl, rcv_v rfl (by omega) hM.1⟩ (sp_mkeeps (by omega) hM (by rw [show laysS s 29 = s 29 by unfold laysS; rw [if_neg (by omega), if_neg (by omega), if_neg (by omega), if_neg (by omega)]]; exact w7)) (fun F2 q => ?_)
          subst q
          refine R_iconst fX8_resolves_103 ?_
          refine R_istore fX8_resolves_104 rfl ?_
          have e : keepsS (laysS s) (wnS s) most (tabS s + s 5) many = rlS (FE s) (oneW (wnS s)) (r1S s) (0 : Int).toNat := by
            show _ = r1S s
            unfold r1S
            rw [hmost, hmany]
          rw [e]
          exact hpl 5 0 _ (by omega) (by omega) (by omega)
        · refine R_iload_n fX8_resolves_71 rfl ?_
          refine R_goto fX8_resolves_72 rfl ?_
          refine R_istore_n fX8_resolves_76 rfl ?_
          rw [show lsF (bdS s) most (s 0).toNat = wnS s by omega]
          refine R_aload_n fX8_resolves_77 rfl ?_
          refine R_callE fX8_resolves_78 rfl rfl pX8_onTable rfl ⟨Nat.le_of_ble_eq_true rfl, rcv_v rfl (by omega) hM.1⟩ (sp_monTable (by omega) hM (by omega) w6) ?_
          refine R_aload_n fX8_resolves_81 rfl ?_
          refine R_getP 0 fX8_resolves_82 hM.1 (by omega) rfl rfl rfl hM.2.2.2.2.2.2.2.2.1 ?_
          refine R_iconst fX8_resolves_85 ?_
          refine R_iaload fX8_resolves_86 hM.2.1 (by omega) ?_
          rw [setr_eq]
          refine R_iadd fX8_resolves_87 (by omega) ?_
          refine R_istore fX8_resolves_88 rfl ?_
          refine R_aload_n fX8_resolves_90 rfl ?_
          refine R_callN fX8_resolves_91 rfl rfl pX8_lays rfl ⟨Nat.le_of_ble_eq_true rfl, rcv_v rfl (by omega) hM.1⟩ (sp_mlays (by omega) hM (by omega)) (fun F1 q => ?_)
          subst q
          refine R_aload_n fX8_resolves_94 rfl ?_
          refine R_iload_n fX8_resolves_95 rfl ?_
          refine R_iload_n fX8_resolves_96 rfl ?_
          refine R_iload fX8_resolves_97 rfl ?_
          refine R_iload_n fX8_resolves_99 rfl ?_
          refine R_callN fX8_resolves_100 rfl rfl pX8_keeps rfl ⟨Nat.le_of_ble_eq_true rfl, rcv_v rfl (by omega) hM.1⟩ (sp_mkeeps (by omega) hM (by rw [show laysS s 29 = s 29 by unfold laysS; rw [if_neg (by omega), if_neg (by omega), if_neg (by omega), if_neg (by omega)]]; exact w7)) (fun F2 q => ?_)
          subst q
          refine R_iconst fX8_resolves_103 ?_
          refine R_istore fX8_resolves_104 rfl ?_
          have e : keepsS (laysS s) (wnS s) most (tabS s + s 5) many = rlS (FE s) (oneW (wnS s)) (r1S s) (0 : Int).toNat := by
            show _ = r1S s
            unfold r1S
            rw [hmost, hmany]
          rw [e]
          exact hpl 5 0 _ (by omega) (by omega) (by omega)
      · refine R_iload_n fX8_resolves_23 rfl ?_
        refine R_aload_n fX8_resolves_24 rfl ?_
        refine R_iload fX8_resolves_25 rfl ?_
        refine R_iconst fX8_resolves_27 ?_
        refine R_callE fX8_resolves_28 rfl rfl pX8_of rfl ⟨Nat.le_of_ble_eq_true rfl, rcv_v rfl (by omega) hM.1⟩ (sp_mof (by omega) hM ⟨h1, by omega⟩ (by omega)) ?_
        refine R_iload_n fX8_resolves_31 rfl ?_
        refine R_icmp_ne fX8_resolves_32 rfl (fun h32 => ?_) (fun h32 => ?_)
        · refine R_iconst fX8_resolves_39 ?_
          refine R_iadd fX8_resolves_40 (by omega) ?_
          refine R_istore_n fX8_resolves_41 rfl ?_
          refine R_aload_n fX8_resolves_42 rfl ?_
          refine R_iload fX8_resolves_43 rfl ?_
          refine R_iconst fX8_resolves_45 ?_
          refine R_callE fX8_resolves_46 rfl rfl pX8_of rfl ⟨Nat.le_of_ble_eq_true rfl, rcv_v rfl (by omega) hM.1⟩ (sp_mof (by omega) hM ⟨h1, by omega⟩ (by omega)) ?_
          refine R_iload_n fX8_resolves_49 rfl ?_
          refine R_icmp_ne fX8_resolves_50 rfl (fun h50 => ?_) (fun h50 => ?_)
          · refine R_iload_n fX8_resolves_58 rfl ?_
            refine R_istore_n fX8_resolves_59 rfl ?_
            refine R_iinc fX8_resolves_60 rfl (by omega) ?_
            refine R_goto fX8_resolves_63 rfl ?_
            have hc := cnF_s (f := bdS s) (m := most) h1
            have hl := lsF_s (f := bdS s) (m := most) h1
            have hbi : bdS s i = s (126 + 6 * i + 2) := rfl
            first
            | (exfalso; omega)
            | (rw [if_pos (by omega)] at hc hl
               have h := ih (i + 1) j5 j6 (by omega) (by omega) (by omega) (by omega)
               rw [hc, hl] at h
               exact h)
            | (rw [if_neg (by omega)] at hc hl
               have h := ih (i + 1) j5 j6 (by omega) (by omega) (by omega) (by omega)
               rw [hc, hl] at h
               exact h)
          · refine R_iload fX8_resolves_53 rfl ?_
            refine R_goto fX8_resolves_55 rfl ?_
            refine R_istore_n fX8_resolves_59 rfl ?_
            refine R_iinc fX8_resolves_60 rfl (by omega) ?_
            refine R_goto fX8_resolves_63 rfl ?_
            have hc := cnF_s (f := bdS s) (m := most) h1
            have hl := lsF_s (f := bdS s) (m := most) h1
            have hbi : bdS s i = s (126 + 6 * i + 2) := rfl
            first
            | (exfalso; omega)
            | (rw [if_pos (by omega)] at hc hl
               have h := ih (i + 1) j5 j6 (by omega) (by omega) (by omega) (by omega)
               rw [hc, hl] at h
               exact h)
            | (rw [if_neg (by omega)] at hc hl
               have h := ih (i + 1) j5 j6 (by omega) (by omega) (by omega) (by omega)
               rw [hc, hl] at h
               exact h)
        · refine R_iconst fX8_resolves_35 ?_
          refine R_goto fX8_resolves_36 rfl ?_
          refine R_iadd fX8_resolves_40 (by omega) ?_
          refine R_istore_n fX8_resolves_41 rfl ?_
          refine R_aload_n fX8_resolves_42 rfl ?_
          refine R_iload fX8_resolves_43 rfl ?_
          refine R_iconst fX8_resolves_45 ?_
          refine R_callE fX8_resolves_46 rfl rfl pX8_of rfl ⟨Nat.le_of_ble_eq_true rfl, rcv_v rfl (by omega) hM.1⟩ (sp_mof (by omega) hM ⟨h1, by omega⟩ (by omega)) ?_
          refine R_iload_n fX8_resolves_49 rfl ?_
          refine R_icmp_ne fX8_resolves_50 rfl (fun h50 => ?_) (fun h50 => ?_)
          · refine R_iload_n fX8_resolves_58 rfl ?_
            refine R_istore_n fX8_resolves_59 rfl ?_
            refine R_iinc fX8_resolves_60 rfl (by omega) ?_
            refine R_goto fX8_resolves_63 rfl ?_
            have hc := cnF_s (f := bdS s) (m := most) h1
            have hl := lsF_s (f := bdS s) (m := most) h1
            have hbi : bdS s i = s (126 + 6 * i + 2) := rfl
            first
            | (exfalso; omega)
            | (rw [if_pos (by omega)] at hc hl
               have h := ih (i + 1) j5 j6 (by omega) (by omega) (by omega) (by omega)
               rw [hc, hl] at h
               exact h)
            | (rw [if_neg (by omega)] at hc hl
               have h := ih (i + 1) j5 j6 (by omega) (by omega) (by omega) (by omega)
               rw [hc, hl] at h
               exact h)
          · refine R_iload fX8_resolves_53 rfl ?_
            refine R_goto fX8_resolves_55 rfl ?_
            refine R_istore_n fX8_resolves_59 rfl ?_
            refine R_iinc fX8_resolves_60 rfl (by omega) ?_
            refine R_goto fX8_resolves_63 rfl ?_
            have hc := cnF_s (f := bdS s) (m := most) h1
            have hl := lsF_s (f := bdS s) (m := most) h1
            have hbi : bdS s i = s (126 + 6 * i + 2) := rfl
            first
            | (exfalso; omega)
            | (rw [if_pos (by omega)] at hc hl
               have h := ih (i + 1) j5 j6 (by omega) (by omega) (by omega) (by omega)
               rw [hc, hl] at h
               exact h)
            | (rw [if_neg (by omega)] at hc hl
               have h := ih (i + 1) j5 j6 (by omega) (by omega) (by omega) (by omega)
               rw [hc, hl] at h
               exact h)
  refine R_aload_n fX8_resolves_0 rfl ?_
  refine R_callE fX8_resolves_1 rfl rfl pX8_greatest rfl ⟨Nat.le_of_ble_eq_true rfl, rcv_v rfl (by omega) hM.1⟩ (sp_mgreatest (by omega) hM (by omega)) ?_
  rw [hmost]
  refine R_istore_n fX8_resolves_4 rfl ?_
  refine R_iconst fX8_resolves_5 ?_
  refine R_istore_n fX8_resolves_6 rfl ?_
  refine R_iconst fX8_resolves_7 ?_
  refine R_istore_n fX8_resolves_8 rfl ?_
  refine R_iconst fX8_resolves_9 ?_
  refine R_istore fX8_resolves_10 rfl ?_
  exact hcnt 5 0 _ _ (by omega) (by omega) (by omega) ⟨Int.le_refl 0, Int.le_refl 0⟩
