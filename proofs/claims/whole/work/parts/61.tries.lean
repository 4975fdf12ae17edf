/-! ## the reference looks ahead -/
def TRf (F F' : FM) : Prop := (∀ j, (j < 10 ∨ 14 < j) → F' 128 j = F 128 j) ∧ ∀ k, k ≠ 128 → F' k = F k
theorem TRf_st {F G : FM} {j v : Int} (h : TRf F G) (hj : 10 ≤ j ∧ j ≤ 14) : TRf F (stt G 128 j v) := ⟨fun i hi => by rw [stt_j _ _ (by omega)]; exact h.1 i hi, fun k hk => by rw [stt_kr _ _ _ hk]; exact h.2 k hk⟩
theorem py_eq {s : Int → Int} {x : Int} : py s x x = if x < s 26 then x else s 26 := by unfold py; rw [if_neg (by omega), if_pos rfl]
theorem py_gt {s : Int → Int} {x y : Int} (h : y < x) : py s x y = x := by unfold py; rw [if_pos h]
theorem py_lt {s : Int → Int} {x y : Int} (h : x < y) : py s x y = if x < s 27 then x else s 27 := by unfold py; rw [if_neg (by omega), if_neg (by omega)]
theorem sp_mtries {d : Nat} {kd : KL} {F : FM} {P : PM} {s : Int → Int} {own oth ahd pot tab x y : Int} (hd : 2 ≤ d) (hM : shM kd P) (h126 : F 129 = s) (hw : WF s) (ho : 0 ≤ own ∧ own ≤ 1000) (ht : 0 ≤ oth ∧ oth ≤ 1000) (ha : -20000000 ≤ ahd ∧ ahd ≤ 20000000) (hp : 0 ≤ pot ∧ pot ≤ 1000) (hb : -2000 ≤ tab ∧ tab ≤ 2000) (hx : 0 ≤ x ∧ x ≤ 1000) (hy : 0 ≤ y ∧ y ≤ 1000) : Sp d 118 [.inr (some 128), .inl own, .inl oth, .inl ahd, .inl pot, .inl tab, .inl x, .inl y] kd F P (QN kd P (fun F' => F' 128 10 = own - py s x y + (if s 28 = 1 ∧ x < y then pot + (py s x y + py s y x) else 0) ∧ F' 128 11 = oth - py s y x + (if s 28 = 1 ∧ y < x then pot + (py s y x + py s x y) else 0) ∧ F' 128 12 = ahd + gn tab x y ∧ (0 ≤ F' 128 13 ∧ F' 128 13 ≤ pot + x + y) ∧ F' 128 14 = (if x = y then tab else 0) ∧ TRf F F')) := by
  refine Sp_of (me := mX8_tries) (by omega) pX8_tries ⟨rfl, Nat.le_of_ble_eq_true rfl⟩ ?_
  have px := py_b hw (x := x) (y := y) hx.1
  have py' := py_b hw (x := y) (y := x) hy.1
  have h28 := hw.2.2.2.2.1.2.2
  clear hw
  have t117 : ∀ (v w : Int) (G : FM), v = py s x y → w = py s y x → G 128 10 = own → G 128 11 = oth → G 128 12 = ahd → G 128 14 = tab → G 129 = s → TRf F G → Rn (d - 1) mX8_tries 117 [some (.inr (some 128)), some (.inl own), some (.inl oth), some (.inl ahd), some (.inl pot), some (.inl tab), some (.inl x), some (.inl y), some (.inl v), some (.inl w)] [] kd G P (QN kd P (fun F' => F' 128 10 = own - py s x y + (if s 28 = 1 ∧ x < y then pot + (py s x y + py s y x) else 0) ∧ F' 128 11 = oth - py s y x + (if s 28 = 1 ∧ y < x then pot + (py s y x + py s x y) else 0) ∧ F' 128 12 = ahd + gn tab x y ∧ (0 ≤ F' 128 13 ∧ F' 128 13 ≤ pot + x + y) ∧ F' 128 14 = (if x = y then tab else 0) ∧ TRf F F')) := by
    intro v w G hv hw g10 g11 g12 g14 g126 go
    rw [← hv] at px
    rw [← hw] at py'
    rw [← hv, ← hw]
    refine R_aload_n fX8_tries_117 rfl ?_
    refine R_dup fX8_tries_118 ?_
    refine R_getI 10 fX8_tries_119 hM.1 (by omega) rfl rfl rfl ?_
    rw [g10]
    refine R_iload fX8_tries_122 rfl ?_
    refine R_isub fX8_tries_124 (by omega) ?_
    refine R_putI 10 fX8_tries_125 hM.1 (by omega) rfl rfl rfl ?_
    refine R_aload_n fX8_tries_128 rfl ?_
    refine R_dup fX8_tries_129 ?_
    refine R_getI 11 fX8_tries_130 hM.1 (by omega) rfl rfl rfl ?_
    rw [stt_j _ _ (by omega), g11]
    refine R_iload fX8_tries_133 rfl ?_
    refine R_isub fX8_tries_135 (by omega) ?_
    refine R_putI 11 fX8_tries_136 hM.1 (by omega) rfl rfl rfl ?_
    refine R_aload_n fX8_tries_139 rfl ?_
    refine R_iload fX8_tries_140 rfl ?_
    refine R_iload fX8_tries_142 rfl ?_
    refine R_iadd fX8_tries_144 (by omega) ?_
    refine R_iload fX8_tries_145 rfl ?_
    refine R_iadd fX8_tries_147 (by omega) ?_
    refine R_putI 13 fX8_tries_148 hM.1 (by omega) rfl rfl rfl ?_
    refine R_iload fX8_tries_151 rfl ?_
    refine R_iload fX8_tries_153 rfl ?_
    refine R_icmp_ne fX8_tries_155 rfl (fun h155 => ?_) (fun h155 => ?_)
    · refine R_aload_n fX8_tries_159 rfl ?_
      refine R_dup fX8_tries_160 ?_
      refine R_getI 12 fX8_tries_161 hM.1 (by omega) rfl rfl rfl ?_
      rw [stt_j _ _ (by omega), stt_j _ _ (by omega), stt_j _ _ (by omega), g12]
      refine R_iload fX8_tries_164 rfl ?_
      refine R_iload fX8_tries_166 rfl ?_
      refine R_icmp_le fX8_tries_168 rfl (fun h168 => ?_) (fun h168 => ?_)
      · refine R_iload fX8_tries_176 rfl ?_
        refine R_ineg fX8_tries_178 (by omega) ?_
        refine R_iadd fX8_tries_179 (by omega) ?_
        refine R_putI 12 fX8_tries_180 hM.1 (by omega) rfl rfl rfl ?_
        refine R_aload_n fX8_tries_183 rfl ?_
        refine R_iconst fX8_tries_184 ?_
        refine R_putI 14 fX8_tries_185 hM.1 (by omega) rfl rfl rfl ?_
        refine R_aload_n fX8_tries_188 rfl ?_
        refine R_getP 0 fX8_tries_189 hM.1 (by omega) rfl rfl rfl hM.2.2.2.2.2.2.2.2.1 ?_
        refine R_bipush fX8_tries_192 ?_
        refine R_iaload fX8_tries_194 hM.2.1 (by omega) ?_
        simp (disch := omega) only [stt_k]
        rw [g126]
        refine R_iconst fX8_tries_195 ?_
        refine R_icmp_ne fX8_tries_196 rfl (fun h196 => ?_) (fun h196 => ?_)
        · refine R_return fX8_tries_252 rfl ?_
          refine ⟨_, rfl, ?_, ?_, ?_, ?_, ?_, ?_⟩
          · simp (disch := omega) only [stt_j, stt_eq]
            first
            | (rw [if_pos (by omega)]; done)
            | (rw [if_pos (by omega)]; omega)
            | (rw [if_neg (by omega)]; done)
            | (rw [if_neg (by omega)]; omega)
          · simp (disch := omega) only [stt_j, stt_eq]
            first
            | (rw [if_pos (by omega)]; done)
            | (rw [if_pos (by omega)]; omega)
            | (rw [if_neg (by omega)]; done)
            | (rw [if_neg (by omega)]; omega)
          · simp (disch := omega) only [stt_j, stt_eq]
            unfold gn
            first
            | (rw [if_pos (by omega)]; done)
            | (rw [if_neg (by omega), if_pos (by omega)]; done)
            | (rw [if_pos (by omega)]; omega)
            | (rw [if_neg (by omega), if_pos (by omega)]; omega)
            | (rw [if_neg (by omega), if_neg (by omega)]; omega)
          · simp (disch := omega) only [stt_j, stt_eq]
            omega
          · simp (disch := omega) only [stt_j, stt_eq]
            first
            | (rw [if_pos (by omega)]; done)
            | (rw [if_neg (by omega)]; done)
            | (rw [if_pos (by omega)]; omega)
          · repeat (first | exact go | refine TRf_st ?_ (by omega))
        · refine R_aload_n fX8_tries_199 rfl ?_
          refine R_dup fX8_tries_200 ?_
          refine R_getI 10 fX8_tries_201 hM.1 (by omega) rfl rfl rfl ?_
          simp (disch := omega) only [stt_j, stt_eq]
          refine R_iload fX8_tries_204 rfl ?_
          refine R_iload fX8_tries_206 rfl ?_
          refine R_icmp_le fX8_tries_208 rfl (fun h208 => ?_) (fun h208 => ?_)
          · refine R_aload_n fX8_tries_215 rfl ?_
            refine R_getI 13 fX8_tries_216 hM.1 (by omega) rfl rfl rfl ?_
            simp (disch := omega) only [stt_j, stt_eq]
            refine R_iadd fX8_tries_219 (by omega) ?_
            refine R_putI 10 fX8_tries_220 hM.1 (by omega) rfl rfl rfl ?_
            refine R_aload_n fX8_tries_223 rfl ?_
            refine R_dup fX8_tries_224 ?_
            refine R_getI 11 fX8_tries_225 hM.1 (by omega) rfl rfl rfl ?_
            simp (disch := omega) only [stt_j, stt_eq]
            refine R_iload fX8_tries_228 rfl ?_
            refine R_iload fX8_tries_230 rfl ?_
            refine R_icmp_le fX8_tries_232 rfl (fun h232 => ?_) (fun h232 => ?_)
            · refine R_iconst fX8_tries_242 ?_
              refine R_iadd fX8_tries_243 (by omega) ?_
              refine R_putI 11 fX8_tries_244 hM.1 (by omega) rfl rfl rfl ?_
              refine R_aload_n fX8_tries_247 rfl ?_
              refine R_iconst fX8_tries_248 ?_
              refine R_putI 13 fX8_tries_249 hM.1 (by omega) rfl rfl rfl ?_
              refine R_return fX8_tries_252 rfl ?_
              refine ⟨_, rfl, ?_, ?_, ?_, ?_, ?_, ?_⟩
              · simp (disch := omega) only [stt_j, stt_eq]
                first
                | (rw [if_pos (by omega)]; done)
                | (rw [if_pos (by omega)]; omega)
                | (rw [if_neg (by omega)]; done)
                | (rw [if_neg (by omega)]; omega)
              · simp (disch := omega) only [stt_j, stt_eq]
                first
                | (rw [if_pos (by omega)]; done)
                | (rw [if_pos (by omega)]; omega)
                | (rw [if_neg (by omega)]; done)
                | (rw [if_neg (by omega)]; omega)
              · simp (disch := omega) only [stt_j, stt_eq]
                unfold gn
                first
                | (rw [if_pos (by omega)]; done)
                | (rw [if_neg (by omega), if_pos (by omega)]; done)
                | (rw [if_pos (by omega)]; omega)
                | (rw [if_neg (by omega), if_pos (by omega)]; omega)
                | (rw [if_neg (by omega), if_neg (by omega)]; omega)
              · simp (disch := omega) only [stt_j, stt_eq]
                omega
              · simp (disch := omega) only [stt_j, stt_eq]
                first
                | (rw [if_pos (by omega)]; done)
                | (rw [if_neg (by omega)]; done)
                | (rw [if_pos (by omega)]; omega)
              · repeat (first | exact go | refine TRf_st ?_ (by omega))
            · refine R_aload_n fX8_tries_235 rfl ?_
              refine R_getI 13 fX8_tries_236 hM.1 (by omega) rfl rfl rfl ?_
              simp (disch := omega) only [stt_j, stt_eq]
              refine R_goto fX8_tries_239 rfl ?_
              refine R_iadd fX8_tries_243 (by omega) ?_
              refine R_putI 11 fX8_tries_244 hM.1 (by omega) rfl rfl rfl ?_
              refine R_aload_n fX8_tries_247 rfl ?_
              refine R_iconst fX8_tries_248 ?_
              refine R_putI 13 fX8_tries_249 hM.1 (by omega) rfl rfl rfl ?_
              refine R_return fX8_tries_252 rfl ?_
              refine ⟨_, rfl, ?_, ?_, ?_, ?_, ?_, ?_⟩
              · simp (disch := omega) only [stt_j, stt_eq]
                first
                | (rw [if_pos (by omega)]; done)
                | (rw [if_pos (by omega)]; omega)
                | (rw [if_neg (by omega)]; done)
                | (rw [if_neg (by omega)]; omega)
              · simp (disch := omega) only [stt_j, stt_eq]
                first
                | (rw [if_pos (by omega)]; done)
                | (rw [if_pos (by omega)]; omega)
                | (rw [if_neg (by omega)]; done)
                | (rw [if_neg (by omega)]; omega)
              · simp (disch := omega) only [stt_j, stt_eq]
                unfold gn
                first
                | (rw [if_pos (by omega)]; done)
                | (rw [if_neg (by omega), if_pos (by omega)]; done)
                | (rw [if_pos (by omega)]; omega)
                | (rw [if_neg (by omega), if_pos (by omega)]; omega)
                | (rw [if_neg (by omega), if_neg (by omega)]; omega)
              · simp (disch := omega) only [stt_j, stt_eq]
                omega
              · simp (disch := omega) only [stt_j, stt_eq]
                first
                | (rw [if_pos (by omega)]; done)
                | (rw [if_neg (by omega)]; done)
                | (rw [if_pos (by omega)]; omega)
              · repeat (first | exact go | refine TRf_st ?_ (by omega))
          · refine R_iconst fX8_tries_211 ?_
            refine R_goto fX8_tries_212 rfl ?_
            refine R_iadd fX8_tries_219 (by omega) ?_
            refine R_putI 10 fX8_tries_220 hM.1 (by omega) rfl rfl rfl ?_
            refine R_aload_n fX8_tries_223 rfl ?_
            refine R_dup fX8_tries_224 ?_
            refine R_getI 11 fX8_tries_225 hM.1 (by omega) rfl rfl rfl ?_
            simp (disch := omega) only [stt_j, stt_eq]
            refine R_iload fX8_tries_228 rfl ?_
            refine R_iload fX8_tries_230 rfl ?_
            refine R_icmp_le fX8_tries_232 rfl (fun h232 => ?_) (fun h232 => ?_)
            · refine R_iconst fX8_tries_242 ?_
              refine R_iadd fX8_tries_243 (by omega) ?_
              refine R_putI 11 fX8_tries_244 hM.1 (by omega) rfl rfl rfl ?_
              refine R_aload_n fX8_tries_247 rfl ?_
              refine R_iconst fX8_tries_248 ?_
              refine R_putI 13 fX8_tries_249 hM.1 (by omega) rfl rfl rfl ?_
              refine R_return fX8_tries_252 rfl ?_
              refine ⟨_, rfl, ?_, ?_, ?_, ?_, ?_, ?_⟩
              · simp (disch := omega) only [stt_j, stt_eq]
                first
                | (rw [if_pos (by omega)]; done)
                | (rw [if_pos (by omega)]; omega)
                | (rw [if_neg (by omega)]; done)
                | (rw [if_neg (by omega)]; omega)
              · simp (disch := omega) only [stt_j, stt_eq]
                first
                | (rw [if_pos (by omega)]; done)
                | (rw [if_pos (by omega)]; omega)
                | (rw [if_neg (by omega)]; done)
                | (rw [if_neg (by omega)]; omega)
              · simp (disch := omega) only [stt_j, stt_eq]
                unfold gn
                first
                | (rw [if_pos (by omega)]; done)
                | (rw [if_neg (by omega), if_pos (by omega)]; done)
                | (rw [if_pos (by omega)]; omega)
                | (rw [if_neg (by omega), if_pos (by omega)]; omega)
                | (rw [if_neg (by omega), if_neg (by omega)]; omega)
              · simp (disch := omega) only [stt_j, stt_eq]
                omega
              · simp (disch := omega) only [stt_j, stt_eq]
                first
                | (rw [if_pos (by omega)]; done)
                | (rw [if_neg (by omega)]; done)
                | (rw [if_pos (by omega)]; omega)
              · repeat (first | exact go | refine TRf_st ?_ (by omega))
            · refine R_aload_n fX8_tries_235 rfl ?_
              refine R_getI 13 fX8_tries_236 hM.1 (by omega) rfl rfl rfl ?_
              simp (disch := omega) only [stt_j, stt_eq]
              refine R_goto fX8_tries_239 rfl ?_
              refine R_iadd fX8_tries_243 (by omega) ?_
              refine R_putI 11 fX8_tries_244 hM.1 (by omega) rfl rfl rfl ?_
              refine R_aload_n fX8_tries_247 rfl ?_
              refine R_iconst fX8_tries_248 ?_
              refine R_putI 13 fX8_tries_249 hM.1 (by omega) rfl rfl rfl ?_
              refine R_return fX8_tries_252 rfl ?_
              refine ⟨_, rfl, ?_, ?_, ?_, ?_, ?_, ?_⟩
              · simp (disch := omega) only [stt_j, stt_eq]
                first
                | (rw [if_pos (by omega)]; done)
                | (rw [if_pos (by omega)]; omega)
                | (rw [if_neg (by omega)]; done)
                | (rw [if_neg (by omega)]; omega)
              · simp (disch := omega) only [stt_j, stt_eq]
                first
                | (rw [if_pos (by omega)]; done)
                | (rw [if_pos (by omega)]; omega)
                | (rw [if_neg (by omega)]; done)
                | (rw [if_neg (by omega)]; omega)
              · simp (disch := omega) only [stt_j, stt_eq]
                unfold gn
                first
                | (rw [if_pos (by omega)]; done)
                | (rw [if_neg (by omega), if_pos (by omega)]; done)
                | (rw [if_pos (by omega)]; omega)
                | (rw [if_neg (by omega), if_pos (by omega)]; omega)
                | (rw [if_neg (by omega), if_neg (by omega)]; omega)
              · simp (disch := omega) only [stt_j, stt_eq]
                omega
              · simp (disch := omega) only [stt_j, stt_eq]
                first
                | (rw [if_pos (by omega)]; done)
                | (rw [if_neg (by omega)]; done)
                | (rw [if_pos (by omega)]; omega)
              · repeat (first | exact go | refine TRf_st ?_ (by omega))
      · refine R_iload fX8_tries_171 rfl ?_
        refine R_goto fX8_tries_173 rfl ?_
        refine R_iadd fX8_tries_179 (by omega) ?_
        refine R_putI 12 fX8_tries_180 hM.1 (by omega) rfl rfl rfl ?_
        refine R_aload_n fX8_tries_183 rfl ?_
        refine R_iconst fX8_tries_184 ?_
        refine R_putI 14 fX8_tries_185 hM.1 (by omega) rfl rfl rfl ?_
        refine R_aload_n fX8_tries_188 rfl ?_
        refine R_getP 0 fX8_tries_189 hM.1 (by omega) rfl rfl rfl hM.2.2.2.2.2.2.2.2.1 ?_
        refine R_bipush fX8_tries_192 ?_
        refine R_iaload fX8_tries_194 hM.2.1 (by omega) ?_
        simp (disch := omega) only [stt_k]
        rw [g126]
        refine R_iconst fX8_tries_195 ?_
        refine R_icmp_ne fX8_tries_196 rfl (fun h196 => ?_) (fun h196 => ?_)
        · refine R_return fX8_tries_252 rfl ?_
          refine ⟨_, rfl, ?_, ?_, ?_, ?_, ?_, ?_⟩
          · simp (disch := omega) only [stt_j, stt_eq]
            first
            | (rw [if_pos (by omega)]; done)
            | (rw [if_pos (by omega)]; omega)
            | (rw [if_neg (by omega)]; done)
            | (rw [if_neg (by omega)]; omega)
          · simp (disch := omega) only [stt_j, stt_eq]
            first
            | (rw [if_pos (by omega)]; done)
            | (rw [if_pos (by omega)]; omega)
            | (rw [if_neg (by omega)]; done)
            | (rw [if_neg (by omega)]; omega)
          · simp (disch := omega) only [stt_j, stt_eq]
            unfold gn
            first
            | (rw [if_pos (by omega)]; done)
            | (rw [if_neg (by omega), if_pos (by omega)]; done)
            | (rw [if_pos (by omega)]; omega)
            | (rw [if_neg (by omega), if_pos (by omega)]; omega)
            | (rw [if_neg (by omega), if_neg (by omega)]; omega)
          · simp (disch := omega) only [stt_j, stt_eq]
            omega
          · simp (disch := omega) only [stt_j, stt_eq]
            first
            | (rw [if_pos (by omega)]; done)
            | (rw [if_neg (by omega)]; done)
            | (rw [if_pos (by omega)]; omega)
          · repeat (first | exact go | refine TRf_st ?_ (by omega))
        · refine R_aload_n fX8_tries_199 rfl ?_
          refine R_dup fX8_tries_200 ?_
          refine R_getI 10 fX8_tries_201 hM.1 (by omega) rfl rfl rfl ?_
          simp (disch := omega) only [stt_j, stt_eq]
          refine R_iload fX8_tries_204 rfl ?_
          refine R_iload fX8_tries_206 rfl ?_
          refine R_icmp_le fX8_tries_208 rfl (fun h208 => ?_) (fun h208 => ?_)
          · refine R_aload_n fX8_tries_215 rfl ?_
            refine R_getI 13 fX8_tries_216 hM.1 (by omega) rfl rfl rfl ?_
            simp (disch := omega) only [stt_j, stt_eq]
            refine R_iadd fX8_tries_219 (by omega) ?_
            refine R_putI 10 fX8_tries_220 hM.1 (by omega) rfl rfl rfl ?_
            refine R_aload_n fX8_tries_223 rfl ?_
            refine R_dup fX8_tries_224 ?_
            refine R_getI 11 fX8_tries_225 hM.1 (by omega) rfl rfl rfl ?_
            simp (disch := omega) only [stt_j, stt_eq]
            refine R_iload fX8_tries_228 rfl ?_
            refine R_iload fX8_tries_230 rfl ?_
            refine R_icmp_le fX8_tries_232 rfl (fun h232 => ?_) (fun h232 => ?_)
            · refine R_iconst fX8_tries_242 ?_
              refine R_iadd fX8_tries_243 (by omega) ?_
              refine R_putI 11 fX8_tries_244 hM.1 (by omega) rfl rfl rfl ?_
              refine R_aload_n fX8_tries_247 rfl ?_
              refine R_iconst fX8_tries_248 ?_
              refine R_putI 13 fX8_tries_249 hM.1 (by omega) rfl rfl rfl ?_
              refine R_return fX8_tries_252 rfl ?_
              refine ⟨_, rfl, ?_, ?_, ?_, ?_, ?_, ?_⟩
              · simp (disch := omega) only [stt_j, stt_eq]
                first
                | (rw [if_pos (by omega)]; done)
                | (rw [if_pos (by omega)]; omega)
                | (rw [if_neg (by omega)]; done)
                | (rw [if_neg (by omega)]; omega)
              · simp (disch := omega) only [stt_j, stt_eq]
                first
                | (rw [if_pos (by omega)]; done)
                | (rw [if_pos (by omega)]; omega)
                | (rw [if_neg (by omega)]; done)
                | (rw [if_neg (by omega)]; omega)
              · simp (disch := omega) only [stt_j, stt_eq]
                unfold gn
                first
                | (rw [if_pos (by omega)]; done)
                | (rw [if_neg (by omega), if_pos (by omega)]; done)
                | (rw [if_pos (by omega)]; omega)
                | (rw [if_neg (by omega), if_pos (by omega)]; omega)
                | (rw [if_neg (by omega), if_neg (by omega)]; omega)
              · simp (disch := omega) only [stt_j, stt_eq]
                omega
              · simp (disch := omega) only [stt_j, stt_eq]
                first
                | (rw [if_pos (by omega)]; done)
                | (rw [if_neg (by omega)]; done)
                | (rw [if_pos (by omega)]; omega)
              · repeat (first | exact go | refine TRf_st ?_ (by omega))
            · refine R_aload_n fX8_tries_235 rfl ?_
              refine R_getI 13 fX8_tries_236 hM.1 (by omega) rfl rfl rfl ?_
              simp (disch := omega) only [stt_j, stt_eq]
              refine R_goto fX8_tries_239 rfl ?_
              refine R_iadd fX8_tries_243 (by omega) ?_
              refine R_putI 11 fX8_tries_244 hM.1 (by omega) rfl rfl rfl ?_
              refine R_aload_n fX8_tries_247 rfl ?_
              refine R_iconst fX8_tries_248 ?_
              refine R_putI 13 fX8_tries_249 hM.1 (by omega) rfl rfl rfl ?_
              refine R_return fX8_tries_252 rfl ?_
              refine ⟨_, rfl, ?_, ?_, ?_, ?_, ?_, ?_⟩
              · simp (disch := omega) only [stt_j, stt_eq]
                first
                | (rw [if_pos (by omega)]; done)
                | (rw [if_pos (by omega)]; omega)
                | (rw [if_neg (by omega)]; done)
                | (rw [if_neg (by omega)]; omega)
              · simp (disch := omega) only [stt_j, stt_eq]
                first
                | (rw [if_pos (by omega)]; done)
                | (rw [if_pos (by omega)]; omega)
                | (rw [if_neg (by omega)]; done)
                | (rw [if_neg (by omega)]; omega)
              · simp (disch := omega) only [stt_j, stt_eq]
                unfold gn
                first
                | (rw [if_pos (by omega)]; done)
                | (rw [if_neg (by omega), if_pos (by omega)]; done)
                | (rw [if_pos (by omega)]; omega)
                | (rw [if_neg (by omega), if_pos (by omega)]; omega)
                | (rw [if_neg (by omega), if_neg (by omega)]; omega)
              · simp (disch := omega) only [stt_j, stt_eq]
                omega
              · simp (disch := omega) only [stt_j, stt_eq]
                first
                | (rw [if_pos (by omega)]; done)
                | (rw [if_neg (by omega)]; done)
                | (rw [if_pos (by omega)]; omega)
              · repeat (first | exact go | refine TRf_st ?_ (by omega))
          · refine R_iconst fX8_tries_211 ?_
            refine R_goto fX8_tries_212 rfl ?_
            refine R_iadd fX8_tries_219 (by omega) ?_
            refine R_putI 10 fX8_tries_220 hM.1 (by omega) rfl rfl rfl ?_
            refine R_aload_n fX8_tries_223 rfl ?_
            refine R_dup fX8_tries_224 ?_
            refine R_getI 11 fX8_tries_225 hM.1 (by omega) rfl rfl rfl ?_
            simp (disch := omega) only [stt_j, stt_eq]
            refine R_iload fX8_tries_228 rfl ?_
            refine R_iload fX8_tries_230 rfl ?_
            refine R_icmp_le fX8_tries_232 rfl (fun h232 => ?_) (fun h232 => ?_)
            · refine R_iconst fX8_tries_242 ?_
              refine R_iadd fX8_tries_243 (by omega) ?_
              refine R_putI 11 fX8_tries_244 hM.1 (by omega) rfl rfl rfl ?_
              refine R_aload_n fX8_tries_247 rfl ?_
              refine R_iconst fX8_tries_248 ?_
              refine R_putI 13 fX8_tries_249 hM.1 (by omega) rfl rfl rfl ?_
              refine R_return fX8_tries_252 rfl ?_
              refine ⟨_, rfl, ?_, ?_, ?_, ?_, ?_, ?_⟩
              · simp (disch := omega) only [stt_j, stt_eq]
                first
                | (rw [if_pos (by omega)]; done)
                | (rw [if_pos (by omega)]; omega)
                | (rw [if_neg (by omega)]; done)
                | (rw [if_neg (by omega)]; omega)
              · simp (disch := omega) only [stt_j, stt_eq]
                first
                | (rw [if_pos (by omega)]; done)
                | (rw [if_pos (by omega)]; omega)
                | (rw [if_neg (by omega)]; done)
                | (rw [if_neg (by omega)]; omega)
              · simp (disch := omega) only [stt_j, stt_eq]
                unfold gn
                first
                | (rw [if_pos (by omega)]; done)
                | (rw [if_neg (by omega), if_pos (by omega)]; done)
                | (rw [if_pos (by omega)]; omega)
                | (rw [if_neg (by omega), if_pos (by omega)]; omega)
                | (rw [if_neg (by omega), if_neg (by omega)]; omega)
              · simp (disch := omega) only [stt_j, stt_eq]
                omega
              · simp (disch := omega) only [stt_j, stt_eq]
                first
                | (rw [if_pos (by omega)]; done)
                | (rw [if_neg (by omega)]; done)
                | (rw [if_pos (by omega)]; omega)
              · repeat (first | exact go | refine TRf_st ?_ (by omega))
            · refine R_aload_n fX8_tries_235 rfl ?_
              refine R_getI 13 fX8_tries_236 hM.1 (by omega) rfl rfl rfl ?_
              simp (disch := omega) only [stt_j, stt_eq]
              refine R_goto fX8_tries_239 rfl ?_
              refine R_iadd fX8_tries_243 (by omega) ?_
              refine R_putI 11 fX8_tries_244 hM.1 (by omega) rfl rfl rfl ?_
              refine R_aload_n fX8_tries_247 rfl ?_
              refine R_iconst fX8_tries_248 ?_
              refine R_putI 13 fX8_tries_249 hM.1 (by omega) rfl rfl rfl ?_
              refine R_return fX8_tries_252 rfl ?_
              refine ⟨_, rfl, ?_, ?_, ?_, ?_, ?_, ?_⟩
              · simp (disch := omega) only [stt_j, stt_eq]
                first
                | (rw [if_pos (by omega)]; done)
                | (rw [if_pos (by omega)]; omega)
                | (rw [if_neg (by omega)]; done)
                | (rw [if_neg (by omega)]; omega)
              · simp (disch := omega) only [stt_j, stt_eq]
                first
                | (rw [if_pos (by omega)]; done)
                | (rw [if_pos (by omega)]; omega)
                | (rw [if_neg (by omega)]; done)
                | (rw [if_neg (by omega)]; omega)
              · simp (disch := omega) only [stt_j, stt_eq]
                unfold gn
                first
                | (rw [if_pos (by omega)]; done)
                | (rw [if_neg (by omega), if_pos (by omega)]; done)
                | (rw [if_pos (by omega)]; omega)
                | (rw [if_neg (by omega), if_pos (by omega)]; omega)
                | (rw [if_neg (by omega), if_neg (by omega)]; omega)
              · simp (disch := omega) only [stt_j, stt_eq]
                omega
              · simp (disch := omega) only [stt_j, stt_eq]
                first
                | (rw [if_pos (by omega)]; done)
                | (rw [if_neg (by omega)]; done)
                | (rw [if_pos (by omega)]; omega)
              · repeat (first | exact go | refine TRf_st ?_ (by omega))
    · refine R_return fX8_tries_158 rfl ?_
      refine ⟨_, rfl, ?_, ?_, ?_, ?_, ?_, ?_⟩
      · simp (disch := omega) only [stt_j, stt_eq, g12, g14]
        first
        | (rw [if_pos (by omega)]; done)
        | (rw [if_pos (by omega)]; omega)
        | (rw [if_neg (by omega)]; done)
        | (rw [if_neg (by omega)]; omega)
      · simp (disch := omega) only [stt_j, stt_eq, g12, g14]
        first
        | (rw [if_pos (by omega)]; done)
        | (rw [if_pos (by omega)]; omega)
        | (rw [if_neg (by omega)]; done)
        | (rw [if_neg (by omega)]; omega)
      · simp (disch := omega) only [stt_j, stt_eq, g12, g14]
        unfold gn
        first
        | (rw [if_pos (by omega)]; done)
        | (rw [if_neg (by omega), if_pos (by omega)]; done)
        | (rw [if_pos (by omega)]; omega)
        | (rw [if_neg (by omega), if_pos (by omega)]; omega)
        | (rw [if_neg (by omega), if_neg (by omega)]; omega)
      · simp (disch := omega) only [stt_j, stt_eq, g12, g14]
        omega
      · simp (disch := omega) only [stt_j, stt_eq, g12, g14]
        first
        | (rw [if_pos (by omega)]; done)
        | (rw [if_neg (by omega)]; done)
        | (rw [if_pos (by omega)]; omega)
      · repeat (first | exact go | refine TRf_st ?_ (by omega))
  have t69 : ∀ (v : Int) (G : FM), v = py s x y → G 128 10 = own → G 128 11 = oth → G 128 12 = ahd → G 128 14 = tab → G 129 = s → TRf F G → Rn (d - 1) mX8_tries 69 [some (.inr (some 128)), some (.inl own), some (.inl oth), some (.inl ahd), some (.inl pot), some (.inl tab), some (.inl x), some (.inl y), some (.inl v), none] [] kd G P (QN kd P (fun F' => F' 128 10 = own - py s x y + (if s 28 = 1 ∧ x < y then pot + (py s x y + py s y x) else 0) ∧ F' 128 11 = oth - py s y x + (if s 28 = 1 ∧ y < x then pot + (py s y x + py s x y) else 0) ∧ F' 128 12 = ahd + gn tab x y ∧ (0 ≤ F' 128 13 ∧ F' 128 13 ≤ pot + x + y) ∧ F' 128 14 = (if x = y then tab else 0) ∧ TRf F F')) := by
    intro v G hv g10 g11 g12 g14 g126 go
    refine R_iload fX8_tries_69 rfl ?_
    refine R_iload fX8_tries_71 rfl ?_
    refine R_icmp_le fX8_tries_73 rfl (fun h73 => ?_) (fun h73 => ?_)
    · refine R_iload fX8_tries_81 rfl ?_
      refine R_iload fX8_tries_83 rfl ?_
      refine R_icmp_ne fX8_tries_85 rfl (fun h85 => ?_) (fun h85 => ?_)
      · refine R_iload fX8_tries_103 rfl ?_
        refine R_aload_n fX8_tries_105 rfl ?_
        refine R_getP 0 fX8_tries_106 hM.1 (by omega) rfl rfl rfl hM.2.2.2.2.2.2.2.2.1 ?_
        refine R_bipush fX8_tries_109 ?_
        refine R_iaload fX8_tries_111 hM.2.1 (by omega) ?_
        rw [g126]
        refine R_callE fX8_tries_112 rfl rfl pX8_least rfl ⟨Nat.le_of_ble_eq_true rfl, rfl⟩ (sp_mleast (by omega)) ?_
        refine R_istore fX8_tries_115 rfl ?_
        first
        | exact t117 _ _ G hv (py_gt (by omega)).symm g10 g11 g12 g14 g126 go
        | exact t117 _ _ G hv (by rw [show x = y by omega]; exact py_eq.symm) g10 g11 g12 g14 g126 go
        | exact t117 _ _ G hv (py_lt (by omega)).symm g10 g11 g12 g14 g126 go
      · refine R_iload fX8_tries_88 rfl ?_
        refine R_aload_n fX8_tries_90 rfl ?_
        refine R_getP 0 fX8_tries_91 hM.1 (by omega) rfl rfl rfl hM.2.2.2.2.2.2.2.2.1 ?_
        refine R_bipush fX8_tries_94 ?_
        refine R_iaload fX8_tries_96 hM.2.1 (by omega) ?_
        rw [g126]
        refine R_callE fX8_tries_97 rfl rfl pX8_least rfl ⟨Nat.le_of_ble_eq_true rfl, rfl⟩ (sp_mleast (by omega)) ?_
        refine R_goto fX8_tries_100 rfl ?_
        refine R_istore fX8_tries_115 rfl ?_
        first
        | exact t117 _ _ G hv (py_gt (by omega)).symm g10 g11 g12 g14 g126 go
        | exact t117 _ _ G hv (by rw [show x = y by omega]; exact py_eq.symm) g10 g11 g12 g14 g126 go
        | exact t117 _ _ G hv (py_lt (by omega)).symm g10 g11 g12 g14 g126 go
    · refine R_iload fX8_tries_76 rfl ?_
      refine R_goto fX8_tries_78 rfl ?_
      refine R_istore fX8_tries_115 rfl ?_
      first
      | exact t117 _ _ G hv (py_gt (by omega)).symm g10 g11 g12 g14 g126 go
      | exact t117 _ _ G hv (by rw [show x = y by omega]; exact py_eq.symm) g10 g11 g12 g14 g126 go
      | exact t117 _ _ G hv (py_lt (by omega)).symm g10 g11 g12 g14 g126 go
  refine R_aload_n fX8_tries_0 rfl ?_
  refine R_iload_n fX8_tries_1 rfl ?_
  refine R_putI 10 fX8_tries_2 hM.1 (by omega) rfl rfl rfl ?_
  refine R_aload_n fX8_tries_5 rfl ?_
  refine R_iload_n fX8_tries_6 rfl ?_
  refine R_putI 11 fX8_tries_7 hM.1 (by omega) rfl rfl rfl ?_
  refine R_aload_n fX8_tries_10 rfl ?_
  refine R_iload_n fX8_tries_11 rfl ?_
  refine R_putI 12 fX8_tries_12 hM.1 (by omega) rfl rfl rfl ?_
  refine R_aload_n fX8_tries_15 rfl ?_
  refine R_iload fX8_tries_16 rfl ?_
  refine R_putI 14 fX8_tries_18 hM.1 (by omega) rfl rfl rfl ?_
  refine R_iload fX8_tries_21 rfl ?_
  refine R_iload fX8_tries_23 rfl ?_
  refine R_icmp_le fX8_tries_25 rfl (fun h25 => ?_) (fun h25 => ?_)
  · refine R_iload fX8_tries_33 rfl ?_
    refine R_iload fX8_tries_35 rfl ?_
    refine R_icmp_ne fX8_tries_37 rfl (fun h37 => ?_) (fun h37 => ?_)
    · refine R_iload fX8_tries_55 rfl ?_
      refine R_aload_n fX8_tries_57 rfl ?_
      refine R_getP 0 fX8_tries_58 hM.1 (by omega) rfl rfl rfl hM.2.2.2.2.2.2.2.2.1 ?_
      refine R_bipush fX8_tries_61 ?_
      refine R_iaload fX8_tries_63 hM.2.1 (by omega) ?_
      simp (disch := omega) only [stt_k]
      rw [h126]
      refine R_callE fX8_tries_64 rfl rfl pX8_least rfl ⟨Nat.le_of_ble_eq_true rfl, rfl⟩ (sp_mleast (by omega)) ?_
      refine R_istore fX8_tries_67 rfl ?_
      refine t69 _ _ ?_ (by simp (disch := omega) only [stt_j, stt_eq]) (by simp (disch := omega) only [stt_j, stt_eq]) (by simp (disch := omega) only [stt_j, stt_eq]) (stt_eq _ _ _ _) (by simp (disch := omega) only [stt_kr]; exact h126) (by repeat (first | exact ⟨fun _ _ => rfl, fun _ _ => rfl⟩ | refine TRf_st ?_ (by omega)))
      first
      | exact (py_gt (by omega)).symm
      | (rw [show x = y by omega]; exact py_eq.symm)
      | exact (py_lt (by omega)).symm
    · refine R_iload fX8_tries_40 rfl ?_
      refine R_aload_n fX8_tries_42 rfl ?_
      refine R_getP 0 fX8_tries_43 hM.1 (by omega) rfl rfl rfl hM.2.2.2.2.2.2.2.2.1 ?_
      refine R_bipush fX8_tries_46 ?_
      refine R_iaload fX8_tries_48 hM.2.1 (by omega) ?_
      simp (disch := omega) only [stt_k]
      rw [h126]
      refine R_callE fX8_tries_49 rfl rfl pX8_least rfl ⟨Nat.le_of_ble_eq_true rfl, rfl⟩ (sp_mleast (by omega)) ?_
      refine R_goto fX8_tries_52 rfl ?_
      refine R_istore fX8_tries_67 rfl ?_
      refine t69 _ _ ?_ (by simp (disch := omega) only [stt_j, stt_eq]) (by simp (disch := omega) only [stt_j, stt_eq]) (by simp (disch := omega) only [stt_j, stt_eq]) (stt_eq _ _ _ _) (by simp (disch := omega) only [stt_kr]; exact h126) (by repeat (first | exact ⟨fun _ _ => rfl, fun _ _ => rfl⟩ | refine TRf_st ?_ (by omega)))
      first
      | exact (py_gt (by omega)).symm
      | (rw [show x = y by omega]; exact py_eq.symm)
      | exact (py_lt (by omega)).symm
  · refine R_iload fX8_tries_28 rfl ?_
    refine R_goto fX8_tries_30 rfl ?_
    refine R_istore fX8_tries_67 rfl ?_
    refine t69 _ _ ?_ (by simp (disch := omega) only [stt_j, stt_eq]) (by simp (disch := omega) only [stt_j, stt_eq]) (by simp (disch := omega) only [stt_j, stt_eq]) (stt_eq _ _ _ _) (by simp (disch := omega) only [stt_kr]; exact h126) (by repeat (first | exact ⟨fun _ _ => rfl, fun _ _ => rfl⟩ | refine TRf_st ?_ (by omega)))
    first
    | exact (py_gt (by omega)).symm
    | (rw [show x = y by omega]; exact py_eq.symm)
    | exact (py_lt (by omega)).symm
