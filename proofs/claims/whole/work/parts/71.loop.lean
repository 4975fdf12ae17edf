/-! ## the law's loop -/
abbrev QL (kd : KL) : RS → Prop := fun rs => rs.1 = some (.inl 1) ∧ rs.2.1 = kd
def LW (kd : KL) (F : FM) (P : PM) (xf : Int → Int) (t : Int) (s : Int → Int) (m : Int) (σ : Int → Int → Int) (hs : Int) (sn : Int → Int) (n : Int) (c : Int → Int) : Prop := CW kd F P s m σ hs sn n c ∧ shM kd P ∧ RWl F s m σ hs sn n c ∧ IW t s m σ hs sn n ∧ F 0 = xf
/-- behind a call on both sides -/
theorem LW_of {kd : KL} {F F1 F2 : FM} {P P1 : PM} {xf : Int → Int} {t : Int} {s' : Int → Int} {m' : Int} {σ' : Int → Int → Int} {hs' : Int} {sn' : Int → Int} {n' : Int} {c' : Int → Int} (hx : F 0 = xf) (hM : shM kd P) (h1 : CW kd F1 P1 s' m' σ' hs' sn' n' c') (h2 : FR F F1 P P1) (h3 : RWl F2 s' m' σ' hs' sn' n' c') (h4 : ∀ k, k < 128 → F2 k = F1 k) (hI : IW t s' m' σ' hs' sn' n') : LW kd F2 P1 xf t s' m' σ' hs' sn' n' c' :=
  ⟨CW_lt h1 hI.1.2.1.2 h4, shM_FR hM (h2 128 (Or.inr (by omega))).2, h3, hI, by rw [h4 0 (by omega), (h2 0 (Or.inl (by omega))).1]; exact hx⟩
theorem law_begin {kd : KL} {F : FM} {P : PM} {L : Nat} {xf : Int → Int} {i t : Int} {s : Int → Int} {m : Int} {σ : Int → Int → Int} {hs : Int} {sn : Int → Int} {n : Int} {c : Int → Int} (hkL : kd[0]? = some (0, L)) (hk3 : kd[3]? = some (9, 8)) (hxb : ∀ j, inb (xf j)) (h0 : 0 ≤ i) (hi : i + 3 ≤ L) (hL : L ≤ 1536) (ht : 0 ≤ t ∧ t ≤ 600) (hW : LW kd F P xf t s m σ hs sn n c) (K : ∀ F' P' s' m' σ' hs' sn' n' c', LW kd F' P' xf (t + 1) s' m' σ' hs' sn' n' c' → Rn 9 mL_law 689 [some (.inr (some 0)), some (.inr (some 3)), some (.inr (some 128)), some (.inl i)] [] kd F' P' (QL kd)) : Rn 9 mL_law 140 [some (.inr (some 0)), some (.inr (some 3)), some (.inr (some 128)), some (.inl i)] [] kd F P (QL kd) := by
  obtain ⟨hC, hM, hR, hI, hx⟩ := hW
  have hA := hI.1
  have hs2 := hI.2.1
  refine R_aload_n fL_law_140 rfl ?_
  refine R_aload_n fL_law_141 rfl ?_
  refine R_iload_n fL_law_142 rfl ?_
  refine R_iconst fL_law_143 ?_
  refine R_iadd fL_law_144 (by omega) ?_
  refine R_iaload fL_law_145 hkL (by omega) ?_
  rw [hx]
  refine R_aload_n fL_law_146 rfl ?_
  refine R_iload_n fL_law_147 rfl ?_
  refine R_iconst fL_law_148 ?_
  refine R_iadd fL_law_149 (by omega) ?_
  refine R_iaload fL_law_150 hkL (by omega) ?_
  rw [hx]
  refine R_callI fL_law_151 rfl rfl pX7_begin rfl ⟨Nat.le_of_ble_eq_true rfl, rcv_v rfl (by omega) hk3⟩ (sp_xbegin (by omega) hC hA ) (fun r F1 P1 q => ?_)
  obtain ⟨q1, q2, q3⟩ := q
  have hx1 : F1 0 = xf := by rw [(q3 0 (Or.inl (by omega))).1]; exact hx
  have hM1 : shM kd P1 := shM_FR hM (q3 128 (Or.inr (by omega))).2
  have hR1 : RWl F1 s m σ hs sn n c := RW_FR hR (fun k hk => (q3 k (Or.inr hk)).1)
  refine R_aload_n fL_law_154 rfl ?_
  refine R_aload_n fL_law_155 rfl ?_
  refine R_iload_n fL_law_156 rfl ?_
  refine R_iconst fL_law_157 ?_
  refine R_iadd fL_law_158 (by omega) ?_
  refine R_iaload fL_law_159 hkL (by omega) ?_
  rw [hx1]
  refine R_aload_n fL_law_160 rfl ?_
  refine R_iload_n fL_law_161 rfl ?_
  refine R_iconst fL_law_162 ?_
  refine R_iadd fL_law_163 (by omega) ?_
  refine R_iaload fL_law_164 hkL (by omega) ?_
  rw [hx1]
  refine R_callV fL_law_165 rfl rfl pX8_begin rfl ⟨Nat.le_of_ble_eq_true rfl, rcv_v rfl (by omega) hM1.1⟩ (sp_rbegin (by omega) hM1 hR1 hA ) (fun r2 F2 z => ?_)
  obtain ⟨z1, z2, z3⟩ := z
  refine R_icmp_eq fL_law_168 rfl (fun _ => ?_) (fun h => absurd (q1.trans z1.symm) h)
  exact K _ _ _ _ _ _ _ _ _ (LW_of hx hM q2 q3 z2 z3 (IW_beg hI _))
theorem law_lot {kd : KL} {F : FM} {P : PM} {L : Nat} {xf : Int → Int} {i t : Int} {s : Int → Int} {m : Int} {σ : Int → Int → Int} {hs : Int} {sn : Int → Int} {n : Int} {c : Int → Int} (hkL : kd[0]? = some (0, L)) (hk3 : kd[3]? = some (9, 8)) (hxb : ∀ j, inb (xf j)) (h0 : 0 ≤ i) (hi : i + 3 ≤ L) (hL : L ≤ 1536) (ht : 0 ≤ t ∧ t ≤ 600) (hW : LW kd F P xf t s m σ hs sn n c) (K : ∀ F' P' s' m' σ' hs' sn' n' c', LW kd F' P' xf (t + 1) s' m' σ' hs' sn' n' c' → Rn 9 mL_law 689 [some (.inr (some 0)), some (.inr (some 3)), some (.inr (some 128)), some (.inl i)] [] kd F' P' (QL kd)) : Rn 9 mL_law 173 [some (.inr (some 0)), some (.inr (some 3)), some (.inr (some 128)), some (.inl i)] [] kd F P (QL kd) := by
  obtain ⟨hC, hM, hR, hI, hx⟩ := hW
  have hA := hI.1
  have hs2 := hI.2.1
  refine R_aload_n fL_law_173 rfl ?_
  refine R_aload_n fL_law_174 rfl ?_
  refine R_iload_n fL_law_175 rfl ?_
  refine R_iconst fL_law_176 ?_
  refine R_iadd fL_law_177 (by omega) ?_
  refine R_iaload fL_law_178 hkL (by omega) ?_
  rw [hx]
  refine R_callI fL_law_179 rfl rfl pX7_lot rfl ⟨Nat.le_of_ble_eq_true rfl, rcv_v rfl (by omega) hk3⟩ (sp_xlot (by omega) hC hA ) (fun r F1 P1 q => ?_)
  obtain ⟨q1, q2, q3⟩ := q
  have hx1 : F1 0 = xf := by rw [(q3 0 (Or.inl (by omega))).1]; exact hx
  have hM1 : shM kd P1 := shM_FR hM (q3 128 (Or.inr (by omega))).2
  have hR1 : RWl F1 s m σ hs sn n c := RW_FR hR (fun k hk => (q3 k (Or.inr hk)).1)
  refine R_aload_n fL_law_182 rfl ?_
  refine R_aload_n fL_law_183 rfl ?_
  refine R_iload_n fL_law_184 rfl ?_
  refine R_iconst fL_law_185 ?_
  refine R_iadd fL_law_186 (by omega) ?_
  refine R_iaload fL_law_187 hkL (by omega) ?_
  rw [hx1]
  refine R_callV fL_law_188 rfl rfl pX8_lot rfl ⟨Nat.le_of_ble_eq_true rfl, rcv_v rfl (by omega) hM1.1⟩ (sp_rlot (by omega) hM1 hR1 hA ) (fun r2 F2 z => ?_)
  obtain ⟨z1, z2, z3⟩ := z
  refine R_icmp_eq fL_law_191 rfl (fun _ => ?_) (fun h => absurd (q1.trans z1.symm) h)
  exact K _ _ _ _ _ _ _ _ _ (LW_of hx hM q2 q3 z2 z3 (IW_lot hI _))
theorem law_bid {kd : KL} {F : FM} {P : PM} {L : Nat} {xf : Int → Int} {i t : Int} {s : Int → Int} {m : Int} {σ : Int → Int → Int} {hs : Int} {sn : Int → Int} {n : Int} {c : Int → Int} (hkL : kd[0]? = some (0, L)) (hk3 : kd[3]? = some (9, 8)) (hxb : ∀ j, inb (xf j)) (h0 : 0 ≤ i) (hi : i + 3 ≤ L) (hL : L ≤ 1536) (ht : 0 ≤ t ∧ t ≤ 600) (hW : LW kd F P xf t s m σ hs sn n c) (K : ∀ F' P' s' m' σ' hs' sn' n' c', LW kd F' P' xf (t + 1) s' m' σ' hs' sn' n' c' → Rn 9 mL_law 689 [some (.inr (some 0)), some (.inr (some 3)), some (.inr (some 128)), some (.inl i)] [] kd F' P' (QL kd)) : Rn 9 mL_law 196 [some (.inr (some 0)), some (.inr (some 3)), some (.inr (some 128)), some (.inl i)] [] kd F P (QL kd) := by
  obtain ⟨hC, hM, hR, hI, hx⟩ := hW
  have hA := hI.1
  have hs2 := hI.2.1
  refine R_aload_n fL_law_196 rfl ?_
  refine R_aload_n fL_law_197 rfl ?_
  refine R_iload_n fL_law_198 rfl ?_
  refine R_iconst fL_law_199 ?_
  refine R_iadd fL_law_200 (by omega) ?_
  refine R_iaload fL_law_201 hkL (by omega) ?_
  rw [hx]
  refine R_aload_n fL_law_202 rfl ?_
  refine R_iload_n fL_law_203 rfl ?_
  refine R_iconst fL_law_204 ?_
  refine R_iadd fL_law_205 (by omega) ?_
  refine R_iaload fL_law_206 hkL (by omega) ?_
  rw [hx]
  refine R_callI fL_law_207 rfl rfl pX7_bid rfl ⟨Nat.le_of_ble_eq_true rfl, rcv_v rfl (by omega) hk3⟩ (sp_xbid (by omega) hC hA ) (fun r F1 P1 q => ?_)
  obtain ⟨q1, q2, q3⟩ := q
  have hx1 : F1 0 = xf := by rw [(q3 0 (Or.inl (by omega))).1]; exact hx
  have hM1 : shM kd P1 := shM_FR hM (q3 128 (Or.inr (by omega))).2
  have hR1 : RWl F1 s m σ hs sn n c := RW_FR hR (fun k hk => (q3 k (Or.inr hk)).1)
  refine R_aload_n fL_law_210 rfl ?_
  refine R_aload_n fL_law_211 rfl ?_
  refine R_iload_n fL_law_212 rfl ?_
  refine R_iconst fL_law_213 ?_
  refine R_iadd fL_law_214 (by omega) ?_
  refine R_iaload fL_law_215 hkL (by omega) ?_
  rw [hx1]
  refine R_aload_n fL_law_216 rfl ?_
  refine R_iload_n fL_law_217 rfl ?_
  refine R_iconst fL_law_218 ?_
  refine R_iadd fL_law_219 (by omega) ?_
  refine R_iaload fL_law_220 hkL (by omega) ?_
  rw [hx1]
  refine R_callV fL_law_221 rfl rfl pX8_bid rfl ⟨Nat.le_of_ble_eq_true rfl, rcv_v rfl (by omega) hM1.1⟩ (sp_rbid (by omega) hM1 hR1 hA ) (fun r2 F2 z => ?_)
  obtain ⟨z1, z2, z3⟩ := z
  refine R_icmp_eq fL_law_224 rfl (fun _ => ?_) (fun h => absurd (q1.trans z1.symm) h)
  exact K _ _ _ _ _ _ _ _ _ (LW_of hx hM q2 q3 z2 z3 (IW_bid hI _))
theorem law_resolve {kd : KL} {F : FM} {P : PM} {L : Nat} {xf : Int → Int} {i t : Int} {s : Int → Int} {m : Int} {σ : Int → Int → Int} {hs : Int} {sn : Int → Int} {n : Int} {c : Int → Int} (hkL : kd[0]? = some (0, L)) (hk3 : kd[3]? = some (9, 8)) (hxb : ∀ j, inb (xf j)) (h0 : 0 ≤ i) (hi : i + 3 ≤ L) (hL : L ≤ 1536) (ht : 0 ≤ t ∧ t ≤ 600) (hW : LW kd F P xf t s m σ hs sn n c) (K : ∀ F' P' s' m' σ' hs' sn' n' c', LW kd F' P' xf (t + 1) s' m' σ' hs' sn' n' c' → Rn 9 mL_law 689 [some (.inr (some 0)), some (.inr (some 3)), some (.inr (some 128)), some (.inl i)] [] kd F' P' (QL kd)) : Rn 9 mL_law 229 [some (.inr (some 0)), some (.inr (some 3)), some (.inr (some 128)), some (.inl i)] [] kd F P (QL kd) := by
  obtain ⟨hC, hM, hR, hI, hx⟩ := hW
  have hA := hI.1
  have hs2 := hI.2.1
  refine R_aload_n fL_law_229 rfl ?_
  refine R_callI fL_law_230 rfl rfl pX7_resolve rfl ⟨Nat.le_of_ble_eq_true rfl, rcv_v rfl (by omega) hk3⟩ (sp_xresolve (by omega) hC hA (by omega)) (fun r F1 P1 q => ?_)
  obtain ⟨q1, q2, q3⟩ := q
  have hx1 : F1 0 = xf := by rw [(q3 0 (Or.inl (by omega))).1]; exact hx
  have hM1 : shM kd P1 := shM_FR hM (q3 128 (Or.inr (by omega))).2
  have hR1 : RWl F1 s m σ hs sn n c := RW_FR hR (fun k hk => (q3 k (Or.inr hk)).1)
  refine R_aload_n fL_law_233 rfl ?_
  refine R_callV fL_law_234 rfl rfl pX8_resolve rfl ⟨Nat.le_of_ble_eq_true rfl, rcv_v rfl (by omega) hM1.1⟩ (sp_rresolve (by omega) hM1 hR1 hA ) (fun r2 F2 z => ?_)
  obtain ⟨z1, z2, z3⟩ := z
  refine R_icmp_eq fL_law_237 rfl (fun _ => ?_) (fun h => absurd (q1.trans z1.symm) h)
  exact K _ _ _ _ _ _ _ _ _ (LW_of hx hM q2 q3 z2 z3 (IW_res hI (by omega) _))
theorem law_set {kd : KL} {F : FM} {P : PM} {L : Nat} {xf : Int → Int} {i t : Int} {s : Int → Int} {m : Int} {σ : Int → Int → Int} {hs : Int} {sn : Int → Int} {n : Int} {c : Int → Int} (hkL : kd[0]? = some (0, L)) (hk3 : kd[3]? = some (9, 8)) (hxb : ∀ j, inb (xf j)) (h0 : 0 ≤ i) (hi : i + 3 ≤ L) (hL : L ≤ 1536) (ht : 0 ≤ t ∧ t ≤ 600) (hW : LW kd F P xf t s m σ hs sn n c) (K : ∀ F' P' s' m' σ' hs' sn' n' c', LW kd F' P' xf (t + 1) s' m' σ' hs' sn' n' c' → Rn 9 mL_law 689 [some (.inr (some 0)), some (.inr (some 3)), some (.inr (some 128)), some (.inl i)] [] kd F' P' (QL kd)) : Rn 9 mL_law 242 [some (.inr (some 0)), some (.inr (some 3)), some (.inr (some 128)), some (.inl i)] [] kd F P (QL kd) := by
  obtain ⟨hC, hM, hR, hI, hx⟩ := hW
  have hA := hI.1
  have hs2 := hI.2.1
  refine R_aload_n fL_law_242 rfl ?_
  refine R_aload_n fL_law_243 rfl ?_
  refine R_iload_n fL_law_244 rfl ?_
  refine R_iconst fL_law_245 ?_
  refine R_iadd fL_law_246 (by omega) ?_
  refine R_iaload fL_law_247 hkL (by omega) ?_
  rw [hx]
  refine R_aload_n fL_law_248 rfl ?_
  refine R_iload_n fL_law_249 rfl ?_
  refine R_iconst fL_law_250 ?_
  refine R_iadd fL_law_251 (by omega) ?_
  refine R_iaload fL_law_252 hkL (by omega) ?_
  rw [hx]
  refine R_callI fL_law_253 rfl rfl pX7_set rfl ⟨Nat.le_of_ble_eq_true rfl, rcv_v rfl (by omega) hk3⟩ (sp_xset (by omega) hC hA ) (fun r F1 P1 q => ?_)
  obtain ⟨q1, q2, q3⟩ := q
  have hx1 : F1 0 = xf := by rw [(q3 0 (Or.inl (by omega))).1]; exact hx
  have hM1 : shM kd P1 := shM_FR hM (q3 128 (Or.inr (by omega))).2
  have hR1 : RWl F1 s m σ hs sn n c := RW_FR hR (fun k hk => (q3 k (Or.inr hk)).1)
  refine R_aload_n fL_law_256 rfl ?_
  refine R_aload_n fL_law_257 rfl ?_
  refine R_iload_n fL_law_258 rfl ?_
  refine R_iconst fL_law_259 ?_
  refine R_iadd fL_law_260 (by omega) ?_
  refine R_iaload fL_law_261 hkL (by omega) ?_
  rw [hx1]
  refine R_aload_n fL_law_262 rfl ?_
  refine R_iload_n fL_law_263 rfl ?_
  refine R_iconst fL_law_264 ?_
  refine R_iadd fL_law_265 (by omega) ?_
  refine R_iaload fL_law_266 hkL (by omega) ?_
  rw [hx1]
  refine R_callV fL_law_267 rfl rfl pX8_set rfl ⟨Nat.le_of_ble_eq_true rfl, rcv_v rfl (by omega) hM1.1⟩ (sp_rset (by omega) hM1 hR1 hA ) (fun r2 F2 z => ?_)
  obtain ⟨z1, z2, z3⟩ := z
  refine R_icmp_eq fL_law_270 rfl (fun _ => ?_) (fun h => absurd (q1.trans z1.symm) h)
  exact K _ _ _ _ _ _ _ _ _ (LW_of hx hM q2 q3 z2 z3 (IW_set hI _))
theorem law_playerOf {kd : KL} {F : FM} {P : PM} {L : Nat} {xf : Int → Int} {i t : Int} {s : Int → Int} {m : Int} {σ : Int → Int → Int} {hs : Int} {sn : Int → Int} {n : Int} {c : Int → Int} (hkL : kd[0]? = some (0, L)) (hk3 : kd[3]? = some (9, 8)) (hxb : ∀ j, inb (xf j)) (h0 : 0 ≤ i) (hi : i + 3 ≤ L) (hL : L ≤ 1536) (ht : 0 ≤ t ∧ t ≤ 600) (hW : LW kd F P xf t s m σ hs sn n c) (K : ∀ F' P' s' m' σ' hs' sn' n' c', LW kd F' P' xf (t + 1) s' m' σ' hs' sn' n' c' → Rn 9 mL_law 689 [some (.inr (some 0)), some (.inr (some 3)), some (.inr (some 128)), some (.inl i)] [] kd F' P' (QL kd)) : Rn 9 mL_law 275 [some (.inr (some 0)), some (.inr (some 3)), some (.inr (some 128)), some (.inl i)] [] kd F P (QL kd) := by
  obtain ⟨hC, hM, hR, hI, hx⟩ := hW
  have hA := hI.1
  have hs2 := hI.2.1
  refine R_aload_n fL_law_275 rfl ?_
  refine R_aload_n fL_law_276 rfl ?_
  refine R_iload_n fL_law_277 rfl ?_
  refine R_iconst fL_law_278 ?_
  refine R_iadd fL_law_279 (by omega) ?_
  refine R_iaload fL_law_280 hkL (by omega) ?_
  rw [hx]
  refine R_aload_n fL_law_281 rfl ?_
  refine R_iload_n fL_law_282 rfl ?_
  refine R_iconst fL_law_283 ?_
  refine R_iadd fL_law_284 (by omega) ?_
  refine R_iaload fL_law_285 hkL (by omega) ?_
  rw [hx]
  refine R_callI fL_law_286 rfl rfl pX7_playerOf rfl ⟨Nat.le_of_ble_eq_true rfl, rcv_v rfl (by omega) hk3⟩ (sp_xplayerOf (by omega) hC hA ) (fun r F1 P1 q => ?_)
  obtain ⟨q1, q2, q3⟩ := q
  have hx1 : F1 0 = xf := by rw [(q3 0 (Or.inl (by omega))).1]; exact hx
  have hM1 : shM kd P1 := shM_FR hM (q3 128 (Or.inr (by omega))).2
  have hR1 : RWl F1 s m σ hs sn n c := RW_FR hR (fun k hk => (q3 k (Or.inr hk)).1)
  refine R_aload_n fL_law_289 rfl ?_
  refine R_aload_n fL_law_290 rfl ?_
  refine R_iload_n fL_law_291 rfl ?_
  refine R_iconst fL_law_292 ?_
  refine R_iadd fL_law_293 (by omega) ?_
  refine R_iaload fL_law_294 hkL (by omega) ?_
  rw [hx1]
  refine R_aload_n fL_law_295 rfl ?_
  refine R_iload_n fL_law_296 rfl ?_
  refine R_iconst fL_law_297 ?_
  refine R_iadd fL_law_298 (by omega) ?_
  refine R_iaload fL_law_299 hkL (by omega) ?_
  rw [hx1]
  refine R_callV fL_law_300 rfl rfl pX8_playerOf rfl ⟨Nat.le_of_ble_eq_true rfl, rcv_v rfl (by omega) hM1.1⟩ (sp_rplayerOf (by omega) hM1 hR1 hA ) (fun r2 F2 z => ?_)
  obtain ⟨z1, z2, z3⟩ := z
  refine R_icmp_eq fL_law_303 rfl (fun _ => ?_) (fun h => absurd (q1.trans z1.symm) h)
  exact K _ _ _ _ _ _ _ _ _ (LW_of hx hM q2 q3 z2 z3 (IW_up hI))
theorem law_lotOf {kd : KL} {F : FM} {P : PM} {L : Nat} {xf : Int → Int} {i t : Int} {s : Int → Int} {m : Int} {σ : Int → Int → Int} {hs : Int} {sn : Int → Int} {n : Int} {c : Int → Int} (hkL : kd[0]? = some (0, L)) (hk3 : kd[3]? = some (9, 8)) (hxb : ∀ j, inb (xf j)) (h0 : 0 ≤ i) (hi : i + 3 ≤ L) (hL : L ≤ 1536) (ht : 0 ≤ t ∧ t ≤ 600) (hW : LW kd F P xf t s m σ hs sn n c) (K : ∀ F' P' s' m' σ' hs' sn' n' c', LW kd F' P' xf (t + 1) s' m' σ' hs' sn' n' c' → Rn 9 mL_law 689 [some (.inr (some 0)), some (.inr (some 3)), some (.inr (some 128)), some (.inl i)] [] kd F' P' (QL kd)) : Rn 9 mL_law 308 [some (.inr (some 0)), some (.inr (some 3)), some (.inr (some 128)), some (.inl i)] [] kd F P (QL kd) := by
  obtain ⟨hC, hM, hR, hI, hx⟩ := hW
  have hA := hI.1
  have hs2 := hI.2.1
  refine R_aload_n fL_law_308 rfl ?_
  refine R_aload_n fL_law_309 rfl ?_
  refine R_iload_n fL_law_310 rfl ?_
  refine R_iconst fL_law_311 ?_
  refine R_iadd fL_law_312 (by omega) ?_
  refine R_iaload fL_law_313 hkL (by omega) ?_
  rw [hx]
  refine R_aload_n fL_law_314 rfl ?_
  refine R_iload_n fL_law_315 rfl ?_
  refine R_iconst fL_law_316 ?_
  refine R_iadd fL_law_317 (by omega) ?_
  refine R_iaload fL_law_318 hkL (by omega) ?_
  rw [hx]
  refine R_callI fL_law_319 rfl rfl pX7_lotOf rfl ⟨Nat.le_of_ble_eq_true rfl, rcv_v rfl (by omega) hk3⟩ (sp_xlotOf (by omega) hC hA ) (fun r F1 P1 q => ?_)
  obtain ⟨q1, q2, q3⟩ := q
  have hx1 : F1 0 = xf := by rw [(q3 0 (Or.inl (by omega))).1]; exact hx
  have hM1 : shM kd P1 := shM_FR hM (q3 128 (Or.inr (by omega))).2
  have hR1 : RWl F1 s m σ hs sn n c := RW_FR hR (fun k hk => (q3 k (Or.inr hk)).1)
  refine R_aload_n fL_law_322 rfl ?_
  refine R_aload_n fL_law_323 rfl ?_
  refine R_iload_n fL_law_324 rfl ?_
  refine R_iconst fL_law_325 ?_
  refine R_iadd fL_law_326 (by omega) ?_
  refine R_iaload fL_law_327 hkL (by omega) ?_
  rw [hx1]
  refine R_aload_n fL_law_328 rfl ?_
  refine R_iload_n fL_law_329 rfl ?_
  refine R_iconst fL_law_330 ?_
  refine R_iadd fL_law_331 (by omega) ?_
  refine R_iaload fL_law_332 hkL (by omega) ?_
  rw [hx1]
  refine R_callV fL_law_333 rfl rfl pX8_lotOf rfl ⟨Nat.le_of_ble_eq_true rfl, rcv_v rfl (by omega) hM1.1⟩ (sp_rlotOf (by omega) hM1 hR1 hA ) (fun r2 F2 z => ?_)
  obtain ⟨z1, z2, z3⟩ := z
  refine R_icmp_eq fL_law_336 rfl (fun _ => ?_) (fun h => absurd (q1.trans z1.symm) h)
  exact K _ _ _ _ _ _ _ _ _ (LW_of hx hM q2 q3 z2 z3 (IW_up hI))
theorem law_roundOf {kd : KL} {F : FM} {P : PM} {L : Nat} {xf : Int → Int} {i t : Int} {s : Int → Int} {m : Int} {σ : Int → Int → Int} {hs : Int} {sn : Int → Int} {n : Int} {c : Int → Int} (hkL : kd[0]? = some (0, L)) (hk3 : kd[3]? = some (9, 8)) (hxb : ∀ j, inb (xf j)) (h0 : 0 ≤ i) (hi : i + 3 ≤ L) (hL : L ≤ 1536) (ht : 0 ≤ t ∧ t ≤ 600) (hW : LW kd F P xf t s m σ hs sn n c) (K : ∀ F' P' s' m' σ' hs' sn' n' c', LW kd F' P' xf (t + 1) s' m' σ' hs' sn' n' c' → Rn 9 mL_law 689 [some (.inr (some 0)), some (.inr (some 3)), some (.inr (some 128)), some (.inl i)] [] kd F' P' (QL kd)) : Rn 9 mL_law 341 [some (.inr (some 0)), some (.inr (some 3)), some (.inr (some 128)), some (.inl i)] [] kd F P (QL kd) := by
  obtain ⟨hC, hM, hR, hI, hx⟩ := hW
  have hA := hI.1
  have hs2 := hI.2.1
  refine R_aload_n fL_law_341 rfl ?_
  refine R_aload_n fL_law_342 rfl ?_
  refine R_iload_n fL_law_343 rfl ?_
  refine R_iconst fL_law_344 ?_
  refine R_iadd fL_law_345 (by omega) ?_
  refine R_iaload fL_law_346 hkL (by omega) ?_
  rw [hx]
  refine R_aload_n fL_law_347 rfl ?_
  refine R_iload_n fL_law_348 rfl ?_
  refine R_iconst fL_law_349 ?_
  refine R_iadd fL_law_350 (by omega) ?_
  refine R_iaload fL_law_351 hkL (by omega) ?_
  rw [hx]
  refine R_callI fL_law_352 rfl rfl pX7_roundOf rfl ⟨Nat.le_of_ble_eq_true rfl, rcv_v rfl (by omega) hk3⟩ (sp_xroundOf (by omega) hC hA ) (fun r F1 P1 q => ?_)
  obtain ⟨q1, q2, q3⟩ := q
  have hx1 : F1 0 = xf := by rw [(q3 0 (Or.inl (by omega))).1]; exact hx
  have hM1 : shM kd P1 := shM_FR hM (q3 128 (Or.inr (by omega))).2
  have hR1 : RWl F1 s m σ hs sn n c := RW_FR hR (fun k hk => (q3 k (Or.inr hk)).1)
  refine R_aload_n fL_law_355 rfl ?_
  refine R_aload_n fL_law_356 rfl ?_
  refine R_iload_n fL_law_357 rfl ?_
  refine R_iconst fL_law_358 ?_
  refine R_iadd fL_law_359 (by omega) ?_
  refine R_iaload fL_law_360 hkL (by omega) ?_
  rw [hx1]
  refine R_aload_n fL_law_361 rfl ?_
  refine R_iload_n fL_law_362 rfl ?_
  refine R_iconst fL_law_363 ?_
  refine R_iadd fL_law_364 (by omega) ?_
  refine R_iaload fL_law_365 hkL (by omega) ?_
  rw [hx1]
  refine R_callV fL_law_366 rfl rfl pX8_roundOf rfl ⟨Nat.le_of_ble_eq_true rfl, rcv_v rfl (by omega) hM1.1⟩ (sp_rroundOf (by omega) hM1 hR1 hA (hxb _)) (fun r2 F2 z => ?_)
  obtain ⟨z1, z2, z3⟩ := z
  refine R_icmp_eq fL_law_369 rfl (fun _ => ?_) (fun h => absurd (q1.trans z1.symm) h)
  exact K _ _ _ _ _ _ _ _ _ (LW_of hx hM q2 q3 z2 z3 (IW_up hI))
theorem law_record {kd : KL} {F : FM} {P : PM} {L : Nat} {xf : Int → Int} {i t : Int} {s : Int → Int} {m : Int} {σ : Int → Int → Int} {hs : Int} {sn : Int → Int} {n : Int} {c : Int → Int} (hkL : kd[0]? = some (0, L)) (hk3 : kd[3]? = some (9, 8)) (hxb : ∀ j, inb (xf j)) (h0 : 0 ≤ i) (hi : i + 3 ≤ L) (hL : L ≤ 1536) (ht : 0 ≤ t ∧ t ≤ 600) (hW : LW kd F P xf t s m σ hs sn n c) (K : ∀ F' P' s' m' σ' hs' sn' n' c', LW kd F' P' xf (t + 1) s' m' σ' hs' sn' n' c' → Rn 9 mL_law 689 [some (.inr (some 0)), some (.inr (some 3)), some (.inr (some 128)), some (.inl i)] [] kd F' P' (QL kd)) : Rn 9 mL_law 374 [some (.inr (some 0)), some (.inr (some 3)), some (.inr (some 128)), some (.inl i)] [] kd F P (QL kd) := by
  obtain ⟨hC, hM, hR, hI, hx⟩ := hW
  have hA := hI.1
  have hs2 := hI.2.1
  refine R_aload_n fL_law_374 rfl ?_
  refine R_aload_n fL_law_375 rfl ?_
  refine R_iload_n fL_law_376 rfl ?_
  refine R_iconst fL_law_377 ?_
  refine R_iadd fL_law_378 (by omega) ?_
  refine R_iaload fL_law_379 hkL (by omega) ?_
  rw [hx]
  refine R_aload_n fL_law_380 rfl ?_
  refine R_iload_n fL_law_381 rfl ?_
  refine R_iconst fL_law_382 ?_
  refine R_iadd fL_law_383 (by omega) ?_
  refine R_iaload fL_law_384 hkL (by omega) ?_
  rw [hx]
  refine R_callI fL_law_385 rfl rfl pX7_record rfl ⟨Nat.le_of_ble_eq_true rfl, rcv_v rfl (by omega) hk3⟩ (sp_xrecord (by omega) hC hA ) (fun r F1 P1 q => ?_)
  obtain ⟨q1, q2, q3⟩ := q
  have hx1 : F1 0 = xf := by rw [(q3 0 (Or.inl (by omega))).1]; exact hx
  have hM1 : shM kd P1 := shM_FR hM (q3 128 (Or.inr (by omega))).2
  have hR1 : RWl F1 s m σ hs sn n c := RW_FR hR (fun k hk => (q3 k (Or.inr hk)).1)
  refine R_aload_n fL_law_388 rfl ?_
  refine R_aload_n fL_law_389 rfl ?_
  refine R_iload_n fL_law_390 rfl ?_
  refine R_iconst fL_law_391 ?_
  refine R_iadd fL_law_392 (by omega) ?_
  refine R_iaload fL_law_393 hkL (by omega) ?_
  rw [hx1]
  refine R_aload_n fL_law_394 rfl ?_
  refine R_iload_n fL_law_395 rfl ?_
  refine R_iconst fL_law_396 ?_
  refine R_iadd fL_law_397 (by omega) ?_
  refine R_iaload fL_law_398 hkL (by omega) ?_
  rw [hx1]
  refine R_callV fL_law_399 rfl rfl pX8_record rfl ⟨Nat.le_of_ble_eq_true rfl, rcv_v rfl (by omega) hM1.1⟩ (sp_rrecord (by omega) hM1 hR1 hA ) (fun r2 F2 z => ?_)
  obtain ⟨z1, z2, z3⟩ := z
  refine R_icmp_eq fL_law_402 rfl (fun _ => ?_) (fun h => absurd (q1.trans z1.symm) h)
  exact K _ _ _ _ _ _ _ _ _ (LW_of hx hM q2 q3 z2 z3 (IW_up hI))
theorem law_count {kd : KL} {F : FM} {P : PM} {L : Nat} {xf : Int → Int} {i t : Int} {s : Int → Int} {m : Int} {σ : Int → Int → Int} {hs : Int} {sn : Int → Int} {n : Int} {c : Int → Int} (hkL : kd[0]? = some (0, L)) (hk3 : kd[3]? = some (9, 8)) (hxb : ∀ j, inb (xf j)) (h0 : 0 ≤ i) (hi : i + 3 ≤ L) (hL : L ≤ 1536) (ht : 0 ≤ t ∧ t ≤ 600) (hW : LW kd F P xf t s m σ hs sn n c) (K : ∀ F' P' s' m' σ' hs' sn' n' c', LW kd F' P' xf (t + 1) s' m' σ' hs' sn' n' c' → Rn 9 mL_law 689 [some (.inr (some 0)), some (.inr (some 3)), some (.inr (some 128)), some (.inl i)] [] kd F' P' (QL kd)) : Rn 9 mL_law 407 [some (.inr (some 0)), some (.inr (some 3)), some (.inr (some 128)), some (.inl i)] [] kd F P (QL kd) := by
  obtain ⟨hC, hM, hR, hI, hx⟩ := hW
  have hA := hI.1
  have hs2 := hI.2.1
  refine R_aload_n fL_law_407 rfl ?_
  refine R_aload_n fL_law_408 rfl ?_
  refine R_iload_n fL_law_409 rfl ?_
  refine R_iconst fL_law_410 ?_
  refine R_iadd fL_law_411 (by omega) ?_
  refine R_iaload fL_law_412 hkL (by omega) ?_
  rw [hx]
  refine R_callI fL_law_413 rfl rfl pX7_count rfl ⟨Nat.le_of_ble_eq_true rfl, rcv_v rfl (by omega) hk3⟩ (sp_xcount (by omega) hC hA ) (fun r F1 P1 q => ?_)
  obtain ⟨q1, q2, q3⟩ := q
  have hx1 : F1 0 = xf := by rw [(q3 0 (Or.inl (by omega))).1]; exact hx
  have hM1 : shM kd P1 := shM_FR hM (q3 128 (Or.inr (by omega))).2
  have hR1 : RWl F1 s m σ hs sn n c := RW_FR hR (fun k hk => (q3 k (Or.inr hk)).1)
  refine R_aload_n fL_law_416 rfl ?_
  refine R_aload_n fL_law_417 rfl ?_
  refine R_iload_n fL_law_418 rfl ?_
  refine R_iconst fL_law_419 ?_
  refine R_iadd fL_law_420 (by omega) ?_
  refine R_iaload fL_law_421 hkL (by omega) ?_
  rw [hx1]
  refine R_callV fL_law_422 rfl rfl pX8_count rfl ⟨Nat.le_of_ble_eq_true rfl, rcv_v rfl (by omega) hM1.1⟩ (sp_rcount (by omega) hM1 hR1 hA ) (fun r2 F2 z => ?_)
  obtain ⟨z1, z2, z3⟩ := z
  refine R_icmp_eq fL_law_425 rfl (fun _ => ?_) (fun h => absurd (q1.trans z1.symm) h)
  exact K _ _ _ _ _ _ _ _ _ (LW_of hx hM q2 q3 z2 z3 (IW_up hI))
theorem law_winner {kd : KL} {F : FM} {P : PM} {L : Nat} {xf : Int → Int} {i t : Int} {s : Int → Int} {m : Int} {σ : Int → Int → Int} {hs : Int} {sn : Int → Int} {n : Int} {c : Int → Int} (hkL : kd[0]? = some (0, L)) (hk3 : kd[3]? = some (9, 8)) (hxb : ∀ j, inb (xf j)) (h0 : 0 ≤ i) (hi : i + 3 ≤ L) (hL : L ≤ 1536) (ht : 0 ≤ t ∧ t ≤ 600) (hW : LW kd F P xf t s m σ hs sn n c) (K : ∀ F' P' s' m' σ' hs' sn' n' c', LW kd F' P' xf (t + 1) s' m' σ' hs' sn' n' c' → Rn 9 mL_law 689 [some (.inr (some 0)), some (.inr (some 3)), some (.inr (some 128)), some (.inl i)] [] kd F' P' (QL kd)) : Rn 9 mL_law 430 [some (.inr (some 0)), some (.inr (some 3)), some (.inr (some 128)), some (.inl i)] [] kd F P (QL kd) := by
  obtain ⟨hC, hM, hR, hI, hx⟩ := hW
  have hA := hI.1
  have hs2 := hI.2.1
  refine R_aload_n fL_law_430 rfl ?_
  refine R_callI fL_law_431 rfl rfl pX7_winner rfl ⟨Nat.le_of_ble_eq_true rfl, rcv_v rfl (by omega) hk3⟩ (sp_xwinner (by omega) hC hA ) (fun r F1 P1 q => ?_)
  obtain ⟨q1, q2, q3⟩ := q
  have hx1 : F1 0 = xf := by rw [(q3 0 (Or.inl (by omega))).1]; exact hx
  have hM1 : shM kd P1 := shM_FR hM (q3 128 (Or.inr (by omega))).2
  have hR1 : RWl F1 s m σ hs sn n c := RW_FR hR (fun k hk => (q3 k (Or.inr hk)).1)
  refine R_aload_n fL_law_434 rfl ?_
  refine R_callV fL_law_435 rfl rfl pX8_winner rfl ⟨Nat.le_of_ble_eq_true rfl, rcv_v rfl (by omega) hM1.1⟩ (sp_rwinner (by omega) hM1 hR1 hA ) (fun r2 F2 z => ?_)
  obtain ⟨z1, z2, z3⟩ := z
  refine R_icmp_eq fL_law_438 rfl (fun _ => ?_) (fun h => absurd (q1.trans z1.symm) h)
  exact K _ _ _ _ _ _ _ _ _ (LW_of hx hM q2 q3 z2 z3 (IW_up hI))
theorem law_sure {kd : KL} {F : FM} {P : PM} {L : Nat} {xf : Int → Int} {i t : Int} {s : Int → Int} {m : Int} {σ : Int → Int → Int} {hs : Int} {sn : Int → Int} {n : Int} {c : Int → Int} (hkL : kd[0]? = some (0, L)) (hk3 : kd[3]? = some (9, 8)) (hxb : ∀ j, inb (xf j)) (h0 : 0 ≤ i) (hi : i + 3 ≤ L) (hL : L ≤ 1536) (ht : 0 ≤ t ∧ t ≤ 600) (hW : LW kd F P xf t s m σ hs sn n c) (K : ∀ F' P' s' m' σ' hs' sn' n' c', LW kd F' P' xf (t + 1) s' m' σ' hs' sn' n' c' → Rn 9 mL_law 689 [some (.inr (some 0)), some (.inr (some 3)), some (.inr (some 128)), some (.inl i)] [] kd F' P' (QL kd)) : Rn 9 mL_law 443 [some (.inr (some 0)), some (.inr (some 3)), some (.inr (some 128)), some (.inl i)] [] kd F P (QL kd) := by
  obtain ⟨hC, hM, hR, hI, hx⟩ := hW
  have hA := hI.1
  have hs2 := hI.2.1
  refine R_aload_n fL_law_443 rfl ?_
  refine R_aload_n fL_law_444 rfl ?_
  refine R_iload_n fL_law_445 rfl ?_
  refine R_iconst fL_law_446 ?_
  refine R_iadd fL_law_447 (by omega) ?_
  refine R_iaload fL_law_448 hkL (by omega) ?_
  rw [hx]
  refine R_callI fL_law_449 rfl rfl pX7_sure rfl ⟨Nat.le_of_ble_eq_true rfl, rcv_v rfl (by omega) hk3⟩ (sp_xsure (by omega) hC hA ) (fun r F1 P1 q => ?_)
  obtain ⟨q1, q2, q3⟩ := q
  have hx1 : F1 0 = xf := by rw [(q3 0 (Or.inl (by omega))).1]; exact hx
  have hM1 : shM kd P1 := shM_FR hM (q3 128 (Or.inr (by omega))).2
  have hR1 : RWl F1 s m σ hs sn n c := RW_FR hR (fun k hk => (q3 k (Or.inr hk)).1)
  refine R_aload_n fL_law_452 rfl ?_
  refine R_aload_n fL_law_453 rfl ?_
  refine R_iload_n fL_law_454 rfl ?_
  refine R_iconst fL_law_455 ?_
  refine R_iadd fL_law_456 (by omega) ?_
  refine R_iaload fL_law_457 hkL (by omega) ?_
  rw [hx1]
  refine R_callV fL_law_458 rfl rfl pX8_sure rfl ⟨Nat.le_of_ble_eq_true rfl, rcv_v rfl (by omega) hM1.1⟩ (sp_rsure (by omega) hM1 hR1 hA ) (fun r2 F2 z => ?_)
  obtain ⟨z1, z2, z3⟩ := z
  refine R_icmp_eq fL_law_461 rfl (fun _ => ?_) (fun h => absurd (q1.trans z1.symm) h)
  exact K _ _ _ _ _ _ _ _ _ (LW_of hx hM q2 q3 z2 z3 (IW_up hI))
theorem law_reply {kd : KL} {F : FM} {P : PM} {L : Nat} {xf : Int → Int} {i t : Int} {s : Int → Int} {m : Int} {σ : Int → Int → Int} {hs : Int} {sn : Int → Int} {n : Int} {c : Int → Int} (hkL : kd[0]? = some (0, L)) (hk3 : kd[3]? = some (9, 8)) (hxb : ∀ j, inb (xf j)) (h0 : 0 ≤ i) (hi : i + 3 ≤ L) (hL : L ≤ 1536) (ht : 0 ≤ t ∧ t ≤ 600) (hW : LW kd F P xf t s m σ hs sn n c) (K : ∀ F' P' s' m' σ' hs' sn' n' c', LW kd F' P' xf (t + 1) s' m' σ' hs' sn' n' c' → Rn 9 mL_law 689 [some (.inr (some 0)), some (.inr (some 3)), some (.inr (some 128)), some (.inl i)] [] kd F' P' (QL kd)) : Rn 9 mL_law 466 [some (.inr (some 0)), some (.inr (some 3)), some (.inr (some 128)), some (.inl i)] [] kd F P (QL kd) := by
  obtain ⟨hC, hM, hR, hI, hx⟩ := hW
  have hA := hI.1
  have hs2 := hI.2.1
  refine R_aload_n fL_law_466 rfl ?_
  refine R_aload_n fL_law_467 rfl ?_
  refine R_iload_n fL_law_468 rfl ?_
  refine R_iconst fL_law_469 ?_
  refine R_iadd fL_law_470 (by omega) ?_
  refine R_iaload fL_law_471 hkL (by omega) ?_
  rw [hx]
  refine R_callI fL_law_472 rfl rfl pX7_reply rfl ⟨Nat.le_of_ble_eq_true rfl, rcv_v rfl (by omega) hk3⟩ (sp_xreply (by omega) hC hA ) (fun r F1 P1 q => ?_)
  obtain ⟨q1, q2, q3⟩ := q
  have hx1 : F1 0 = xf := by rw [(q3 0 (Or.inl (by omega))).1]; exact hx
  have hM1 : shM kd P1 := shM_FR hM (q3 128 (Or.inr (by omega))).2
  have hR1 : RWl F1 s m σ hs sn n c := RW_FR hR (fun k hk => (q3 k (Or.inr hk)).1)
  refine R_aload_n fL_law_475 rfl ?_
  refine R_aload_n fL_law_476 rfl ?_
  refine R_iload_n fL_law_477 rfl ?_
  refine R_iconst fL_law_478 ?_
  refine R_iadd fL_law_479 (by omega) ?_
  refine R_iaload fL_law_480 hkL (by omega) ?_
  rw [hx1]
  refine R_callV fL_law_481 rfl rfl pX8_reply rfl ⟨Nat.le_of_ble_eq_true rfl, rcv_v rfl (by omega) hM1.1⟩ (sp_rreply (by omega) hM1 hR1 hA ) (fun r2 F2 z => ?_)
  obtain ⟨z1, z2, z3⟩ := z
  refine R_icmp_eq fL_law_484 rfl (fun _ => ?_) (fun h => absurd (q1.trans z1.symm) h)
  exact K _ _ _ _ _ _ _ _ _ (LW_of hx hM q2 q3 z2 z3 (IW_up hI))
theorem law_holds {kd : KL} {F : FM} {P : PM} {L : Nat} {xf : Int → Int} {i t : Int} {s : Int → Int} {m : Int} {σ : Int → Int → Int} {hs : Int} {sn : Int → Int} {n : Int} {c : Int → Int} (hkL : kd[0]? = some (0, L)) (hk3 : kd[3]? = some (9, 8)) (hxb : ∀ j, inb (xf j)) (h0 : 0 ≤ i) (hi : i + 3 ≤ L) (hL : L ≤ 1536) (ht : 0 ≤ t ∧ t ≤ 600) (hW : LW kd F P xf t s m σ hs sn n c) (K : ∀ F' P' s' m' σ' hs' sn' n' c', LW kd F' P' xf (t + 1) s' m' σ' hs' sn' n' c' → Rn 9 mL_law 689 [some (.inr (some 0)), some (.inr (some 3)), some (.inr (some 128)), some (.inl i)] [] kd F' P' (QL kd)) : Rn 9 mL_law 489 [some (.inr (some 0)), some (.inr (some 3)), some (.inr (some 128)), some (.inl i)] [] kd F P (QL kd) := by
  obtain ⟨hC, hM, hR, hI, hx⟩ := hW
  have hA := hI.1
  have hs2 := hI.2.1
  refine R_aload_n fL_law_489 rfl ?_
  refine R_aload_n fL_law_490 rfl ?_
  refine R_iload_n fL_law_491 rfl ?_
  refine R_iconst fL_law_492 ?_
  refine R_iadd fL_law_493 (by omega) ?_
  refine R_iaload fL_law_494 hkL (by omega) ?_
  rw [hx]
  refine R_aload_n fL_law_495 rfl ?_
  refine R_iload_n fL_law_496 rfl ?_
  refine R_iconst fL_law_497 ?_
  refine R_iadd fL_law_498 (by omega) ?_
  refine R_iaload fL_law_499 hkL (by omega) ?_
  rw [hx]
  refine R_callI fL_law_500 rfl rfl pX7_holds rfl ⟨Nat.le_of_ble_eq_true rfl, rcv_v rfl (by omega) hk3⟩ (sp_xholds (by omega) hC hA ) (fun r F1 P1 q => ?_)
  obtain ⟨q1, q2, q3⟩ := q
  have hx1 : F1 0 = xf := by rw [(q3 0 (Or.inl (by omega))).1]; exact hx
  have hM1 : shM kd P1 := shM_FR hM (q3 128 (Or.inr (by omega))).2
  have hR1 : RWl F1 s m σ hs sn n c := RW_FR hR (fun k hk => (q3 k (Or.inr hk)).1)
  refine R_aload_n fL_law_503 rfl ?_
  refine R_aload_n fL_law_504 rfl ?_
  refine R_iload_n fL_law_505 rfl ?_
  refine R_iconst fL_law_506 ?_
  refine R_iadd fL_law_507 (by omega) ?_
  refine R_iaload fL_law_508 hkL (by omega) ?_
  rw [hx1]
  refine R_aload_n fL_law_509 rfl ?_
  refine R_iload_n fL_law_510 rfl ?_
  refine R_iconst fL_law_511 ?_
  refine R_iadd fL_law_512 (by omega) ?_
  refine R_iaload fL_law_513 hkL (by omega) ?_
  rw [hx1]
  refine R_callV fL_law_514 rfl rfl pX8_holds rfl ⟨Nat.le_of_ble_eq_true rfl, rcv_v rfl (by omega) hM1.1⟩ (sp_rholds (by omega) hM1 hR1 hA ) (fun r2 F2 z => ?_)
  obtain ⟨z1, z2, z3⟩ := z
  refine R_icmp_eq fL_law_517 rfl (fun _ => ?_) (fun h => absurd (q1.trans z1.symm) h)
  exact K _ _ _ _ _ _ _ _ _ (LW_of hx hM q2 q3 z2 z3 (IW_up hI))
theorem law_holding {kd : KL} {F : FM} {P : PM} {L : Nat} {xf : Int → Int} {i t : Int} {s : Int → Int} {m : Int} {σ : Int → Int → Int} {hs : Int} {sn : Int → Int} {n : Int} {c : Int → Int} (hkL : kd[0]? = some (0, L)) (hk3 : kd[3]? = some (9, 8)) (hxb : ∀ j, inb (xf j)) (h0 : 0 ≤ i) (hi : i + 3 ≤ L) (hL : L ≤ 1536) (ht : 0 ≤ t ∧ t ≤ 600) (hW : LW kd F P xf t s m σ hs sn n c) (K : ∀ F' P' s' m' σ' hs' sn' n' c', LW kd F' P' xf (t + 1) s' m' σ' hs' sn' n' c' → Rn 9 mL_law 689 [some (.inr (some 0)), some (.inr (some 3)), some (.inr (some 128)), some (.inl i)] [] kd F' P' (QL kd)) : Rn 9 mL_law 522 [some (.inr (some 0)), some (.inr (some 3)), some (.inr (some 128)), some (.inl i)] [] kd F P (QL kd) := by
  obtain ⟨hC, hM, hR, hI, hx⟩ := hW
  have hA := hI.1
  have hs2 := hI.2.1
  refine R_aload_n fL_law_522 rfl ?_
  refine R_aload_n fL_law_523 rfl ?_
  refine R_iload_n fL_law_524 rfl ?_
  refine R_iconst fL_law_525 ?_
  refine R_iadd fL_law_526 (by omega) ?_
  refine R_iaload fL_law_527 hkL (by omega) ?_
  rw [hx]
  refine R_aload_n fL_law_528 rfl ?_
  refine R_iload_n fL_law_529 rfl ?_
  refine R_iconst fL_law_530 ?_
  refine R_iadd fL_law_531 (by omega) ?_
  refine R_iaload fL_law_532 hkL (by omega) ?_
  rw [hx]
  refine R_callI fL_law_533 rfl rfl pX7_holding rfl ⟨Nat.le_of_ble_eq_true rfl, rcv_v rfl (by omega) hk3⟩ (sp_xholding (by omega) hC hA ) (fun r F1 P1 q => ?_)
  obtain ⟨q1, q2, q3⟩ := q
  have hx1 : F1 0 = xf := by rw [(q3 0 (Or.inl (by omega))).1]; exact hx
  have hM1 : shM kd P1 := shM_FR hM (q3 128 (Or.inr (by omega))).2
  have hR1 : RWl F1 s m σ hs sn n c := RW_FR hR (fun k hk => (q3 k (Or.inr hk)).1)
  refine R_aload_n fL_law_536 rfl ?_
  refine R_aload_n fL_law_537 rfl ?_
  refine R_iload_n fL_law_538 rfl ?_
  refine R_iconst fL_law_539 ?_
  refine R_iadd fL_law_540 (by omega) ?_
  refine R_iaload fL_law_541 hkL (by omega) ?_
  rw [hx1]
  refine R_aload_n fL_law_542 rfl ?_
  refine R_iload_n fL_law_543 rfl ?_
  refine R_iconst fL_law_544 ?_
  refine R_iadd fL_law_545 (by omega) ?_
  refine R_iaload fL_law_546 hkL (by omega) ?_
  rw [hx1]
  refine R_callV fL_law_547 rfl rfl pX8_holding rfl ⟨Nat.le_of_ble_eq_true rfl, rcv_v rfl (by omega) hM1.1⟩ (sp_rholding (by omega) hM1 hR1 hA ) (fun r2 F2 z => ?_)
  obtain ⟨z1, z2, z3⟩ := z
  refine R_icmp_eq fL_law_550 rfl (fun _ => ?_) (fun h => absurd (q1.trans z1.symm) h)
  exact K _ _ _ _ _ _ _ _ _ (LW_of hx hM q2 q3 z2 z3 (IW_up hI))
theorem law_chance {kd : KL} {F : FM} {P : PM} {L : Nat} {xf : Int → Int} {i t : Int} {s : Int → Int} {m : Int} {σ : Int → Int → Int} {hs : Int} {sn : Int → Int} {n : Int} {c : Int → Int} (hkL : kd[0]? = some (0, L)) (hk3 : kd[3]? = some (9, 8)) (hxb : ∀ j, inb (xf j)) (h0 : 0 ≤ i) (hi : i + 3 ≤ L) (hL : L ≤ 1536) (ht : 0 ≤ t ∧ t ≤ 600) (hW : LW kd F P xf t s m σ hs sn n c) (K : ∀ F' P' s' m' σ' hs' sn' n' c', LW kd F' P' xf (t + 1) s' m' σ' hs' sn' n' c' → Rn 9 mL_law 689 [some (.inr (some 0)), some (.inr (some 3)), some (.inr (some 128)), some (.inl i)] [] kd F' P' (QL kd)) : Rn 9 mL_law 555 [some (.inr (some 0)), some (.inr (some 3)), some (.inr (some 128)), some (.inl i)] [] kd F P (QL kd) := by
  obtain ⟨hC, hM, hR, hI, hx⟩ := hW
  have hA := hI.1
  have hs2 := hI.2.1
  refine R_aload_n fL_law_555 rfl ?_
  refine R_aload_n fL_law_556 rfl ?_
  refine R_iload_n fL_law_557 rfl ?_
  refine R_iconst fL_law_558 ?_
  refine R_iadd fL_law_559 (by omega) ?_
  refine R_iaload fL_law_560 hkL (by omega) ?_
  rw [hx]
  refine R_callI fL_law_561 rfl rfl pX7_chance rfl ⟨Nat.le_of_ble_eq_true rfl, rcv_v rfl (by omega) hk3⟩ (sp_xchance (by omega) hC hA ) (fun r F1 P1 q => ?_)
  obtain ⟨q1, q2, q3⟩ := q
  have hx1 : F1 0 = xf := by rw [(q3 0 (Or.inl (by omega))).1]; exact hx
  have hM1 : shM kd P1 := shM_FR hM (q3 128 (Or.inr (by omega))).2
  have hR1 : RWl F1 s m σ hs sn n c := RW_FR hR (fun k hk => (q3 k (Or.inr hk)).1)
  refine R_aload_n fL_law_564 rfl ?_
  refine R_aload_n fL_law_565 rfl ?_
  refine R_iload_n fL_law_566 rfl ?_
  refine R_iconst fL_law_567 ?_
  refine R_iadd fL_law_568 (by omega) ?_
  refine R_iaload fL_law_569 hkL (by omega) ?_
  rw [hx1]
  refine R_callV fL_law_570 rfl rfl pX8_chance rfl ⟨Nat.le_of_ble_eq_true rfl, rcv_v rfl (by omega) hM1.1⟩ (sp_rchance (by omega) hM1 hR1 hA ) (fun r2 F2 z => ?_)
  obtain ⟨z1, z2, z3⟩ := z
  refine R_icmp_eq fL_law_573 rfl (fun _ => ?_) (fun h => absurd (q1.trans z1.symm) h)
  exact K _ _ _ _ _ _ _ _ _ (LW_of hx hM q2 q3 z2 z3 (IW_up hI))
theorem law_keep {kd : KL} {F : FM} {P : PM} {L : Nat} {xf : Int → Int} {i t : Int} {s : Int → Int} {m : Int} {σ : Int → Int → Int} {hs : Int} {sn : Int → Int} {n : Int} {c : Int → Int} (hkL : kd[0]? = some (0, L)) (hk3 : kd[3]? = some (9, 8)) (hxb : ∀ j, inb (xf j)) (h0 : 0 ≤ i) (hi : i + 3 ≤ L) (hL : L ≤ 1536) (ht : 0 ≤ t ∧ t ≤ 600) (hW : LW kd F P xf t s m σ hs sn n c) (K : ∀ F' P' s' m' σ' hs' sn' n' c', LW kd F' P' xf (t + 1) s' m' σ' hs' sn' n' c' → Rn 9 mL_law 689 [some (.inr (some 0)), some (.inr (some 3)), some (.inr (some 128)), some (.inl i)] [] kd F' P' (QL kd)) : Rn 9 mL_law 578 [some (.inr (some 0)), some (.inr (some 3)), some (.inr (some 128)), some (.inl i)] [] kd F P (QL kd) := by
  obtain ⟨hC, hM, hR, hI, hx⟩ := hW
  have hA := hI.1
  have hs2 := hI.2.1
  refine R_aload_n fL_law_578 rfl ?_
  refine R_callI fL_law_579 rfl rfl pX7_keep rfl ⟨Nat.le_of_ble_eq_true rfl, rcv_v rfl (by omega) hk3⟩ (sp_xkeep (by omega) hC hA ) (fun r F1 P1 q => ?_)
  obtain ⟨q1, q2, q3⟩ := q
  have hx1 : F1 0 = xf := by rw [(q3 0 (Or.inl (by omega))).1]; exact hx
  have hM1 : shM kd P1 := shM_FR hM (q3 128 (Or.inr (by omega))).2
  have hR1 : RWl F1 s m σ hs sn n c := RW_FR hR (fun k hk => (q3 k (Or.inr hk)).1)
  refine R_aload_n fL_law_582 rfl ?_
  refine R_callV fL_law_583 rfl rfl pX8_keep rfl ⟨Nat.le_of_ble_eq_true rfl, rcv_v rfl (by omega) hM1.1⟩ (sp_rkeep (by omega) hM1 hR1 hA ) (fun r2 F2 z => ?_)
  obtain ⟨z1, z2, z3⟩ := z
  refine R_icmp_eq fL_law_586 rfl (fun _ => ?_) (fun h => absurd (q1.trans z1.symm) h)
  exact K _ _ _ _ _ _ _ _ _ (LW_of hx hM q2 q3 z2 z3 (IW_keep hI))
theorem law_restore {kd : KL} {F : FM} {P : PM} {L : Nat} {xf : Int → Int} {i t : Int} {s : Int → Int} {m : Int} {σ : Int → Int → Int} {hs : Int} {sn : Int → Int} {n : Int} {c : Int → Int} (hkL : kd[0]? = some (0, L)) (hk3 : kd[3]? = some (9, 8)) (hxb : ∀ j, inb (xf j)) (h0 : 0 ≤ i) (hi : i + 3 ≤ L) (hL : L ≤ 1536) (ht : 0 ≤ t ∧ t ≤ 600) (hW : LW kd F P xf t s m σ hs sn n c) (K : ∀ F' P' s' m' σ' hs' sn' n' c', LW kd F' P' xf (t + 1) s' m' σ' hs' sn' n' c' → Rn 9 mL_law 689 [some (.inr (some 0)), some (.inr (some 3)), some (.inr (some 128)), some (.inl i)] [] kd F' P' (QL kd)) : Rn 9 mL_law 591 [some (.inr (some 0)), some (.inr (some 3)), some (.inr (some 128)), some (.inl i)] [] kd F P (QL kd) := by
  obtain ⟨hC, hM, hR, hI, hx⟩ := hW
  have hA := hI.1
  have hs2 := hI.2.1
  refine R_aload_n fL_law_591 rfl ?_
  refine R_callI fL_law_592 rfl rfl pX7_restore rfl ⟨Nat.le_of_ble_eq_true rfl, rcv_v rfl (by omega) hk3⟩ (sp_xrestore (by omega) hC hA ) (fun r F1 P1 q => ?_)
  obtain ⟨q1, q2, q3⟩ := q
  have hx1 : F1 0 = xf := by rw [(q3 0 (Or.inl (by omega))).1]; exact hx
  have hM1 : shM kd P1 := shM_FR hM (q3 128 (Or.inr (by omega))).2
  have hR1 : RWl F1 s m σ hs sn n c := RW_FR hR (fun k hk => (q3 k (Or.inr hk)).1)
  refine R_aload_n fL_law_595 rfl ?_
  refine R_callV fL_law_596 rfl rfl pX8_restore rfl ⟨Nat.le_of_ble_eq_true rfl, rcv_v rfl (by omega) hM1.1⟩ (sp_rrestore (by omega) hM1 hR1 hA ) (fun r2 F2 z => ?_)
  obtain ⟨z1, z2, z3⟩ := z
  refine R_icmp_eq fL_law_599 rfl (fun _ => ?_) (fun h => absurd (q1.trans z1.symm) h)
  exact K _ _ _ _ _ _ _ _ _ (LW_of hx hM q2 q3 z2 z3 (IW_rest hI _))
theorem law_undo {kd : KL} {F : FM} {P : PM} {L : Nat} {xf : Int → Int} {i t : Int} {s : Int → Int} {m : Int} {σ : Int → Int → Int} {hs : Int} {sn : Int → Int} {n : Int} {c : Int → Int} (hkL : kd[0]? = some (0, L)) (hk3 : kd[3]? = some (9, 8)) (hxb : ∀ j, inb (xf j)) (h0 : 0 ≤ i) (hi : i + 3 ≤ L) (hL : L ≤ 1536) (ht : 0 ≤ t ∧ t ≤ 600) (hW : LW kd F P xf t s m σ hs sn n c) (K : ∀ F' P' s' m' σ' hs' sn' n' c', LW kd F' P' xf (t + 1) s' m' σ' hs' sn' n' c' → Rn 9 mL_law 689 [some (.inr (some 0)), some (.inr (some 3)), some (.inr (some 128)), some (.inl i)] [] kd F' P' (QL kd)) : Rn 9 mL_law 604 [some (.inr (some 0)), some (.inr (some 3)), some (.inr (some 128)), some (.inl i)] [] kd F P (QL kd) := by
  obtain ⟨hC, hM, hR, hI, hx⟩ := hW
  have hA := hI.1
  have hs2 := hI.2.1
  refine R_aload_n fL_law_604 rfl ?_
  refine R_callI fL_law_605 rfl rfl pX7_undo rfl ⟨Nat.le_of_ble_eq_true rfl, rcv_v rfl (by omega) hk3⟩ (sp_xundo (by omega) hC hA ) (fun r F1 P1 q => ?_)
  obtain ⟨q1, q2, q3⟩ := q
  have hx1 : F1 0 = xf := by rw [(q3 0 (Or.inl (by omega))).1]; exact hx
  have hM1 : shM kd P1 := shM_FR hM (q3 128 (Or.inr (by omega))).2
  have hR1 : RWl F1 s m σ hs sn n c := RW_FR hR (fun k hk => (q3 k (Or.inr hk)).1)
  refine R_aload_n fL_law_608 rfl ?_
  refine R_callV fL_law_609 rfl rfl pX8_undo rfl ⟨Nat.le_of_ble_eq_true rfl, rcv_v rfl (by omega) hM1.1⟩ (sp_rundo (by omega) hM1 hR1 hA ) (fun r2 F2 z => ?_)
  obtain ⟨z1, z2, z3⟩ := z
  refine R_icmp_eq fL_law_612 rfl (fun _ => ?_) (fun h => absurd (q1.trans z1.symm) h)
  exact K _ _ _ _ _ _ _ _ _ (LW_of hx hM q2 q3 z2 z3 (IW_undo hI))
theorem law_type {kd : KL} {F : FM} {P : PM} {L : Nat} {xf : Int → Int} {i t : Int} {s : Int → Int} {m : Int} {σ : Int → Int → Int} {hs : Int} {sn : Int → Int} {n : Int} {c : Int → Int} (hkL : kd[0]? = some (0, L)) (hk3 : kd[3]? = some (9, 8)) (hxb : ∀ j, inb (xf j)) (h0 : 0 ≤ i) (hi : i + 3 ≤ L) (hL : L ≤ 1536) (ht : 0 ≤ t ∧ t ≤ 600) (hW : LW kd F P xf t s m σ hs sn n c) (K : ∀ F' P' s' m' σ' hs' sn' n' c', LW kd F' P' xf (t + 1) s' m' σ' hs' sn' n' c' → Rn 9 mL_law 689 [some (.inr (some 0)), some (.inr (some 3)), some (.inr (some 128)), some (.inl i)] [] kd F' P' (QL kd)) : Rn 9 mL_law 617 [some (.inr (some 0)), some (.inr (some 3)), some (.inr (some 128)), some (.inl i)] [] kd F P (QL kd) := by
  obtain ⟨hC, hM, hR, hI, hx⟩ := hW
  have hA := hI.1
  have hs2 := hI.2.1
  refine R_aload_n fL_law_617 rfl ?_
  refine R_aload_n fL_law_618 rfl ?_
  refine R_iload_n fL_law_619 rfl ?_
  refine R_iconst fL_law_620 ?_
  refine R_iadd fL_law_621 (by omega) ?_
  refine R_iaload fL_law_622 hkL (by omega) ?_
  rw [hx]
  refine R_callI fL_law_623 rfl rfl pX7_type rfl ⟨Nat.le_of_ble_eq_true rfl, rcv_v rfl (by omega) hk3⟩ (sp_xtype (by omega) hC hA ) (fun r F1 P1 q => ?_)
  obtain ⟨q1, q2, q3⟩ := q
  have hx1 : F1 0 = xf := by rw [(q3 0 (Or.inl (by omega))).1]; exact hx
  have hM1 : shM kd P1 := shM_FR hM (q3 128 (Or.inr (by omega))).2
  have hR1 : RWl F1 s m σ hs sn n c := RW_FR hR (fun k hk => (q3 k (Or.inr hk)).1)
  refine R_aload_n fL_law_626 rfl ?_
  refine R_aload_n fL_law_627 rfl ?_
  refine R_iload_n fL_law_628 rfl ?_
  refine R_iconst fL_law_629 ?_
  refine R_iadd fL_law_630 (by omega) ?_
  refine R_iaload fL_law_631 hkL (by omega) ?_
  rw [hx1]
  refine R_callV fL_law_632 rfl rfl pX8_type rfl ⟨Nat.le_of_ble_eq_true rfl, rcv_v rfl (by omega) hM1.1⟩ (sp_rtype (by omega) hM1 hR1 hA ) (fun r2 F2 z => ?_)
  obtain ⟨z1, z2, z3⟩ := z
  refine R_icmp_eq fL_law_635 rfl (fun _ => ?_) (fun h => absurd (q1.trans z1.symm) h)
  exact K _ _ _ _ _ _ _ _ _ (LW_of hx hM q2 q3 z2 z3 (IW_n hI (nType_b hI.1.2.2.2.2.2)))
theorem law_clearText {kd : KL} {F : FM} {P : PM} {L : Nat} {xf : Int → Int} {i t : Int} {s : Int → Int} {m : Int} {σ : Int → Int → Int} {hs : Int} {sn : Int → Int} {n : Int} {c : Int → Int} (hkL : kd[0]? = some (0, L)) (hk3 : kd[3]? = some (9, 8)) (hxb : ∀ j, inb (xf j)) (h0 : 0 ≤ i) (hi : i + 3 ≤ L) (hL : L ≤ 1536) (ht : 0 ≤ t ∧ t ≤ 600) (hW : LW kd F P xf t s m σ hs sn n c) (K : ∀ F' P' s' m' σ' hs' sn' n' c', LW kd F' P' xf (t + 1) s' m' σ' hs' sn' n' c' → Rn 9 mL_law 689 [some (.inr (some 0)), some (.inr (some 3)), some (.inr (some 128)), some (.inl i)] [] kd F' P' (QL kd)) : Rn 9 mL_law 640 [some (.inr (some 0)), some (.inr (some 3)), some (.inr (some 128)), some (.inl i)] [] kd F P (QL kd) := by
  obtain ⟨hC, hM, hR, hI, hx⟩ := hW
  have hA := hI.1
  have hs2 := hI.2.1
  refine R_aload_n fL_law_640 rfl ?_
  refine R_callI fL_law_641 rfl rfl pX7_clearText rfl ⟨Nat.le_of_ble_eq_true rfl, rcv_v rfl (by omega) hk3⟩ (sp_xclearText (by omega) hC hA ) (fun r F1 P1 q => ?_)
  obtain ⟨q1, q2, q3⟩ := q
  have hx1 : F1 0 = xf := by rw [(q3 0 (Or.inl (by omega))).1]; exact hx
  have hM1 : shM kd P1 := shM_FR hM (q3 128 (Or.inr (by omega))).2
  have hR1 : RWl F1 s m σ hs sn n c := RW_FR hR (fun k hk => (q3 k (Or.inr hk)).1)
  refine R_aload_n fL_law_644 rfl ?_
  refine R_callV fL_law_645 rfl rfl pX8_clearText rfl ⟨Nat.le_of_ble_eq_true rfl, rcv_v rfl (by omega) hM1.1⟩ (sp_rclearText (by omega) hM1 hR1 hA ) (fun r2 F2 z => ?_)
  obtain ⟨z1, z2, z3⟩ := z
  refine R_icmp_eq fL_law_648 rfl (fun _ => ?_) (fun h => absurd (q1.trans z1.symm) h)
  exact K _ _ _ _ _ _ _ _ _ (LW_of hx hM q2 q3 z2 z3 (IW_n hI (by omega)))
theorem law_fault {kd : KL} {F : FM} {P : PM} {L : Nat} {xf : Int → Int} {i t : Int} {s : Int → Int} {m : Int} {σ : Int → Int → Int} {hs : Int} {sn : Int → Int} {n : Int} {c : Int → Int} (hkL : kd[0]? = some (0, L)) (hk3 : kd[3]? = some (9, 8)) (hxb : ∀ j, inb (xf j)) (h0 : 0 ≤ i) (hi : i + 3 ≤ L) (hL : L ≤ 1536) (ht : 0 ≤ t ∧ t ≤ 600) (hW : LW kd F P xf t s m σ hs sn n c) (K : ∀ F' P' s' m' σ' hs' sn' n' c', LW kd F' P' xf (t + 1) s' m' σ' hs' sn' n' c' → Rn 9 mL_law 689 [some (.inr (some 0)), some (.inr (some 3)), some (.inr (some 128)), some (.inl i)] [] kd F' P' (QL kd)) : Rn 9 mL_law 653 [some (.inr (some 0)), some (.inr (some 3)), some (.inr (some 128)), some (.inl i)] [] kd F P (QL kd) := by
  obtain ⟨hC, hM, hR, hI, hx⟩ := hW
  have hA := hI.1
  have hs2 := hI.2.1
  refine R_aload_n fL_law_653 rfl ?_
  refine R_aload_n fL_law_654 rfl ?_
  refine R_iload_n fL_law_655 rfl ?_
  refine R_iconst fL_law_656 ?_
  refine R_iadd fL_law_657 (by omega) ?_
  refine R_iaload fL_law_658 hkL (by omega) ?_
  rw [hx]
  refine R_callI fL_law_659 rfl rfl pX7_fault rfl ⟨Nat.le_of_ble_eq_true rfl, rcv_v rfl (by omega) hk3⟩ (sp_xfault (by omega) hC hA (by omega)) (fun r F1 P1 q => ?_)
  obtain ⟨q1, q2, q3⟩ := q
  have hx1 : F1 0 = xf := by rw [(q3 0 (Or.inl (by omega))).1]; exact hx
  have hM1 : shM kd P1 := shM_FR hM (q3 128 (Or.inr (by omega))).2
  have hR1 : RWl F1 s m σ hs sn n c := RW_FR hR (fun k hk => (q3 k (Or.inr hk)).1)
  refine R_aload_n fL_law_662 rfl ?_
  refine R_aload_n fL_law_663 rfl ?_
  refine R_iload_n fL_law_664 rfl ?_
  refine R_iconst fL_law_665 ?_
  refine R_iadd fL_law_666 (by omega) ?_
  refine R_iaload fL_law_667 hkL (by omega) ?_
  rw [hx1]
  refine R_callV fL_law_668 rfl rfl pX8_fault rfl ⟨Nat.le_of_ble_eq_true rfl, rcv_v rfl (by omega) hM1.1⟩ (sp_rfault (by omega) hM1 hR1 hA (by omega)) (fun r2 F2 z => ?_)
  obtain ⟨z1, z2, z3⟩ := z
  refine R_icmp_eq fL_law_671 rfl (fun _ => ?_) (fun h => absurd (q1.trans z1.symm) h)
  exact K _ _ _ _ _ _ _ _ _ (LW_of hx hM q2 q3 z2 z3 (IW_up hI))
theorem law_play {kd : KL} {F : FM} {P : PM} {L : Nat} {xf : Int → Int} {i t : Int} {s : Int → Int} {m : Int} {σ : Int → Int → Int} {hs : Int} {sn : Int → Int} {n : Int} {c : Int → Int} (hkL : kd[0]? = some (0, L)) (hk3 : kd[3]? = some (9, 8)) (hxb : ∀ j, inb (xf j)) (h0 : 0 ≤ i) (hi : i + 3 ≤ L) (hL : L ≤ 1536) (ht : 0 ≤ t ∧ t ≤ 600) (hW : LW kd F P xf t s m σ hs sn n c) (K : ∀ F' P' s' m' σ' hs' sn' n' c', LW kd F' P' xf (t + 1) s' m' σ' hs' sn' n' c' → Rn 9 mL_law 689 [some (.inr (some 0)), some (.inr (some 3)), some (.inr (some 128)), some (.inl i)] [] kd F' P' (QL kd)) : Rn 9 mL_law 676 [some (.inr (some 0)), some (.inr (some 3)), some (.inr (some 128)), some (.inl i)] [] kd F P (QL kd) := by
  obtain ⟨hC, hM, hR, hI, hx⟩ := hW
  have hA := hI.1
  have hs2 := hI.2.1
  refine R_aload_n fL_law_676 rfl ?_
  refine R_callI fL_law_677 rfl rfl pX7_play rfl ⟨Nat.le_of_ble_eq_true rfl, rcv_v rfl (by omega) hk3⟩ (sp_xplay (by omega) hC hA (by omega)) (fun r F1 P1 q => ?_)
  obtain ⟨q1, q2, q3⟩ := q
  have hx1 : F1 0 = xf := by rw [(q3 0 (Or.inl (by omega))).1]; exact hx
  have hM1 : shM kd P1 := shM_FR hM (q3 128 (Or.inr (by omega))).2
  have hR1 : RWl F1 s m σ hs sn n c := RW_FR hR (fun k hk => (q3 k (Or.inr hk)).1)
  refine R_aload_n fL_law_680 rfl ?_
  refine R_callV fL_law_681 rfl rfl pX8_play rfl ⟨Nat.le_of_ble_eq_true rfl, rcv_v rfl (by omega) hM1.1⟩ (sp_rplay (by omega) hM1 hR1 hA (by omega)) (fun r2 F2 z => ?_)
  obtain ⟨z1, z2, z3⟩ := z
  refine R_icmp_eq fL_law_684 rfl (fun _ => ?_) (fun h => absurd (q1.trans z1.symm) h)
  exact K _ _ _ _ _ _ _ _ _ (LW_of hx hM q2 q3 z2 z3 (IW_play hI (by omega) _))
set_option maxHeartbeats 2000000 in
theorem law_loop {kd : KL} {L : Nat} {xf : Int → Int} (hkL : kd[0]? = some (0, L)) (hk3 : kd[3]? = some (9, 8)) (hxb : ∀ j, inb (xf j)) (hL : L ≤ 1536) : ∀ (N : Nat) (F : FM) (P : PM) (i t : Int) (s : Int → Int) (m : Int) (σ : Int → Int → Int) (hs : Int) (sn : Int → Int) (n : Int) (c : Int → Int), 0 ≤ i → i ≤ L → (0 ≤ t ∧ i = 3 * t) → LW kd F P xf t s m σ hs sn n c → L - i < N → Rn 9 mL_law 18 [some (.inr (some 0)), some (.inr (some 3)), some (.inr (some 128)), some (.inl i)] [] kd F P (QL kd) := by
  intro N
  induction N with
  | zero => intro F P i t s m σ hs sn n c h0 h1 ht hW h8; omega
  | succ N ih =>
    intro F P i t s m σ hs sn n c h0 h1 ht hW h8
    have hx := hW.2.2.2.2
    refine R_iload_n fL_law_18 rfl ?_
    refine R_aload_n fL_law_19 rfl ?_
    refine R_arraylength fL_law_20 hkL (by omega) ?_
    refine R_iconst fL_law_21 ?_
    refine R_isub fL_law_22 (by omega) ?_
    refine R_icmp_gt fL_law_23 rfl (fun h23 => ?_) (fun h23 => ?_)
    · refine R_iconst fL_law_695 ?_
      refine R_zreturn fL_law_696 rfl (by simp) ?_
      exact ⟨rfl, rfl⟩
    have K : ∀ F' P' s' m' σ' hs' sn' n' c', LW kd F' P' xf (t + 1) s' m' σ' hs' sn' n' c' → Rn 9 mL_law 689 [some (.inr (some 0)), some (.inr (some 3)), some (.inr (some 128)), some (.inl i)] [] kd F' P' (QL kd) := by
      intro F' P' s' m' σ' hs' sn' n' c' hW'
      refine R_iinc fL_law_689 rfl (by omega) ?_
      refine R_goto fL_law_692 rfl ?_
      exact ih _ _ _ _ _ _ _ _ _ _ _ (by omega) (by omega) (by omega) hW' (by omega)
    refine R_aload_n fL_law_26 rfl ?_
    refine R_iload_n fL_law_27 rfl ?_
    refine R_iaload fL_law_28 hkL (by omega) ?_
    rw [hx]
    refine R_bipush fL_law_29 ?_
    refine R_iand fL_law_31 ?_
    generalize (i32 (xf i) &&& i32 31).toInt = w
    by_cases c0 : w = 0
    · subst c0
      refine R_tab fL_law_32 rfl ?_
      exact law_begin hkL hk3 hxb h0 (by omega) hL (by omega) hW K
    by_cases c1 : w = 1
    · subst c1
      refine R_tab fL_law_32 rfl ?_
      exact law_lot hkL hk3 hxb h0 (by omega) hL (by omega) hW K
    by_cases c2 : w = 2
    · subst c2
      refine R_tab fL_law_32 rfl ?_
      exact law_bid hkL hk3 hxb h0 (by omega) hL (by omega) hW K
    by_cases c3 : w = 3
    · subst c3
      refine R_tab fL_law_32 rfl ?_
      exact law_resolve hkL hk3 hxb h0 (by omega) hL (by omega) hW K
    by_cases c4 : w = 4
    · subst c4
      refine R_tab fL_law_32 rfl ?_
      exact law_set hkL hk3 hxb h0 (by omega) hL (by omega) hW K
    by_cases c5 : w = 5
    · subst c5
      refine R_tab fL_law_32 rfl ?_
      exact law_playerOf hkL hk3 hxb h0 (by omega) hL (by omega) hW K
    by_cases c6 : w = 6
    · subst c6
      refine R_tab fL_law_32 rfl ?_
      exact law_lotOf hkL hk3 hxb h0 (by omega) hL (by omega) hW K
    by_cases c7 : w = 7
    · subst c7
      refine R_tab fL_law_32 rfl ?_
      exact law_roundOf hkL hk3 hxb h0 (by omega) hL (by omega) hW K
    by_cases c8 : w = 8
    · subst c8
      refine R_tab fL_law_32 rfl ?_
      exact law_record hkL hk3 hxb h0 (by omega) hL (by omega) hW K
    by_cases c9 : w = 9
    · subst c9
      refine R_tab fL_law_32 rfl ?_
      exact law_count hkL hk3 hxb h0 (by omega) hL (by omega) hW K
    by_cases c10 : w = 10
    · subst c10
      refine R_tab fL_law_32 rfl ?_
      exact law_winner hkL hk3 hxb h0 (by omega) hL (by omega) hW K
    by_cases c11 : w = 11
    · subst c11
      refine R_tab fL_law_32 rfl ?_
      exact law_sure hkL hk3 hxb h0 (by omega) hL (by omega) hW K
    by_cases c12 : w = 12
    · subst c12
      refine R_tab fL_law_32 rfl ?_
      exact law_reply hkL hk3 hxb h0 (by omega) hL (by omega) hW K
    by_cases c13 : w = 13
    · subst c13
      refine R_tab fL_law_32 rfl ?_
      exact law_holds hkL hk3 hxb h0 (by omega) hL (by omega) hW K
    by_cases c14 : w = 14
    · subst c14
      refine R_tab fL_law_32 rfl ?_
      exact law_holding hkL hk3 hxb h0 (by omega) hL (by omega) hW K
    by_cases c15 : w = 15
    · subst c15
      refine R_tab fL_law_32 rfl ?_
      exact law_chance hkL hk3 hxb h0 (by omega) hL (by omega) hW K
    by_cases c16 : w = 16
    · subst c16
      refine R_tab fL_law_32 rfl ?_
      exact law_keep hkL hk3 hxb h0 (by omega) hL (by omega) hW K
    by_cases c17 : w = 17
    · subst c17
      refine R_tab fL_law_32 rfl ?_
      exact law_restore hkL hk3 hxb h0 (by omega) hL (by omega) hW K
    by_cases c18 : w = 18
    · subst c18
      refine R_tab fL_law_32 rfl ?_
      exact law_undo hkL hk3 hxb h0 (by omega) hL (by omega) hW K
    by_cases c19 : w = 19
    · subst c19
      refine R_tab fL_law_32 rfl ?_
      exact law_type hkL hk3 hxb h0 (by omega) hL (by omega) hW K
    by_cases c20 : w = 20
    · subst c20
      refine R_tab fL_law_32 rfl ?_
      exact law_clearText hkL hk3 hxb h0 (by omega) hL (by omega) hW K
    by_cases c21 : w = 21
    · subst c21
      refine R_tab fL_law_32 rfl ?_
      exact law_fault hkL hk3 hxb h0 (by omega) hL (by omega) hW K
    by_cases c22 : w = 22
    · subst c22
      refine R_tab fL_law_32 rfl ?_
      exact law_play hkL hk3 hxb h0 (by omega) hL (by omega) hW K
    refine R_tabD fL_law_32 (by omega) rfl ?_
    exact K _ _ _ _ _ _ _ _ _ ⟨hW.1, hW.2.1, hW.2.2.1, IW_up hW.2.2.2.1, hx⟩
