/-! ## the law, whole -/
theorem R_newLA {d : Nat} {me : ME} {pc : Nat} {L : LV} {S : List AV} {kd l l' : KL} {F : FM} {P : PM} {Q : RS → Prop} {ri : RI} {n : Int} {q : Nat} (h : ftc pc (me_ci me) = some (pc, .newarray .long, 2, ri)) (hb : 0 ≤ n ∧ n ≤ 100000) (hq : kd.length + l.length = q) (hl : l ++ [(30, n.toNat)] = l') (kk : Rn d me (pc + 2) L (.inr (some q) :: S) (kd ++ l') (clF F q) P Q) : Rn d me pc L (.inl n :: S) (kd ++ l) F P Q := by
  refine R_newL h hb ?_
  rw [List.length_append, List.append_assoc, hq, hl]
  exact kk
theorem shS_kd {kd kd' : KL} {P : PM} {B : Nat} (h : shS kd P B) (hk : ∀ j, j < B + 16 → kd'[j]? = kd[j]?) : shS kd' P B := by
  unfold shS at *
  rw [hk B (by omega), hk (B + 1) (by omega), hk (B + 2) (by omega), hk (B + 3) (by omega), hk (B + 4) (by omega), hk (B + 5) (by omega), hk (B + 6) (by omega), hk (B + 7) (by omega), hk (B + 8) (by omega), hk (B + 9) (by omega), hk (B + 10) (by omega), hk (B + 11) (by omega), hk (B + 12) (by omega), hk (B + 13) (by omega), hk (B + 14) (by omega), hk (B + 15) (by omega)]
  exact h
theorem shX_lt {kd kd' : KL} {P P' : PM} {b e : Nat} {h : Int → Nat} (hX : shX kd P b e h) (hk : ∀ j, j < 128 → kd'[j]? = kd[j]?) (hP : ∀ k, k < 128 → P' k = P k) : shX kd' P' b e h := by
  obtain ⟨a1, a2, a3, a4, a5, a6, a7, a8, a9, a10, a11, a12⟩ := hX
  refine ⟨by rw [hk 3 (by omega)]; exact a1, by rw [hP 3 (by omega)]; exact a2, ?_, by rw [hP 5 (by omega)]; exact a4, fun x hx => ?_, ?_, ?_, ?_, a9, a10, a11, by rw [hk 2 (by omega)]; exact a12⟩
  · unfold shH at *
    rw [hk 4 (by omega), hk 5 (by omega), hP 4 (by omega)]; exact a3
  · have hx2 : x + 16 ≤ 128 := by unfold isB at hx; omega
    exact shS_P (shS_kd (a5 x hx) (fun j hj => hk j (by omega))) (fun k k0 k1 => hP k (by omega))
  · unfold shT at *
    rw [hk 86 (by omega), hk (86 + 1) (by omega), hP 86 (by omega)]; exact a6
  · unfold shO at *
    rw [hk 88 (by omega), hk (88 + 1) (by omega), hk (88 + 2) (by omega), hP 88 (by omega)]; exact a7
  · refine ⟨?_, ?_⟩
    · unfold shA at *
      rw [hk 91 (by omega), hk 95 (by omega), hP 91 (by omega)]; exact a8.1
    · unfold shO at *
      rw [hk 92 (by omega), hk (92 + 1) (by omega), hk (92 + 2) (by omega), hP 92 (by omega)]; exact a8.2
theorem ksz_ap (a b : KL) : ksz (a ++ b) = ksz a + ksz b := by unfold ksz; rw [List.map_append, List.sum_append]
abbrev QL (kd : KL) : RS → Prop := fun rs => rs.1 = some (.inl 1) ∧ rs.2.1 = kd
/-- what holds between the law's turns -/
def LW (kd : KL) (F : FM) (P : PM) (xf : Int → Int) (T : Int) (s : Int → Int) : Prop := WD kd F P s ∧ LR F s ∧ PC T s ∧ s 150 ≤ 59 ∧ F 0 = xf
theorem law_2 {kd : KL} {L : Nat} {xf : Int → Int} (hK : LK kd) (ks : kd[0]? = some (0, L)) (hLb : L ≤ 260) (hxb : ∀ j, inb (xf j)) {t : Int} (ht : 16 ≤ t ∧ t < 76) : ∀ (N : Nat) (i : Int) (F : FM) (P : PM) (s : Int → Int), 0 ≤ i → i ≤ t → LW kd F P xf (4 + i) s → t - i < N → Rn 7 mL_law 212 [some (.inr (some 0)), some (.inr (some 3)), some (.inr (some 128)), some (.inr (some 129)), some (.inr (some 130)), some (.inr (some 131)), some (.inr (some 132)), some (.inr (some 133)), some (.inr (some 134)), some (.inl 1), some (.inl t), some (.inl i)] [] kd F P (QL kd) := by
  obtain ⟨kg, kl, kt, kp, kh, kb, kq, kx⟩ := id hK
  intro N
  induction N with
  | zero => intro i F P s h0 h1 h2 h6; omega
  | succ N ih =>
    intro i F P s h0 h1 h2 h6
    obtain ⟨hv, hr, hc, h59, h00⟩ := h2
    refine R_iload fL_law_212 rfl ?_
    refine R_iload fL_law_214 rfl ?_
    refine R_icmp_ge fL_law_216 rfl (fun h216 => ?_) (fun h216 => ?_)
    · refine R_iload fL_law_290 rfl ?_
      refine R_if_eq fL_law_292 rfl (fun h292 => absurd h292 (by omega)) (fun h292 => ?_)
      refine R_aload_n fL_law_295 rfl ?_
      refine R_bipush fL_law_296 ?_
      refine R_callI fL_law_298 rfl rfl pX7_count rfl ⟨Nat.le_of_ble_eq_true rfl, rcv_v rfl (by decide) kx⟩ (w_count (by omega) hv ⟨by omega, by omega⟩) (fun r F1 P1 q => ?_)
      obtain ⟨a1, b1, c1⟩ := q
      rw [show (if (13 : Int) = 11 then 0 else rNumber s 13) = -1000001 from rfl] at a1
      refine R_ldc fL_law_301 ?_
      refine R_icmp_ne fL_law_303 rfl (fun h303 => absurd h303 (fun z => z a1)) (fun h303 => ?_)
      refine R_aload_n fL_law_306 rfl ?_
      refine R_bipush fL_law_307 ?_
      refine R_callI fL_law_309 rfl rfl pX7_count rfl ⟨Nat.le_of_ble_eq_true rfl, rcv_v rfl (by decide) kx⟩ (w_count (by omega) b1 ⟨by omega, by omega⟩) (fun r F2 P2 q => ?_)
      obtain ⟨a2, b2, c2⟩ := q
      rw [show (if (23 : Int) = 11 then 0 else rNumber s 23) = -1000001 from rfl] at a2
      refine R_ldc fL_law_312 ?_
      refine R_icmp_ne fL_law_314 rfl (fun h314 => absurd h314 (fun z => z a2)) (fun h314 => ?_)
      refine R_iconst fL_law_317 ?_
      refine R_goto fL_law_318 rfl ?_
      refine R_zreturn fL_law_322 rfl (by simp) ?_
      exact ⟨rfl, rfl⟩
    · refine R_iload fL_law_219 rfl ?_
      refine R_if_eq fL_law_221 rfl (fun h221 => absurd h221 (by omega)) (fun h221 => ?_)
      refine R_aload_n fL_law_224 rfl ?_
      refine R_aload_n fL_law_225 rfl ?_
      refine R_aload_n fL_law_226 rfl ?_
      refine R_aload fL_law_227 rfl ?_
      refine R_aload fL_law_229 rfl ?_
      refine R_aload fL_law_231 rfl ?_
      refine R_aload fL_law_233 rfl ?_
      refine R_aload fL_law_235 rfl ?_
      refine R_aload_n fL_law_237 rfl ?_
      refine R_iconst fL_law_238 ?_
      refine R_iload fL_law_239 rfl ?_
      refine R_iadd fL_law_241 (by omega) ?_
      obtain ⟨v, hvb, hsv⟩ := sp_cell (d := 7) (kd := kd) (F := F) (P := P) (k := 5 + i) (by omega) ks hLb (by omega) (fun j => by rw [h00]; exact hxb j)
      refine R_callE fL_law_242 rfl rfl pL_cell rfl ⟨Nat.le_of_ble_eq_true rfl, rfl⟩ (hsv) ?_
      refine R_sipush fL_law_245 ?_
      refine R_iload fL_law_248 rfl ?_
      refine R_imulV fL_law_250 (rfl) ?_
      refine R_ixor fL_law_251 ?_
      refine R_callI fL_law_252 rfl rfl pL_acts rfl ⟨Nat.le_of_ble_eq_true rfl, rfl⟩ (sp_acts (by omega) hK hv hr hc (by omega) h59 h00) (fun r F1 P1 q => ?_)
      obtain ⟨rfl, s1, v1, r1, c1, b1, x1⟩ := q
      refine R_if_eq fL_law_255 rfl (fun h255 => absurd h255 (by omega)) (fun h255 => ?_)
      refine R_aload_n fL_law_258 rfl ?_
      refine R_aload_n fL_law_259 rfl ?_
      refine R_aload_n fL_law_260 rfl ?_
      refine R_aload fL_law_261 rfl ?_
      refine R_aload fL_law_263 rfl ?_
      refine R_aload fL_law_265 rfl ?_
      refine R_aload fL_law_267 rfl ?_
      refine R_aload fL_law_269 rfl ?_
      refine R_callI fL_law_271 rfl rfl pL_isSo rfl ⟨Nat.le_of_ble_eq_true rfl, rfl⟩ (sp_isSo (by omega) hK v1 r1 c1 (by omega) b1) (fun r F2 P2 q => ?_)
      obtain ⟨rfl, v2, f2⟩ := q
      refine R_if_eq fL_law_274 rfl (fun h274 => absurd h274 (by omega)) (fun h274 => ?_)
      refine R_iconst fL_law_277 ?_
      refine R_goto fL_law_278 rfl ?_
      refine R_istore fL_law_282 rfl ?_
      refine R_iinc fL_law_284 rfl (by omega) ?_
      refine R_goto fL_law_287 rfl ?_
      refine ih _ _ _ s1 (by omega) (by omega) ⟨v2, FR_LR r1 f2, ?_, b1, ?_⟩ (by omega)
      · rw [show 4 + (i + 1) = 4 + i + 1 by omega]; exact c1
      · rw [(f2 0 (Or.inl (by omega))).1]; exact x1
theorem law_1 {kd : KL} {L : Nat} {xf : Int → Int} (hK : LK kd) (ks : kd[0]? = some (0, L)) (hLb : L ≤ 260) (hxb : ∀ j, inb (xf j)) : ∀ (N : Nat) (i : Int) (F : FM) (P : PM) (s : Int → Int) (x11 : Option AV), 0 ≤ i → i ≤ 4 → LW kd F P xf i s → 4 - i < N → Rn 7 mL_law 135 [some (.inr (some 0)), some (.inr (some 3)), some (.inr (some 128)), some (.inr (some 129)), some (.inr (some 130)), some (.inr (some 131)), some (.inr (some 132)), some (.inr (some 133)), some (.inr (some 134)), some (.inl 1), some (.inl i), x11] [] kd F P (QL kd) := by
  obtain ⟨kg, kl, kt, kp, kh, kb, kq, kx⟩ := id hK
  intro N
  induction N with
  | zero => intro i F P s x11 h0 h1 h2 h6; omega
  | succ N ih =>
    intro i F P s x11 h0 h1 h2 h6
    have h2' := h2
    obtain ⟨hv, hr, hc, h59, h00⟩ := h2
    refine R_iload fL_law_135 rfl ?_
    refine R_iconst fL_law_137 ?_
    refine R_icmp_ge fL_law_138 rfl (fun h138 => ?_) (fun h138 => ?_)
    · have hi : i = 4 := by omega
      subst hi
      obtain ⟨v, hvb, hsv⟩ := sp_cell (d := 7) (kd := kd) (F := F) (P := P) (k := 0) (by omega) ks hLb (by omega) (fun j => by rw [h00]; exact hxb j)
      obtain ⟨w, hwb, hsw⟩ := sp_low (d := 7) (kd := kd) (F := F) (P := P) (x := v) (n := 60) (by omega) (by omega)
      refine R_bipush fL_law_194 ?_
      refine R_aload_n fL_law_196 rfl ?_
      refine R_iconst fL_law_197 ?_
      refine R_callE fL_law_198 rfl rfl pL_cell rfl ⟨Nat.le_of_ble_eq_true rfl, rfl⟩ (hsv) ?_
      refine R_bipush fL_law_201 ?_
      refine R_callE fL_law_203 rfl rfl pL_low rfl ⟨Nat.le_of_ble_eq_true rfl, rfl⟩ (hsw) ?_
      refine R_iadd fL_law_206 (by omega) ?_
      refine R_istore fL_law_207 rfl ?_
      refine R_iconst fL_law_209 ?_
      refine R_istore fL_law_210 rfl ?_
      exact law_2 hK ks hLb hxb (by omega) 80 0 F P s (by omega) (by omega) h2' (by omega)
    · refine R_iload fL_law_141 rfl ?_
      refine R_if_eq fL_law_143 rfl (fun h143 => absurd h143 (by omega)) (fun h143 => ?_)
      refine R_aload_n fL_law_146 rfl ?_
      refine R_aload_n fL_law_147 rfl ?_
      refine R_aload_n fL_law_148 rfl ?_
      refine R_aload fL_law_149 rfl ?_
      refine R_aload fL_law_151 rfl ?_
      refine R_aload fL_law_153 rfl ?_
      refine R_aload fL_law_155 rfl ?_
      refine R_aload fL_law_157 rfl ?_
      refine R_aload_n fL_law_159 rfl ?_
      refine R_iconst fL_law_160 ?_
      refine R_iload fL_law_161 rfl ?_
      refine R_iadd fL_law_163 (by omega) ?_
      obtain ⟨v, hvb, hsv⟩ := sp_cell (d := 7) (kd := kd) (F := F) (P := P) (k := 1 + i) (by omega) ks hLb (by omega) (fun j => by rw [h00]; exact hxb j)
      refine R_callE fL_law_164 rfl rfl pL_cell rfl ⟨Nat.le_of_ble_eq_true rfl, rfl⟩ (hsv) ?_
      refine R_ldc fL_law_167 ?_
      refine R_iand fL_law_169 ?_
      refine R_sipush fL_law_170 ?_
      refine R_idivV fL_law_173 (by omega) (rfl) ?_
      refine R_sipush fL_law_174 ?_
      refine R_imulV fL_law_177 (rfl) ?_
      refine R_iconst fL_law_178 ?_
      refine R_iaddV fL_law_179 (rfl) ?_
      refine R_iload fL_law_180 rfl ?_
      refine R_iaddV fL_law_182 (rfl) ?_
      refine R_callI fL_law_183 rfl rfl pL_acts rfl ⟨Nat.le_of_ble_eq_true rfl, rfl⟩ (sp_acts (by omega) hK hv hr hc (by omega) h59 h00) (fun r F1 P1 q => ?_)
      obtain ⟨rfl, s1, v1, r1, c1, b1, x1⟩ := q
      refine R_istore fL_law_186 rfl ?_
      refine R_iinc fL_law_188 rfl (by omega) ?_
      refine R_goto fL_law_191 rfl ?_
      exact ih _ _ _ s1 _ (by omega) (by omega) ⟨v1, r1, c1, b1, x1⟩ (by omega)
theorem LR_0 {F : FM} (h : (F 128 0 = 2 ∧ F 128 6 = 1 ∧ F 128 8 = 1 ∧ ∀ j, j ≠ 0 → j ≠ 6 → j ≠ 8 → F 128 j = 0) ∧ ∀ p c, 0 ≤ p → p < 4 → 0 ≤ c → c < 6 → F 131 (6 * p + c) = if c = 2 then -1 else if c = 0 ∧ p < 2 then 20 else 0) : LR F s0 := by
  obtain ⟨⟨h0, h6, h8, ho⟩, hp⟩ := h
  have z : ∀ j, 0 ≤ j → j < 2087 → j ≠ 0 → ¬ (26 ≤ j ∧ j ≤ 28) → (j < 126 ∨ 150 ≤ j) → s0 j = 0 := fun j a b e f g => beg_z ⟨a, b⟩ e f g
  unfold LR LQ
  rw [z 1 (by omega) (by omega) (by omega) (by omega) (by omega), z 2 (by omega) (by omega) (by omega) (by omega) (by omega), z 3 (by omega) (by omega) (by omega) (by omega) (by omega), z 4 (by omega) (by omega) (by omega) (by omega) (by omega), z 25 (by omega) (by omega) (by omega) (by omega) (by omega), z 29 (by omega) (by omega) (by omega) (by omega) (by omega), z 150 (by omega) (by omega) (by omega) (by omega) (by omega)]
  have e0 : s0 0 = 2 := beg_0
  have e26 : s0 26 = 1 := (beg_set (by omega)).trans z0_26
  have e27 : s0 27 = 0 := (beg_set (by omega)).trans (z0_o (by omega) (by omega))
  have e28 : s0 28 = 1 := (beg_set (by omega)).trans z0_28
  rw [e0, e26, e27, e28]
  refine ⟨⟨h0, ho 1 (by omega) (by omega) (by omega), ho 2 (by omega) (by omega) (by omega), ho 3 (by omega) (by omega) (by omega), ho 4 (by omega) (by omega) (by omega), ho 5 (by omega) (by omega) (by omega), h6, ho 7 (by omega) (by omega) (by omega), h8, ho 9 (by omega) (by omega) (by omega), ho 10 (by omega) (by omega) (by omega)⟩, fun k k0 k1 => by omega, fun k k0 k1 => by omega, fun p i p0 p1 i0 i1 => ?_, fun k i k0 k1 => by omega, fun k i k0 k1 => by omega, fun i i0 i1 => by omega⟩
  rw [hp p i p0 (by omega) i0 i1]
  show _ = beginS z0 2 20 (126 + 6 * p + i)
  rw [beg_pl ⟨p0, by omega⟩ ⟨i0, i1⟩]
  by_cases h2 : i = 2
  · rw [if_pos h2, if_neg (by omega), if_pos h2]
  · rw [if_neg h2]
    by_cases h0 : i = 0
    · rw [if_pos ⟨h0, by omega⟩, if_pos h0, if_pos (by omega)]
    · rw [if_neg (fun q => h0 q.1), if_neg h0, if_neg h2]
theorem PC_0 : PC 0 s0 := PC_beg (by omega) (by omega)
def LB : KL := [(0, 11), (0, 20), (0, 40), (0, 24), (0, 48), (0, 48), (30, 64)]
set_option maxHeartbeats 1000000 in
theorem pure_ok : PURE := by
  intro L xf hL hxb
  have RR : Rn 7 mL_law 0 (some (.inr (some 0)) :: List.replicate 11 none) [] (kd0 L) (F00 xf) (fun _ _ => none) (fun rs => rs.1 = some (.inl 1) ∧ rs.2.1.length - 3 ≤ 600000 ∧ ksz rs.2.1 - (L + 6) ≤ 7302250) := by
    refine R_newO1 fL_law_0 (q := 3) rfl (l' := [(9, 8)]) rfl ?_
    refine R_dup fL_law_3 ?_
    refine R_callG fL_law_4 rfl rfl pX7_init rfl ⟨Nat.le_of_ble_eq_true rfl, rfl⟩ (sp_iX (by omega) rfl rfl rfl rfl ?_ ?_) (fun kd1 F1 P1 e1 => ?_)
    · rw [clF_ne _ (by omega)]; exact ⟨rfl, rfl, rfl⟩
    · rw [clF_ne _ (by omega)]; exact ⟨rfl, rfl, rfl⟩
    obtain ⟨e1, c1, t1⟩ := e1
    have hl : kd1.length = 128 := by rw [e1]; rfl
    have k0 : kd1[0]? = some (0, L) := by rw [e1]; rfl
    have k3 : kd1[3]? = some (9, 8) := by rw [e1]; rfl
    have hz : ksz kd1 ≤ L + 6 + 100000 := by
      rw [e1, ksz_ap, ksz_ap]
      have h1 : ksz (kd0 L) = L + 6 := by simp [ksz, kd0]
      have h2 : ksz LC ≤ 90000 := by decide +kernel
      have h3 : ksz [(9, 8)] = 8 := rfl
      omega
    clear e1
    have hx0 : F1 0 = xf := by rw [(t1 0 (by omega)).1, clF_ne _ (by omega)]; rfl
    refine R_astore_n fL_law_7 rfl ?_
    refine R_bipush fL_law_8 ?_
    refine R_newA1 fL_law_10 (by decide) (q := 128) hl (l' := [(0, 11)]) rfl ?_
    refine R_astore_n fL_law_12 rfl ?_
    refine R_bipush fL_law_13 ?_
    refine R_newA fL_law_15 (by decide) (q := 129) (by rw [hl]; rfl) (l' := [(0, 11), (0, 20)]) rfl ?_
    refine R_astore_n fL_law_17 rfl ?_
    refine R_bipush fL_law_18 ?_
    refine R_newA fL_law_20 (by decide) (q := 130) (by rw [hl]; rfl) (l' := [(0, 11), (0, 20), (0, 40)]) rfl ?_
    refine R_astore fL_law_22 rfl ?_
    refine R_bipush fL_law_24 ?_
    refine R_newA fL_law_26 (by decide) (q := 131) (by rw [hl]; rfl) (l' := [(0, 11), (0, 20), (0, 40), (0, 24)]) rfl ?_
    refine R_astore fL_law_28 rfl ?_
    refine R_bipush fL_law_30 ?_
    refine R_newA fL_law_32 (by decide) (q := 132) (by rw [hl]; rfl) (l' := [(0, 11), (0, 20), (0, 40), (0, 24), (0, 48)]) rfl ?_
    refine R_astore fL_law_34 rfl ?_
    refine R_bipush fL_law_36 ?_
    refine R_newA fL_law_38 (by decide) (q := 133) (by rw [hl]; rfl) (l' := [(0, 11), (0, 20), (0, 40), (0, 24), (0, 48), (0, 48)]) rfl ?_
    refine R_astore fL_law_40 rfl ?_
    refine R_bipush fL_law_42 ?_
    refine R_newLA fL_law_44 (by decide) (q := 134) (by rw [hl]; rfl) (l' := LB) rfl ?_
    refine R_astore fL_law_46 rfl ?_
    have hkk : ∀ j, j < 128 → (kd1 ++ LB)[j]? = kd1[j]? := fun j hj => ap_old (by omega)
    have hK : LK (kd1 ++ LB) := ⟨(ap_new (j := 0) hl).trans rfl, (ap_new (j := 1) hl).trans rfl, (ap_new (j := 2) hl).trans rfl, (ap_new (j := 3) hl).trans rfl, (ap_new (j := 4) hl).trans rfl, (ap_new (j := 5) hl).trans rfl, (ap_new (j := 6) hl).trans rfl, by rw [hkk 3 (by omega)]; exact k3⟩
    have hWD : WD (kd1 ++ LB) F1 P1 s0 := by
      obtain ⟨b, e, h, hX, hD⟩ := c1 (fun _ _ => 0) (fun _ => 0)
      exact ⟨0, fun _ _ => 0, ⟨b, e, h, shX_lt hX hkk (fun _ _ => rfl), hD⟩, WF_s0, by omega, fun j a b => by omega, Or.inl rfl, fun z => by omega, by omega⟩
    have hlen : (kd1 ++ LB).length = 135 := by rw [List.length_append, hl]; rfl
    have hz2 : ksz (kd1 ++ LB) ≤ L + 6 + 200000 := by
      rw [ksz_ap]
      have h2 : ksz LB ≤ 90000 := by decide +kernel
      omega
    have ks : (kd1 ++ LB)[0]? = some (0, L) := by rw [hkk 0 (by omega)]; exact k0
    clear k0 k3 c1 hz hkk
    revert hK hWD hlen hz2 ks
    generalize kd1 ++ LB = kd
    intro hK hWD hlen hz2 ks
    obtain ⟨kg, kl, kt, kp, kh, kb, kq, kx⟩ := id hK
    have hG : ∀ j, (clF (clF (clF (clF (clF (clF (clF F1 128) 129) 130) 131) 132) 133) 134) 128 j = 0 := fun j => by
      rw [clF_ne _ (by decide), clF_ne _ (by decide), clF_ne _ (by decide), clF_ne _ (by decide), clF_ne _ (by decide), clF_ne _ (by decide), clF_eq]
    have hS : ∀ k, k < 128 → (clF (clF (clF (clF (clF (clF (clF F1 128) 129) 130) 131) 132) 133) 134) k = F1 k := fun k hk => by
      rw [clF_ne _ (by omega), clF_ne _ (by omega), clF_ne _ (by omega), clF_ne _ (by omega), clF_ne _ (by omega), clF_ne _ (by omega), clF_ne _ (by omega)]
    revert hG hS
    generalize clF (clF (clF (clF (clF (clF (clF F1 128) 129) 130) 131) 132) 133) 134 = F2
    intro hG hS
    have lp : ∀ (N : Nat) (i : Int) (H : FM), 0 ≤ i → i ≤ 24 → (H 128 0 = 2 ∧ H 128 6 = 1 ∧ H 128 8 = 1 ∧ ∀ j, j ≠ 0 → j ≠ 6 → j ≠ 8 → H 128 j = 0) → (∀ p c, 0 ≤ p → p < 4 → 0 ≤ c → c < 6 → 6 * p + c < i → H 131 (6 * p + c) = if c = 2 then -1 else if c = 0 ∧ p < 2 then 20 else 0) → (∀ k, k < 128 → H k = F1 k) → 24 - i < N → Rn 7 mL_law 65 [some (.inr (some 0)), some (.inr (some 3)), some (.inr (some 128)), some (.inr (some 129)), some (.inr (some 130)), some (.inr (some 131)), some (.inr (some 132)), some (.inr (some 133)), some (.inr (some 134)), some (.inl i), none, none] [] kd H P1 (fun rs => rs.1 = some (.inl 1) ∧ rs.2.1.length - 3 ≤ 600000 ∧ ksz rs.2.1 - (L + 6) ≤ 7302250) := by
      intro N
      induction N with
      | zero => intro i H h0 h1 a1 a2 a3 h6; omega
      | succ N ih =>
        intro i H h0 h1 a1 a2 a3 h6
        refine R_iload fL_law_65 rfl ?_
        refine R_bipush fL_law_67 ?_
        refine R_icmp_ge fL_law_69 rfl (fun h69 => ?_) (fun h69 => ?_)
        · refine R_aload_n fL_law_114 rfl ?_
          refine R_aload_n fL_law_115 rfl ?_
          refine R_aload_n fL_law_116 rfl ?_
          refine R_aload fL_law_117 rfl ?_
          refine R_aload fL_law_119 rfl ?_
          refine R_aload fL_law_121 rfl ?_
          refine R_aload fL_law_123 rfl ?_
          refine R_aload fL_law_125 rfl ?_
          refine R_callI fL_law_127 rfl rfl pL_isSo rfl ⟨Nat.le_of_ble_eq_true rfl, rfl⟩ (sp_isSo (by omega) hK (WD_lt hWD a3) (LR_0 ⟨a1, fun p c p0 p1 c0 c1 => a2 p c p0 p1 c0 c1 (by omega)⟩) PC_0 (by omega) (by show s0 150 ≤ 59; unfold s0; rw [beg_z (by omega) (by omega) (by omega) (by omega)]; omega)) (fun r F3 P3 q => ?_)
          obtain ⟨rfl, v2, f2⟩ := q
          refine R_istore fL_law_130 rfl ?_
          refine R_iconst fL_law_132 ?_
          refine R_istore fL_law_133 rfl ?_
          refine (law_1 hK ks hL hxb 5 0 F3 P3 s0 _ (by omega) (by omega) ⟨v2, FR_LR (LR_0 ⟨a1, fun p c p0 p1 c0 c1 => a2 p c p0 p1 c0 c1 (by omega)⟩) f2, PC_0, ?_, ?_⟩ (by omega)).mono (fun rs q => ?_)
          · unfold s0; rw [beg_z (by omega) (by omega) (by omega) (by omega)]; omega
          · rw [(f2 0 (Or.inl (by omega))).1, a3 0 (by omega)]; exact hx0
          · obtain ⟨q1, q2⟩ := q
            exact ⟨q1, by rw [q2, hlen]; omega, by rw [q2]; omega⟩
        · refine R_aload fL_law_72 rfl ?_
          refine R_iload fL_law_74 rfl ?_
          refine R_iload fL_law_76 rfl ?_
          refine R_bipush fL_law_78 ?_
          refine R_iremV fL_law_80 (by omega) (wr_rem h0 (by omega) (by omega)) ?_
          refine R_iconst fL_law_81 ?_
          refine R_icmp_ne fL_law_82 rfl (fun h82 => ?_) (fun h82 => ?_)
          · refine R_iload fL_law_89 rfl ?_
            refine R_if_eq fL_law_91 rfl (fun h91 => ?_) (fun h91 => ?_)
            · refine R_bipush fL_law_101 ?_
              refine R_goto fL_law_103 rfl ?_
              refine R_iastore fL_law_107 kp (by decide) (by omega) ?_
              refine R_iinc fL_law_108 rfl (by omega) ?_
              refine R_goto fL_law_111 rfl ?_
              refine ih _ _ (by omega) (by omega) ⟨?_, ?_, ?_, fun j j0 j6 j8 => ?_⟩ (fun p c p0 p1 c0 c1 hi => ?_) (fun k hk => ?_) (by omega)
              rotate_left 4
              · by_cases hh : 6 * p + c = i
                · rw [hh, stt_eq]
                  first | (rw [if_pos (by omega)]; done) | (rw [if_neg (by omega), if_pos (by omega)]; done) | (rw [if_neg (by omega), if_neg (by omega)]; done)
                · rw [stt_j _ _ hh]; exact a2 p c p0 p1 c0 c1 (by omega)
              · rw [stt_kr _ _ _ (by omega)]; exact a3 k hk
              all_goals rw [stt_k _ _ _ _ (by decide)]
              · exact a1.1
              · exact a1.2.1
              · exact a1.2.2.1
              · exact a1.2.2.2 j j0 j6 j8
            · refine R_iload fL_law_94 rfl ?_
              refine R_bipush fL_law_96 ?_
              refine R_icmp_ne fL_law_98 rfl (fun h98 => ?_) (fun h98 => ?_)
              · refine R_iconst fL_law_106 ?_
                refine R_iastore fL_law_107 kp (by decide) (by omega) ?_
                refine R_iinc fL_law_108 rfl (by omega) ?_
                refine R_goto fL_law_111 rfl ?_
                refine ih _ _ (by omega) (by omega) ⟨?_, ?_, ?_, fun j j0 j6 j8 => ?_⟩ (fun p c p0 p1 c0 c1 hi => ?_) (fun k hk => ?_) (by omega)
                rotate_left 4
                · by_cases hh : 6 * p + c = i
                  · rw [hh, stt_eq]
                    first | (rw [if_pos (by omega)]; done) | (rw [if_neg (by omega), if_pos (by omega)]; done) | (rw [if_neg (by omega), if_neg (by omega)]; done)
                  · rw [stt_j _ _ hh]; exact a2 p c p0 p1 c0 c1 (by omega)
                · rw [stt_kr _ _ _ (by omega)]; exact a3 k hk
                all_goals rw [stt_k _ _ _ _ (by decide)]
                · exact a1.1
                · exact a1.2.1
                · exact a1.2.2.1
                · exact a1.2.2.2 j j0 j6 j8
              · refine R_bipush fL_law_101 ?_
                refine R_goto fL_law_103 rfl ?_
                refine R_iastore fL_law_107 kp (by decide) (by omega) ?_
                refine R_iinc fL_law_108 rfl (by omega) ?_
                refine R_goto fL_law_111 rfl ?_
                refine ih _ _ (by omega) (by omega) ⟨?_, ?_, ?_, fun j j0 j6 j8 => ?_⟩ (fun p c p0 p1 c0 c1 hi => ?_) (fun k hk => ?_) (by omega)
                rotate_left 4
                · by_cases hh : 6 * p + c = i
                  · rw [hh, stt_eq]
                    first | (rw [if_pos (by omega)]; done) | (rw [if_neg (by omega), if_pos (by omega)]; done) | (rw [if_neg (by omega), if_neg (by omega)]; done)
                  · rw [stt_j _ _ hh]; exact a2 p c p0 p1 c0 c1 (by omega)
                · rw [stt_kr _ _ _ (by omega)]; exact a3 k hk
                all_goals rw [stt_k _ _ _ _ (by decide)]
                · exact a1.1
                · exact a1.2.1
                · exact a1.2.2.1
                · exact a1.2.2.2 j j0 j6 j8
          · refine R_iconst fL_law_85 ?_
            refine R_goto fL_law_86 rfl ?_
            refine R_iastore fL_law_107 kp (by decide) (by omega) ?_
            refine R_iinc fL_law_108 rfl (by omega) ?_
            refine R_goto fL_law_111 rfl ?_
            refine ih _ _ (by omega) (by omega) ⟨?_, ?_, ?_, fun j j0 j6 j8 => ?_⟩ (fun p c p0 p1 c0 c1 hi => ?_) (fun k hk => ?_) (by omega)
            rotate_left 4
            · by_cases hh : 6 * p + c = i
              · rw [hh, stt_eq]
                first | (rw [if_pos (by omega)]; done) | (rw [if_neg (by omega), if_pos (by omega)]; done) | (rw [if_neg (by omega), if_neg (by omega)]; done)
              · rw [stt_j _ _ hh]; exact a2 p c p0 p1 c0 c1 (by omega)
            · rw [stt_kr _ _ _ (by omega)]; exact a3 k hk
            all_goals rw [stt_k _ _ _ _ (by decide)]
            · exact a1.1
            · exact a1.2.1
            · exact a1.2.2.1
            · exact a1.2.2.2 j j0 j6 j8
    refine R_aload_n fL_law_48 rfl ?_
    refine R_iconst fL_law_49 ?_
    refine R_iconst fL_law_50 ?_
    refine R_iastore fL_law_51 kg (by decide) (by omega) ?_
    refine R_aload_n fL_law_52 rfl ?_
    refine R_bipush fL_law_53 ?_
    refine R_iconst fL_law_55 ?_
    refine R_iastore fL_law_56 kg (by decide) (by omega) ?_
    refine R_aload_n fL_law_57 rfl ?_
    refine R_bipush fL_law_58 ?_
    refine R_iconst fL_law_60 ?_
    refine R_iastore fL_law_61 kg (by decide) (by omega) ?_
    refine R_iconst fL_law_62 ?_
    refine R_istore fL_law_63 rfl ?_
    refine lp 25 0 _ (by omega) (by omega) ⟨?_, ?_, ?_, fun j j0 j6 j8 => ?_⟩ (fun p c p0 p1 c0 c1 hi => by omega) (fun k hk => ?_) (by omega)
    · simp (disch := omega) only [stt_k, stt_j, stt_eq]
    · simp (disch := omega) only [stt_k, stt_j, stt_eq]
    · simp (disch := omega) only [stt_k, stt_j, stt_eq]
    · simp (disch := omega) only [stt_k, stt_j, stt_eq]; exact hG j
    · simp (disch := omega) only [stt_kr]; exact hS k hk
  obtain ⟨rs, hq, N, hN⟩ := RR
  exact ⟨N, rs, hN N N (Nat.le_refl _) (Nat.le_refl _), hq⟩
