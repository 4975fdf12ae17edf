/-! ## all of it -/
theorem shS_kd {kd kd' : KL} {P : PM} {B : Nat} (h : shS kd P B) (hk : ∀ j, j < B + 16 → kd'[j]? = kd[j]?) : shS kd' P B := by
  unfold shS at *
  rw [hk B (by omega), hk (B + 1) (by omega), hk (B + 2) (by omega), hk (B + 3) (by omega), hk (B + 4) (by omega), hk (B + 5) (by omega), hk (B + 6) (by omega), hk (B + 7) (by omega), hk (B + 8) (by omega), hk (B + 9) (by omega), hk (B + 10) (by omega), hk (B + 11) (by omega), hk (B + 12) (by omega), hk (B + 13) (by omega), hk (B + 14) (by omega), hk (B + 15) (by omega)]
  exact h
theorem shX_lt {kd kd' : KL} {P P' : PM} {b e : Nat} {h : Int → Nat} (hX : shX kd P b e h) (hk : ∀ j, j < 128 → kd'[j]? = kd[j]?) (hP : ∀ k, k < 128 → P' k = P k) : shX kd' P' b e h := by
  obtain ⟨a1, a2, a3, a4, a5, a6, a7, a8, a9, a10, a11, a12⟩ := hX
  refine ⟨by rw [hk 3 (by omega)]; exact a1, by rw [hP 3 (by omega)]; exact a2, ?_, by rw [hP 5 (by omega)]; exact a4, fun x hx => ?_, ?_, ?_, ?_, a9, a10, a11, by rw [hk 2 (by omega)]; exact a12⟩
  · unfold shH at *
    rw [hk 4 (by omega), hk 5 (by omega), hP 4 (by omega)]; exact a3
  · have hx2 : x + 16 ≤ 128 := by unfold isB at hx; omega
    exact shS_P (shS_kd (a5 x hx) (fun j hj => hk j (by omega))) (fun k k0 k1 => hP k (by omega))
  · unfold shT at *
    rw [hk 86 (by omega), hk (86 + 1) (by omega), hP 86 (by omega)]; exact a6
  · unfold shO at *
    rw [hk 88 (by omega), hk (88 + 1) (by omega), hk (88 + 2) (by omega), hP 88 (by omega)]; exact a7
  · refine ⟨?_, ?_⟩
    · unfold shA at *
      rw [hk 91 (by omega), hk 95 (by omega), hP 91 (by omega)]; exact a8.1
    · unfold shO at *
      rw [hk 92 (by omega), hk (92 + 1) (by omega), hk (92 + 2) (by omega), hP 92 (by omega)]; exact a8.2
theorem ksz_ap (a b : KL) : ksz (a ++ b) = ksz a + ksz b := by unfold ksz; rw [List.map_append, List.sum_append]
theorem IW_0 {σ : Int → Int → Int} {sn : Int → Int} : IW 0 s0 0 σ 0 sn 0 := by
  refine ⟨⟨WF_s0, by omega, fun j a b => by omega, Or.inl rfl, fun z => by omega, by omega⟩, ?_, fun j a b => by omega, fun z => by omega⟩
  unfold s0
  rw [beg_z (by omega) (by omega) (by omega) (by omega)]; omega
theorem pure_ok : PURE := by
  intro L xf hL hxb
  have R : Rn 9 mL_law 0 [some (.inr (some 0)), none, none, none] [] (kd0 L) (F00 xf) (fun _ _ => none) (fun rs => rs.1 = some (.inl 1) ∧ rs.2.1.length - 3 ≤ 600000 ∧ ksz rs.2.1 - (L + 6) ≤ 7302250) := by
    refine R_newO1 fL_law_0 (q := 3) rfl (l' := [(9, 8)]) rfl ?_
    refine R_dup fL_law_3 ?_
    refine R_callG fL_law_4 rfl rfl pX7_init rfl ⟨Nat.le_of_ble_eq_true rfl, rfl⟩ (sp_iX (by omega) rfl rfl rfl rfl ?_ ?_) (fun kd1 F1 P1 e1 => ?_)
    · rw [clF_ne _ (by omega)]; exact ⟨rfl, rfl, rfl⟩
    · rw [clF_ne _ (by omega)]; exact ⟨rfl, rfl, rfl⟩
    obtain ⟨e1, c1, t1⟩ := e1
    have hl : kd1.length = 128 := by rw [e1]; rfl
    have k0 : kd1[0]? = some (0, L) := by rw [e1]; rfl
    have k3 : kd1[3]? = some (9, 8) := by rw [e1]; rfl
    have hz : ksz kd1 ≤ L + 6 + 100000 := by
      rw [e1, ksz_ap, ksz_ap]
      have h1 : ksz (kd0 L) = L + 6 := by simp [ksz, kd0]
      have h2 : ksz LC ≤ 90000 := by decide +kernel
      have h3 : ksz [(9, 8)] = 8 := rfl
      omega
    clear e1
    refine R_astore_n fL_law_7 rfl ?_
    refine R_newO1 fL_law_8 (q := 128) hl (l' := [(10, 22)]) rfl ?_
    refine R_dup fL_law_11 ?_
    refine R_callG fL_law_12 rfl rfl pX8_init rfl ⟨Nat.le_of_ble_eq_true rfl, rfl⟩ (sp_iM (by omega) ((ap_new (j := 0) hl).trans rfl) (by rw [List.length_append, hl]; rfl) (clF_eq _ _)) (fun kd2 F2 P2 e2 => ?_)
    obtain ⟨e2, m2, r2, t2⟩ := e2
    have hkk : ∀ j, j < 128 → kd2[j]? = kd1[j]? := fun j hj => by
      rw [e2, ap_old (by rw [List.length_append, hl]; exact Nat.lt_succ_of_lt hj), ap_old (by omega)]
    have hl2 : kd2.length = 136 := by rw [e2, List.length_append, List.length_append, hl]; rfl
    have hz2 : ksz kd2 ≤ L + 6 + 200000 := by
      rw [e2, ksz_ap, ksz_ap]
      have h2 : ksz LM ≤ 90000 := by decide +kernel
      have h3 : ksz [(10, 22)] = 22 := rfl
      omega
    clear e2
    refine R_astore_n fL_law_15 rfl ?_
    refine R_iconst fL_law_16 ?_
    refine R_istore_n fL_law_17 rfl ?_
    have hPl : ∀ k, k < 128 → P2 k = P1 k := fun k hk => by rw [(t2 k hk).2, clP_ne _ (by omega)]
    have hFl : ∀ k, k < 128 → F2 k = F1 k := fun k hk => by rw [(t2 k hk).1, clF_ne _ (by omega)]
    have hC : CW kd2 F1 P2 s0 0 (fun _ _ => 0) 0 (fun _ => 0) 0 (fun _ => 0) := by
      obtain ⟨b, e, h, hX, hD⟩ := c1 (fun _ _ => 0) (fun _ => 0)
      exact ⟨b, e, h, shX_lt hX hkk hPl, hD⟩
    have hW : LW kd2 F2 P2 xf 0 s0 0 (fun _ _ => 0) 0 (fun _ => 0) 0 (fun _ => 0) := ⟨CW_lt hC (by omega) hFl, m2, r2 _ _, IW_0, by
      rw [hFl 0 (by omega), (t1 0 (by omega)).1, clF_ne _ (by omega)]; rfl⟩
    refine (law_loop (by rw [hkk 0 (by omega)]; exact k0) (by rw [hkk 3 (by omega)]; exact k3) hxb hL 2000 F2 P2 0 0 _ _ _ _ _ _ _ (by omega) (by omega) (by omega) hW (by omega)).mono (fun rs q => ?_)
    obtain ⟨q1, q2⟩ := q
    exact ⟨q1, by rw [q2, hl2]; omega, by rw [q2]; omega⟩
  obtain ⟨rs, hq, N, hN⟩ := R
  exact ⟨N, rs, hN N N (Nat.le_refl _) (Nat.le_refl _), hq⟩
