/-- rows that are 0 outside -/
def Zr (g : Int → Int) : Prop := ∀ j, (j < 0 ∨ 2107 ≤ j) → g j = 0
/-- the games before, as the reference keeps them -/
def PS (F : FM) : Int → Int → Int := fun j a => if 0 ≤ a ∧ a < 2107 then F 130 (2107 * j + a) else 0
theorem sp_mcopies {d : Nat} {kd : KL} {F : FM} {P : PM} {A B : Nat} (hd : 1 ≤ d) (hA : kd[A]? = some (0, 2107)) (hB : kd[B]? = some (0, 2107)) (hB3 : 3 ≤ B) (hAB : A ≠ B) (zA : Zr (F A)) (zB : Zr (F B)) : Sp d 89 [.inr (some A), .inr (some B)] kd F P (QN kd P (fun F' => F' = setr F B (F A))) := by
  refine Sp_of (me := mX8_copies) (by omega) pX8_copies ⟨rfl, Nat.le_of_ble_eq_true rfl⟩ ?_
  have lp : ∀ (N : Nat) (i : Int) (G : FM), 0 ≤ i → i ≤ 2107 → (∀ j, 0 ≤ j → j < i → G B j = F A j) → (∀ j, (j < 0 ∨ i ≤ j) → G B j = F B j) → (∀ k, k ≠ B → G k = F k) → 2107 - i < N → Rn (d - 1) mX8_copies 2 [some (.inr (some A)), some (.inr (some B)), some (.inl i)] [] kd G P (QN kd P (fun F' => F' = setr F B (F A))) := by
    intro N
    induction N with
    | zero => intro i G h0 h1 h2 h3 h4 h5; omega
    | succ N ih =>
      intro i G h0 h1 h2 h3 h4 h5
      refine R_iload_n fX8_copies_2 rfl ?_
      refine R_sipush fX8_copies_3 ?_
      refine R_icmp_ge fX8_copies_6 rfl (fun h6 => ?_) (fun h6 => ?_)
      · refine R_return fX8_copies_21 rfl ?_
        refine ⟨_, rfl, ?_⟩
        funext k
        by_cases hk : k = B
        · rw [hk, setr_eq]
          funext j
          by_cases hj : 0 ≤ j ∧ j < 2107
          · exact h2 j hj.1 (by omega)
          · rw [h3 j (by omega), zA j (by omega), zB j (by omega)]
        · rw [setr_ne _ _ hk]; exact h4 k hk
      · refine R_aload_n fX8_copies_9 rfl ?_
        refine R_iload_n fX8_copies_10 rfl ?_
        refine R_aload_n fX8_copies_11 rfl ?_
        refine R_iload_n fX8_copies_12 rfl ?_
        refine R_iaload fX8_copies_13 hA (by omega) ?_
        refine R_iastore fX8_copies_14 hB hB3 (by omega) ?_
        refine R_iinc fX8_copies_15 rfl (by omega) ?_
        refine R_goto fX8_copies_18 rfl ?_
        refine ih (i + 1) _ (by omega) (by omega) (fun j j0 j1 => ?_) (fun j hj => ?_) (fun k hk => ?_) (by omega)
        · by_cases hj : j = i
          · rw [hj, stt_eq, h4 A hAB]
          · rw [stt_j _ _ hj]; exact h2 j j0 (by omega)
        · rw [stt_j _ _ (by omega)]; exact h3 j (by omega)
        · rw [stt_kr _ _ _ hk]; exact h4 k hk
  refine R_iconst fX8_copies_0 ?_
  refine R_istore_n fX8_copies_1 rfl ?_
  exact lp 2200 0 F (by omega) (by omega) (fun j a b => by omega) (fun _ _ => rfl) (fun _ _ => rfl) (by omega)
theorem sp_mchanges {d : Nat} {kd : KL} {F : FM} {P : PM} {m : Int} (hd : 1 ≤ d) (hM : shM kd P) (hr : F 128 7 = 0) (h6 : F 128 6 = m) (hm : 0 ≤ m ∧ m ≤ 4) (hz : Zr (F 129)) : Sp d 90 [.inr (some 128)] kd F P (QN kd P (fun F' => (F' 128 6 = pmN m ∧ (∀ j, 0 ≤ j → j < pmN m → PS F' j = pmS m (PS F) (F 129) j)) ∧ (∀ j, j ≠ 6 → F' 128 j = F 128 j) ∧ ∀ k, k ≠ 128 → k ≠ 130 → F' k = F k)) := by
  refine Sp_of (me := mX8_changes) (by omega) pX8_changes ⟨rfl, Nat.le_of_ble_eq_true rfl⟩ ?_
  have tail : ∀ (N : Nat) (i q : Int) (G0 G : FM), (0 ≤ q ∧ q ≤ 3 ∧ q + 1 = pmN m) → G0 128 6 = q → (∀ j, 0 ≤ j → j < q → PS G0 j = pmS m (PS F) (F 129) j) → pmS m (PS F) (F 129) q = F 129 → (∀ j, j ≠ 6 → G0 128 j = F 128 j) → (∀ k, k ≠ 128 → k ≠ 130 → G0 k = F k) → 0 ≤ i → i ≤ 2107 → (∀ j, 0 ≤ j → j < i → G 130 (2107 * q + j) = F 129 j) → (∀ j, (j < 2107 * q ∨ 2107 * q + 2107 ≤ j) → G 130 j = G0 130 j) → (∀ k, k ≠ 130 → G k = G0 k) → 2107 - i < N → Rn (d - 1) mX8_changes 59 [some (.inr (some 128)), some (.inl i)] [] kd G P (QN kd P (fun F' => (F' 128 6 = pmN m ∧ (∀ j, 0 ≤ j → j < pmN m → PS F' j = pmS m (PS F) (F 129) j)) ∧ (∀ j, j ≠ 6 → F' 128 j = F 128 j) ∧ ∀ k, k ≠ 128 → k ≠ 130 → F' k = F k)) := by
    intro N
    induction N with
    | zero => intro i q G0 G; intros; omega
    | succ N ih =>
      intro i q G0 G hq hg0 hps hpq hj6 hfr h0 h1 h2 h3 h4 h5
      have e6 : G 128 6 = q := by rw [h4 128 (by omega)]; exact hg0
      have es : G 129 = F 129 := by rw [h4 129 (by omega)]; exact hfr 129 (by omega) (by omega)
      refine R_iload_n fX8_changes_59 rfl ?_
      refine R_sipush fX8_changes_60 ?_
      refine R_icmp_ge fX8_changes_63 rfl (fun h63 => ?_) (fun h63 => ?_)
      · refine R_aload_n fX8_changes_93 rfl ?_
        refine R_dup fX8_changes_94 ?_
        refine R_getI 6 fX8_changes_95 hM.1 (by omega) rfl rfl rfl ?_
        refine R_iconst fX8_changes_98 ?_
        refine R_iadd fX8_changes_99 (by omega) ?_
        refine R_putI 6 fX8_changes_100 hM.1 (by omega) rfl rfl rfl ?_
        refine R_return fX8_changes_103 rfl ?_
        have hi : i = 2107 := by omega
        subst hi
        refine ⟨_, rfl, ⟨?_, fun j j0 j1 => ?_⟩, fun j hj => ?_, fun k k1 k2 => ?_⟩
        · rw [stt_eq, e6]; exact hq.2.2
        · rw [← hq.2.2] at j1
          by_cases hj : j = q
          · rw [hj, hpq]
            funext a
            show (if 0 ≤ a ∧ a < 2107 then stt G 128 6 _ 130 (2107 * q + a) else 0) = F 129 a
            by_cases ha : 0 ≤ a ∧ a < 2107
            · rw [if_pos ha, stt_k _ _ _ _ (by omega)]; exact h2 a ha.1 ha.2
            · rw [if_neg ha]; exact (hz a (by omega)).symm
          · rw [← hps j j0 (by omega)]
            funext a
            show (if 0 ≤ a ∧ a < 2107 then stt G 128 6 _ 130 (2107 * j + a) else 0) = if 0 ≤ a ∧ a < 2107 then G0 130 (2107 * j + a) else 0
            by_cases ha : 0 ≤ a ∧ a < 2107
            · rw [if_pos ha, if_pos ha, stt_k _ _ _ _ (by omega)]; exact h3 _ (by omega)
            · rw [if_neg ha, if_neg ha]
        · rw [stt_j _ _ hj, h4 128 (by omega)]; exact hj6 j hj
        · rw [stt_kr _ _ _ k1, h4 k k2]; exact hfr k k1 k2
      · refine R_aload_n fX8_changes_66 rfl ?_
        refine R_getP 1 fX8_changes_67 hM.1 (by omega) rfl rfl rfl hM.2.2.2.2.2.2.2.2.2.1 ?_
        refine R_sipush fX8_changes_70 ?_
        refine R_aload_n fX8_changes_73 rfl ?_
        refine R_getI 6 fX8_changes_74 hM.1 (by omega) rfl rfl rfl ?_
        refine R_imul fX8_changes_77 (by omega) ?_
        refine R_iload_n fX8_changes_78 rfl ?_
        refine R_iadd fX8_changes_79 (by omega) ?_
        refine R_aload_n fX8_changes_80 rfl ?_
        refine R_getP 0 fX8_changes_81 hM.1 (by omega) rfl rfl rfl hM.2.2.2.2.2.2.2.2.1 ?_
        refine R_iload_n fX8_changes_84 rfl ?_
        refine R_iaload fX8_changes_85 hM.2.1 (by omega) ?_
        refine R_iastore fX8_changes_86 hM.2.2.1 (by omega) (by omega) ?_
        refine R_iinc fX8_changes_87 rfl (by omega) ?_
        refine R_goto fX8_changes_90 rfl ?_
        refine ih (i + 1) q G0 _ hq hg0 hps hpq hj6 hfr (by omega) (by omega) (fun j j0 j1 => ?_) (fun j hj => ?_) (fun k hk => ?_) (by omega)
        · rw [e6]
          by_cases hj : j = i
          · rw [hj, stt_eq, es]
          · rw [stt_j _ _ (by omega)]; exact h2 j j0 (by omega)
        · rw [e6, stt_j _ _ (by omega)]; exact h3 j hj
        · rw [stt_kr _ _ _ hk]; exact h4 k hk
  have shift : ∀ (N : Nat) (i : Int) (G : FM), m = 4 → 0 ≤ i → i ≤ 6321 → (∀ j, 0 ≤ j → j < i → G 130 j = F 130 (j + 2107)) → (∀ j, i ≤ j → G 130 j = F 130 j) → (∀ k, k ≠ 130 → G k = F k) → 6321 - i < N → Rn (d - 1) mX8_changes 18 [some (.inr (some 128)), some (.inl i)] [] kd G P (QN kd P (fun F' => (F' 128 6 = pmN m ∧ (∀ j, 0 ≤ j → j < pmN m → PS F' j = pmS m (PS F) (F 129) j)) ∧ (∀ j, j ≠ 6 → F' 128 j = F 128 j) ∧ ∀ k, k ≠ 128 → k ≠ 130 → F' k = F k)) := by
    intro N
    induction N with
    | zero => intro i G; intros; omega
    | succ N ih =>
      intro i G hm4 h0 h1 h2 h3 h4 h5
      have e6 : G 128 6 = m := by rw [h4 128 (by omega)]; exact h6
      refine R_iload_n fX8_changes_18 rfl ?_
      refine R_sipush fX8_changes_19 ?_
      refine R_icmp_ge fX8_changes_22 rfl (fun h22 => ?_) (fun h22 => ?_)
      · refine R_aload_n fX8_changes_47 rfl ?_
        refine R_dup fX8_changes_48 ?_
        refine R_getI 6 fX8_changes_49 hM.1 (by omega) rfl rfl rfl ?_
        refine R_iconst fX8_changes_52 ?_
        refine R_isub fX8_changes_53 (by omega) ?_
        refine R_putI 6 fX8_changes_54 hM.1 (by omega) rfl rfl rfl ?_
        refine R_iconst fX8_changes_57 ?_
        refine R_istore_n fX8_changes_58 rfl ?_
        have hi : i = 6321 := by omega
        subst hi
        have hpm : pmN m = 4 := by unfold pmN; rw [if_neg (by omega)]
        refine tail 2200 0 3 (stt G 128 6 (G 128 6 - 1)) _ (by omega) (by rw [stt_eq]; omega) (fun j j0 j1 => ?_) (by unfold pmS; rw [if_neg (by omega), if_pos rfl]) (fun j hj => ?_) (fun k k1 k2 => ?_) (by omega) (by omega) (fun j a b => by omega) (fun _ _ => rfl) (fun _ _ => rfl) (by omega)
        · unfold pmS
          rw [if_neg (by omega), if_neg (by omega)]
          funext a
          show (if 0 ≤ a ∧ a < 2107 then stt G 128 6 _ 130 (2107 * j + a) else 0) = if 0 ≤ a ∧ a < 2107 then F 130 (2107 * (j + 1) + a) else 0
          by_cases ha : 0 ≤ a ∧ a < 2107
          · rw [if_pos ha, if_pos ha, stt_k _ _ _ _ (by omega), h2 _ (by omega) (by omega)]
            congr 1
            omega
          · rw [if_neg ha, if_neg ha]
        · rw [stt_j _ _ hj, h4 128 (by omega)]
        · rw [stt_kr _ _ _ k1]; exact h4 k k2
      · refine R_aload_n fX8_changes_25 rfl ?_
        refine R_getP 1 fX8_changes_26 hM.1 (by omega) rfl rfl rfl hM.2.2.2.2.2.2.2.2.2.1 ?_
        refine R_iload_n fX8_changes_29 rfl ?_
        refine R_aload_n fX8_changes_30 rfl ?_
        refine R_getP 1 fX8_changes_31 hM.1 (by omega) rfl rfl rfl hM.2.2.2.2.2.2.2.2.2.1 ?_
        refine R_iload_n fX8_changes_34 rfl ?_
        refine R_sipush fX8_changes_35 ?_
        refine R_iadd fX8_changes_38 (by omega) ?_
        refine R_iaload fX8_changes_39 hM.2.2.1 (by omega) ?_
        refine R_iastore fX8_changes_40 hM.2.2.1 (by omega) (by omega) ?_
        refine R_iinc fX8_changes_41 rfl (by omega) ?_
        refine R_goto fX8_changes_44 rfl ?_
        refine ih (i + 1) _ hm4 (by omega) (by omega) (fun j j0 j1 => ?_) (fun j hj => ?_) (fun k hk => ?_) (by omega)
        · by_cases hj : j = i
          · rw [hj, stt_eq]; exact h3 _ (by omega)
          · rw [stt_j _ _ hj]; exact h2 j j0 (by omega)
        · rw [stt_j _ _ (by omega)]; exact h3 j (by omega)
        · rw [stt_kr _ _ _ hk]; exact h4 k hk
  refine R_aload_n fX8_changes_0 rfl ?_
  refine R_getI 7 fX8_changes_1 hM.1 (by omega) rfl rfl rfl ?_
  refine R_if_eq fX8_changes_4 rfl (fun h4 => ?_) (fun h4 => absurd h4 (by omega))
  refine R_aload_n fX8_changes_8 rfl ?_
  refine R_getI 6 fX8_changes_9 hM.1 (by omega) rfl rfl rfl ?_
  refine R_iconst fX8_changes_12 ?_
  refine R_icmp_ne fX8_changes_13 rfl (fun h13 => ?_) (fun h13 => ?_)
  · refine R_iconst fX8_changes_57 ?_
    refine R_istore_n fX8_changes_58 rfl ?_
    have hpm : pmN m = m + 1 := by unfold pmN; rw [if_pos (by omega)]
    exact tail 2200 0 m F F (by omega) h6 (fun j j0 j1 => by unfold pmS; rw [if_pos (by omega), if_neg (by omega)]) (by unfold pmS; rw [if_pos (by omega), if_pos rfl]) (fun _ _ => rfl) (fun _ _ _ => rfl) (by omega) (by omega) (fun j a b => by omega) (fun _ _ => rfl) (fun _ _ => rfl) (by omega)
  · refine R_iconst fX8_changes_16 ?_
    refine R_istore_n fX8_changes_17 rfl ?_
    exact shift 6400 0 F (by omega) (by omega) (by omega) (fun j a b => by omega) (fun _ _ => rfl) (fun _ _ => rfl) (by omega)
