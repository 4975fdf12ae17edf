theorem sp_rundo {d : Nat} {kd : KL} {F : FM} {P : PM} {s : Int → Int} {m : Int} {σ : Int → Int → Int} {hs : Int} {sn : Int → Int} {n : Int} {c : Int → Int}  (hd : 1 ≤ d) (hM : shM kd P) (hW : RWl F s m σ hs sn n c) (hA : AW s m σ hs sn n)  : Sp d 127 [.inr (some 128)] kd F P (QV kd P (fun r F' => r = (if m = 0 then -1000002 else m - 1) ∧ RWl F' (if m = 0 then s else σ (m - 1)) (if m = 0 then m else m - 1) σ hs sn n c ∧ ∀ k, k < 128 → F' k = F k)) := by
  refine Sp_of (me := mX8_undo) (by omega) pX8_undo ⟨rfl, Nat.le_of_ble_eq_true rfl⟩ ?_
  obtain ⟨r1, r2, r3, r4, r5, r6, r7, r8, z1, z2, z3, z4⟩ := id hW
  have hm := hA.2.1
  have hnn := hA.2.2.2.2.2
  have lp : ∀ (N : Nat) (i : Int) (G : FM), 1 ≤ m → G 128 6 = m - 1 → (∀ j, j ≠ 6 → G 128 j = F 128 j) → (∀ k, k ≠ 128 → k ≠ 129 → G k = F k) → 0 ≤ i → i ≤ 2107 → (∀ j, 0 ≤ j → j < i → G 129 j = F 130 (2107 * (m - 1) + j)) → (∀ j, (j < 0 ∨ 2107 ≤ j) → G 129 j = F 129 j) → 2107 - i < N → Rn (d - 1) mX8_undo 22 [some (.inr (some 128)), some (.inl i)] [] kd G P (QV kd P (fun r F' => r = (if m = 0 then -1000002 else m - 1) ∧ RWl F' (if m = 0 then s else σ (m - 1)) (if m = 0 then m else m - 1) σ hs sn n c ∧ ∀ k, k < 128 → F' k = F k)) := by
    intro N
    induction N with
    | zero => intro i G; intros; omega
    | succ N ih =>
      intro i G h0 h1 h2 h3 h4 h5 h6 h7 h8
      have e7 : G 130 = F 130 := h3 130 (by omega) (by omega)
      refine R_iload_n fX8_undo_22 rfl ?_
      refine R_sipush fX8_undo_23 ?_
      refine R_icmp_ge fX8_undo_26 rfl (fun h26 => ?_) (fun h26 => ?_)
      · refine R_aload_n fX8_undo_56 rfl ?_
        refine R_getI 6 fX8_undo_57 hM.1 (by omega) rfl rfl rfl ?_
        refine R_ireturn fX8_undo_60 rfl ?_
        have hi : i = 2107 := by omega
        subst hi
        have es : G 129 = σ (m - 1) := by
          rw [← r3 (m - 1) (by omega) (by omega)]
          funext a
          unfold PS
          by_cases ha : 0 ≤ a ∧ a < 2107
          · rw [if_pos ha]; exact h6 a ha.1 ha.2
          · rw [if_neg ha, h7 a (by omega)]; exact z1 a (by omega)
        rw [if_neg (by omega), if_neg (by omega), if_neg (by omega)]
        refine ⟨_, _, rfl, h1, ⟨es, h1, fun j j0 j1 => ?_, ?_, fun z => ?_, ?_, ?_, ?_, fun j hj => ?_, ?_, ?_, ?_⟩, fun k hk => h3 k (by omega) (by omega)⟩
        · rw [← r3 j j0 (by omega)]; unfold PS; rw [e7]
        · rw [h2 5 (by omega)]; exact r4
        · rw [h3 133 (by omega) (by omega)]; exact r5 z
        · rw [h2 9 (by omega)]; exact r6
        · rw [h3 134 (by omega) (by omega)]; exact r7
        · rw [h2 7 (by omega)]; exact r8
        · rw [h7 j hj]; exact z1 j hj
        · rw [h3 131 (by omega) (by omega)]; exact z2
        · rw [h3 132 (by omega) (by omega)]; exact z3
        · rw [h3 133 (by omega) (by omega)]; exact z4
      · refine R_aload_n fX8_undo_29 rfl ?_
        refine R_getP 0 fX8_undo_30 hM.1 (by omega) rfl rfl rfl hM.2.2.2.2.2.2.2.2.1 ?_
        refine R_iload_n fX8_undo_33 rfl ?_
        refine R_aload_n fX8_undo_34 rfl ?_
        refine R_getP 1 fX8_undo_35 hM.1 (by omega) rfl rfl rfl hM.2.2.2.2.2.2.2.2.2.1 ?_
        refine R_sipush fX8_undo_38 ?_
        refine R_aload_n fX8_undo_41 rfl ?_
        refine R_getI 6 fX8_undo_42 hM.1 (by omega) rfl rfl rfl ?_
        refine R_imul fX8_undo_45 (by omega) ?_
        refine R_iload_n fX8_undo_46 rfl ?_
        refine R_iadd fX8_undo_47 (by omega) ?_
        refine R_iaload fX8_undo_48 hM.2.2.1 (by omega) ?_
        refine R_iastore fX8_undo_49 hM.2.1 (by omega) (by omega) ?_
        refine R_iinc fX8_undo_50 rfl (by omega) ?_
        refine R_goto fX8_undo_53 rfl ?_
        refine ih (i + 1) _ h0 ?_ (fun j hj => ?_) (fun k k1 k2 => ?_) (by omega) (by omega) (fun j j0 j1 => ?_) (fun j hj => ?_) (by omega)
        · rw [stt_kr _ _ _ (by omega)]; exact h1
        · rw [stt_kr _ _ _ (by omega)]; exact h2 j hj
        · rw [stt_kr _ _ _ k2]; exact h3 k k1 k2
        · by_cases hj : j = i
          · rw [hj, stt_eq, e7, h1]
          · rw [stt_j _ _ hj]; exact h6 j j0 (by omega)
        · rw [stt_j _ _ (by omega)]; exact h7 j hj
  refine R_aload_n fX8_undo_0 rfl ?_
  refine R_getI 6 fX8_undo_1 hM.1 (by omega) rfl rfl rfl ?_
  refine R_if_ne fX8_undo_4 rfl (fun h4 => ?_) (fun h4 => ?_)
  · refine R_aload_n fX8_undo_10 rfl ?_
    refine R_dup fX8_undo_11 ?_
    refine R_getI 6 fX8_undo_12 hM.1 (by omega) rfl rfl rfl ?_
    refine R_iconst fX8_undo_15 ?_
    refine R_isub fX8_undo_16 (by omega) ?_
    refine R_putI 6 fX8_undo_17 hM.1 (by omega) rfl rfl rfl ?_
    refine R_iconst fX8_undo_20 ?_
    refine R_istore_n fX8_undo_21 rfl ?_
    refine lp 2200 0 _ (by omega) ?_ (fun j hj => stt_j _ _ hj) (fun k k1 k2 => stt_kr _ _ _ k1) (by omega) (by omega) (fun j a b => by omega) (fun j hj => ?_) (by omega)
    · rw [stt_eq, r2]
    · rw [stt_kr _ _ _ (by omega)]
  · refine R_ldc fX8_undo_7 ?_
    refine R_ireturn fX8_undo_9 rfl ?_
    have hm0 : m = 0 := by omega
    rw [if_pos hm0, if_pos hm0, if_pos hm0]
    exact ⟨_, _, rfl, rfl, hW, fun _ _ => rfl⟩
