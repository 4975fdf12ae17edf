/-! ## the law's round: who wins it -/
theorem lr_1 {d : Nat} {kd : KL} {F : FM} {P : PM} {s : Int → Int} {Q : RS → Prop} (hK : LK kd) (hg : F 128 0 = s 0) (hp : ∀ p, 0 ≤ p → p < s 0 → F 131 (6 * p + 2) = bdS s p) (hw : WF s) (hb : BD s) (K : ∀ x11, Rn d mL_resolve 112 [some (.inr (some 128)), some (.inr (some 129)), some (.inr (some 130)), some (.inr (some 131)), some (.inr (some 132)), some (.inr (some 133)), some (.inr (some 134)), some (.inl (grF (bdS s) (s 0).toNat)), some (.inl (cnF (bdS s) (grF (bdS s) (s 0).toNat) (s 0).toNat)), some (.inl (wnS s)), some (.inl (s 0)), x11, none] [] kd F P Q) : Rn d mL_resolve 0 [some (.inr (some 128)), some (.inr (some 129)), some (.inr (some 130)), some (.inr (some 131)), some (.inr (some 132)), some (.inr (some 133)), some (.inr (some 134)), none, none, none, none, none, none] [] kd F P Q := by
  obtain ⟨kg, kl, kt, kp, kh, kb, kq, kx⟩ := id hK
  have w0 := hw.1
  have lp : ∀ (N : Nat) (i a c w : Int) (x11 : Option AV), 0 ≤ i → i ≤ s 0 → a = grF (bdS s) i.toNat → c = cnF (bdS s) a i.toNat → (-1 ≤ w ∧ w < s 0) → (c = 1 → w = lsF (bdS s) a i.toNat) → s 0 - i < N → Rn d mL_resolve 12 [some (.inr (some 128)), some (.inr (some 129)), some (.inr (some 130)), some (.inr (some 131)), some (.inr (some 132)), some (.inr (some 133)), some (.inr (some 134)), some (.inl a), some (.inl c), some (.inl w), some (.inl i), x11, none] [] kd F P Q := by
    intro N
    induction N with
    | zero => intro i a c w x11 h0 h1 h2 h3 h4 h5 h6; omega
    | succ N ih =>
      intro i a c w x11 h0 h1 h2 h3 h4 h5 h6
      have hcn := cnF_nn (f := bdS s) (m := a) (n := i.toNat)
      have hgb := grF_b (f := bdS s) (b := 120) (by omega) (n := i.toNat) (fun p p0 p1 => (bd_b hw hb p p0 (by omega)).2)
      refine R_iload fL_resolve_12 rfl ?_
      refine R_aload_n fL_resolve_14 rfl ?_
      refine R_iconst fL_resolve_15 ?_
      refine R_iaload fL_resolve_16 kg (by omega) ?_
      rw [hg]
      refine R_icmp_ge fL_resolve_17 rfl (fun h17 => ?_) (fun h17 => ?_)
      · refine R_iload fL_resolve_98 rfl ?_
        refine R_iconst fL_resolve_100 ?_
        refine R_icmp_le fL_resolve_101 rfl (fun h101 => ?_) (fun h101 => ?_)
        · refine R_iload fL_resolve_108 rfl ?_
          refine R_istore fL_resolve_110 rfl ?_
          have hi : i = s 0 := by omega
          subst hi
          have hpos := cnF_pos (f := bdS s) (n := (s 0).toNat) (by have h1 := grF_le (f := bdS s) (n := (s 0).toNat) (p := 0) (by omega) (by omega); have h2 := hb 0 (by omega) (by omega); omega)
          subst h2
          subst h3
          have hwn : wnS s = w := by
            unfold wnS winF
            rw [if_pos (by omega)]; exact (h5 (by omega)).symm
          have kk := K x11
          rw [hwn] at kk
          exact kk
        · refine R_iconst fL_resolve_104 ?_
          refine R_goto fL_resolve_105 rfl ?_
          refine R_istore fL_resolve_110 rfl ?_
          have hi : i = s 0 := by omega
          subst hi
          have hpos := cnF_pos (f := bdS s) (n := (s 0).toNat) (by have h1 := grF_le (f := bdS s) (n := (s 0).toNat) (p := 0) (by omega) (by omega); have h2 := hb 0 (by omega) (by omega); omega)
          subst h2
          subst h3
          have hwn : wnS s = -1 := by
            unfold wnS winF
            rw [if_neg (by omega)]
          have kk := K x11
          rw [hwn] at kk
          exact kk
      · refine R_aload_n fL_resolve_20 rfl ?_
        refine R_bipush fL_resolve_21 ?_
        refine R_iload fL_resolve_23 rfl ?_
        refine R_imul fL_resolve_25 (by omega) ?_
        refine R_iconst fL_resolve_26 ?_
        refine R_iadd fL_resolve_27 (by omega) ?_
        refine R_iaload fL_resolve_28 kp (by omega) ?_
        rw [hp i h0 (by omega)]
        have hbi := hb i h0 (by omega)
        refine R_istore fL_resolve_29 rfl ?_
        refine R_iload fL_resolve_31 rfl ?_
        refine R_iload fL_resolve_33 rfl ?_
        refine R_icmp_le fL_resolve_35 rfl (fun h35 => ?_) (fun h35 => ?_)
        · refine R_iload fL_resolve_42 rfl ?_
          refine R_iload fL_resolve_44 rfl ?_
          refine R_icmp_ne fL_resolve_46 rfl (fun h46 => ?_) (fun h46 => ?_)
          · refine R_iload fL_resolve_56 rfl ?_
            refine R_istore fL_resolve_58 rfl ?_
            refine R_iload fL_resolve_60 rfl ?_
            refine R_iload fL_resolve_62 rfl ?_
            refine R_icmp_le fL_resolve_64 rfl (fun h64 => ?_) (fun h64 => ?_)
            · refine R_iload fL_resolve_72 rfl ?_
              refine R_istore fL_resolve_74 rfl ?_
              refine R_iload fL_resolve_76 rfl ?_
              refine R_iload fL_resolve_78 rfl ?_
              refine R_icmp_le fL_resolve_80 rfl (fun h80 => ?_) (fun h80 => ?_)
              · refine R_iload fL_resolve_88 rfl ?_
                refine R_istore fL_resolve_90 rfl ?_
                refine R_iinc fL_resolve_92 rfl (by omega) ?_
                refine R_goto fL_resolve_95 rfl ?_
                first
                | (exfalso; omega)
                | (have hq : a < bdS s i := by omega
                   have hgr : grF (bdS s) (i + 1).toNat = bdS s i := by rw [grF_s h0, ← h2, if_pos hq]
                   refine ih _ _ _ _ _ (by omega) (by omega) hgr.symm ?_ (by omega) (fun _ => ?_) (by omega)
                   · rw [cnF_s h0, cnF_0 (fun p p0 p1 => by have := grF_le (f := bdS s) (n := i.toNat) p0 p1; omega), if_pos rfl]; rfl
                   · rw [lsF_s h0, if_pos rfl])
                | (have hq : bdS s i = a := by omega
                   have hgr : grF (bdS s) (i + 1).toNat = a := by rw [grF_s h0, ← h2, if_neg (by omega)]
                   refine ih _ _ _ _ _ (by omega) (by omega) hgr.symm ?_ (by omega) (fun z => ?_) (by omega)
                   · rw [cnF_s h0, if_pos hq, h3]
                   · exfalso
                     have := cnF_pos (f := bdS s) (n := i.toNat) (by rw [← h2]; omega)
                     rw [← h2, ← h3] at this
                     omega)
                | (have hq : bdS s i < a := by omega
                   have hgr : grF (bdS s) (i + 1).toNat = a := by rw [grF_s h0, ← h2, if_neg (by omega)]
                   refine ih _ _ _ _ _ (by omega) (by omega) hgr.symm ?_ (by omega) (fun z => ?_) (by omega)
                   · rw [cnF_s h0, if_neg (by omega), Int.add_zero]; exact h3
                   · rw [lsF_s h0, if_neg (by omega)]; exact h5 z)
              · refine R_iload fL_resolve_83 rfl ?_
                refine R_goto fL_resolve_85 rfl ?_
                refine R_istore fL_resolve_90 rfl ?_
                refine R_iinc fL_resolve_92 rfl (by omega) ?_
                refine R_goto fL_resolve_95 rfl ?_
                first
                | (exfalso; omega)
                | (have hq : a < bdS s i := by omega
                   have hgr : grF (bdS s) (i + 1).toNat = bdS s i := by rw [grF_s h0, ← h2, if_pos hq]
                   refine ih _ _ _ _ _ (by omega) (by omega) hgr.symm ?_ (by omega) (fun _ => ?_) (by omega)
                   · rw [cnF_s h0, cnF_0 (fun p p0 p1 => by have := grF_le (f := bdS s) (n := i.toNat) p0 p1; omega), if_pos rfl]; rfl
                   · rw [lsF_s h0, if_pos rfl])
                | (have hq : bdS s i = a := by omega
                   have hgr : grF (bdS s) (i + 1).toNat = a := by rw [grF_s h0, ← h2, if_neg (by omega)]
                   refine ih _ _ _ _ _ (by omega) (by omega) hgr.symm ?_ (by omega) (fun z => ?_) (by omega)
                   · rw [cnF_s h0, if_pos hq, h3]
                   · exfalso
                     have := cnF_pos (f := bdS s) (n := i.toNat) (by rw [← h2]; omega)
                     rw [← h2, ← h3] at this
                     omega)
                | (have hq : bdS s i < a := by omega
                   have hgr : grF (bdS s) (i + 1).toNat = a := by rw [grF_s h0, ← h2, if_neg (by omega)]
                   refine ih _ _ _ _ _ (by omega) (by omega) hgr.symm ?_ (by omega) (fun z => ?_) (by omega)
                   · rw [cnF_s h0, if_neg (by omega), Int.add_zero]; exact h3
                   · rw [lsF_s h0, if_neg (by omega)]; exact h5 z)
            · refine R_iload fL_resolve_67 rfl ?_
              refine R_goto fL_resolve_69 rfl ?_
              refine R_istore fL_resolve_74 rfl ?_
              refine R_iload fL_resolve_76 rfl ?_
              refine R_iload fL_resolve_78 rfl ?_
              refine R_icmp_le fL_resolve_80 rfl (fun h80 => ?_) (fun h80 => ?_)
              · refine R_iload fL_resolve_88 rfl ?_
                refine R_istore fL_resolve_90 rfl ?_
                refine R_iinc fL_resolve_92 rfl (by omega) ?_
                refine R_goto fL_resolve_95 rfl ?_
                first
                | (exfalso; omega)
                | (have hq : a < bdS s i := by omega
                   have hgr : grF (bdS s) (i + 1).toNat = bdS s i := by rw [grF_s h0, ← h2, if_pos hq]
                   refine ih _ _ _ _ _ (by omega) (by omega) hgr.symm ?_ (by omega) (fun _ => ?_) (by omega)
                   · rw [cnF_s h0, cnF_0 (fun p p0 p1 => by have := grF_le (f := bdS s) (n := i.toNat) p0 p1; omega), if_pos rfl]; rfl
                   · rw [lsF_s h0, if_pos rfl])
                | (have hq : bdS s i = a := by omega
                   have hgr : grF (bdS s) (i + 1).toNat = a := by rw [grF_s h0, ← h2, if_neg (by omega)]
                   refine ih _ _ _ _ _ (by omega) (by omega) hgr.symm ?_ (by omega) (fun z => ?_) (by omega)
                   · rw [cnF_s h0, if_pos hq, h3]
                   · exfalso
                     have := cnF_pos (f := bdS s) (n := i.toNat) (by rw [← h2]; omega)
                     rw [← h2, ← h3] at this
                     omega)
                | (have hq : bdS s i < a := by omega
                   have hgr : grF (bdS s) (i + 1).toNat = a := by rw [grF_s h0, ← h2, if_neg (by omega)]
                   refine ih _ _ _ _ _ (by omega) (by omega) hgr.symm ?_ (by omega) (fun z => ?_) (by omega)
                   · rw [cnF_s h0, if_neg (by omega), Int.add_zero]; exact h3
                   · rw [lsF_s h0, if_neg (by omega)]; exact h5 z)
              · refine R_iload fL_resolve_83 rfl ?_
                refine R_goto fL_resolve_85 rfl ?_
                refine R_istore fL_resolve_90 rfl ?_
                refine R_iinc fL_resolve_92 rfl (by omega) ?_
                refine R_goto fL_resolve_95 rfl ?_
                first
                | (exfalso; omega)
                | (have hq : a < bdS s i := by omega
                   have hgr : grF (bdS s) (i + 1).toNat = bdS s i := by rw [grF_s h0, ← h2, if_pos hq]
                   refine ih _ _ _ _ _ (by omega) (by omega) hgr.symm ?_ (by omega) (fun _ => ?_) (by omega)
                   · rw [cnF_s h0, cnF_0 (fun p p0 p1 => by have := grF_le (f := bdS s) (n := i.toNat) p0 p1; omega), if_pos rfl]; rfl
                   · rw [lsF_s h0, if_pos rfl])
                | (have hq : bdS s i = a := by omega
                   have hgr : grF (bdS s) (i + 1).toNat = a := by rw [grF_s h0, ← h2, if_neg (by omega)]
                   refine ih _ _ _ _ _ (by omega) (by omega) hgr.symm ?_ (by omega) (fun z => ?_) (by omega)
                   · rw [cnF_s h0, if_pos hq, h3]
                   · exfalso
                     have := cnF_pos (f := bdS s) (n := i.toNat) (by rw [← h2]; omega)
                     rw [← h2, ← h3] at this
                     omega)
                | (have hq : bdS s i < a := by omega
                   have hgr : grF (bdS s) (i + 1).toNat = a := by rw [grF_s h0, ← h2, if_neg (by omega)]
                   refine ih _ _ _ _ _ (by omega) (by omega) hgr.symm ?_ (by omega) (fun z => ?_) (by omega)
                   · rw [cnF_s h0, if_neg (by omega), Int.add_zero]; exact h3
                   · rw [lsF_s h0, if_neg (by omega)]; exact h5 z)
          · refine R_iload fL_resolve_49 rfl ?_
            refine R_iconst fL_resolve_51 ?_
            refine R_iadd fL_resolve_52 (by omega) ?_
            refine R_goto fL_resolve_53 rfl ?_
            refine R_istore fL_resolve_58 rfl ?_
            refine R_iload fL_resolve_60 rfl ?_
            refine R_iload fL_resolve_62 rfl ?_
            refine R_icmp_le fL_resolve_64 rfl (fun h64 => ?_) (fun h64 => ?_)
            · refine R_iload fL_resolve_72 rfl ?_
              refine R_istore fL_resolve_74 rfl ?_
              refine R_iload fL_resolve_76 rfl ?_
              refine R_iload fL_resolve_78 rfl ?_
              refine R_icmp_le fL_resolve_80 rfl (fun h80 => ?_) (fun h80 => ?_)
              · refine R_iload fL_resolve_88 rfl ?_
                refine R_istore fL_resolve_90 rfl ?_
                refine R_iinc fL_resolve_92 rfl (by omega) ?_
                refine R_goto fL_resolve_95 rfl ?_
                first
                | (exfalso; omega)
                | (have hq : a < bdS s i := by omega
                   have hgr : grF (bdS s) (i + 1).toNat = bdS s i := by rw [grF_s h0, ← h2, if_pos hq]
                   refine ih _ _ _ _ _ (by omega) (by omega) hgr.symm ?_ (by omega) (fun _ => ?_) (by omega)
                   · rw [cnF_s h0, cnF_0 (fun p p0 p1 => by have := grF_le (f := bdS s) (n := i.toNat) p0 p1; omega), if_pos rfl]; rfl
                   · rw [lsF_s h0, if_pos rfl])
                | (have hq : bdS s i = a := by omega
                   have hgr : grF (bdS s) (i + 1).toNat = a := by rw [grF_s h0, ← h2, if_neg (by omega)]
                   refine ih _ _ _ _ _ (by omega) (by omega) hgr.symm ?_ (by omega) (fun z => ?_) (by omega)
                   · rw [cnF_s h0, if_pos hq, h3]
                   · exfalso
                     have := cnF_pos (f := bdS s) (n := i.toNat) (by rw [← h2]; omega)
                     rw [← h2, ← h3] at this
                     omega)
                | (have hq : bdS s i < a := by omega
                   have hgr : grF (bdS s) (i + 1).toNat = a := by rw [grF_s h0, ← h2, if_neg (by omega)]
                   refine ih _ _ _ _ _ (by omega) (by omega) hgr.symm ?_ (by omega) (fun z => ?_) (by omega)
                   · rw [cnF_s h0, if_neg (by omega), Int.add_zero]; exact h3
                   · rw [lsF_s h0, if_neg (by omega)]; exact h5 z)
              · refine R_iload fL_resolve_83 rfl ?_
                refine R_goto fL_resolve_85 rfl ?_
                refine R_istore fL_resolve_90 rfl ?_
                refine R_iinc fL_resolve_92 rfl (by omega) ?_
                refine R_goto fL_resolve_95 rfl ?_
                first
                | (exfalso; omega)
                | (have hq : a < bdS s i := by omega
                   have hgr : grF (bdS s) (i + 1).toNat = bdS s i := by rw [grF_s h0, ← h2, if_pos hq]
                   refine ih _ _ _ _ _ (by omega) (by omega) hgr.symm ?_ (by omega) (fun _ => ?_) (by omega)
                   · rw [cnF_s h0, cnF_0 (fun p p0 p1 => by have := grF_le (f := bdS s) (n := i.toNat) p0 p1; omega), if_pos rfl]; rfl
                   · rw [lsF_s h0, if_pos rfl])
                | (have hq : bdS s i = a := by omega
                   have hgr : grF (bdS s) (i + 1).toNat = a := by rw [grF_s h0, ← h2, if_neg (by omega)]
                   refine ih _ _ _ _ _ (by omega) (by omega) hgr.symm ?_ (by omega) (fun z => ?_) (by omega)
                   · rw [cnF_s h0, if_pos hq, h3]
                   · exfalso
                     have := cnF_pos (f := bdS s) (n := i.toNat) (by rw [← h2]; omega)
                     rw [← h2, ← h3] at this
                     omega)
                | (have hq : bdS s i < a := by omega
                   have hgr : grF (bdS s) (i + 1).toNat = a := by rw [grF_s h0, ← h2, if_neg (by omega)]
                   refine ih _ _ _ _ _ (by omega) (by omega) hgr.symm ?_ (by omega) (fun z => ?_) (by omega)
                   · rw [cnF_s h0, if_neg (by omega), Int.add_zero]; exact h3
                   · rw [lsF_s h0, if_neg (by omega)]; exact h5 z)
            · refine R_iload fL_resolve_67 rfl ?_
              refine R_goto fL_resolve_69 rfl ?_
              refine R_istore fL_resolve_74 rfl ?_
              refine R_iload fL_resolve_76 rfl ?_
              refine R_iload fL_resolve_78 rfl ?_
              refine R_icmp_le fL_resolve_80 rfl (fun h80 => ?_) (fun h80 => ?_)
              · refine R_iload fL_resolve_88 rfl ?_
                refine R_istore fL_resolve_90 rfl ?_
                refine R_iinc fL_resolve_92 rfl (by omega) ?_
                refine R_goto fL_resolve_95 rfl ?_
                first
                | (exfalso; omega)
                | (have hq : a < bdS s i := by omega
                   have hgr : grF (bdS s) (i + 1).toNat = bdS s i := by rw [grF_s h0, ← h2, if_pos hq]
                   refine ih _ _ _ _ _ (by omega) (by omega) hgr.symm ?_ (by omega) (fun _ => ?_) (by omega)
                   · rw [cnF_s h0, cnF_0 (fun p p0 p1 => by have := grF_le (f := bdS s) (n := i.toNat) p0 p1; omega), if_pos rfl]; rfl
                   · rw [lsF_s h0, if_pos rfl])
                | (have hq : bdS s i = a := by omega
                   have hgr : grF (bdS s) (i + 1).toNat = a := by rw [grF_s h0, ← h2, if_neg (by omega)]
                   refine ih _ _ _ _ _ (by omega) (by omega) hgr.symm ?_ (by omega) (fun z => ?_) (by omega)
                   · rw [cnF_s h0, if_pos hq, h3]
                   · exfalso
                     have := cnF_pos (f := bdS s) (n := i.toNat) (by rw [← h2]; omega)
                     rw [← h2, ← h3] at this
                     omega)
                | (have hq : bdS s i < a := by omega
                   have hgr : grF (bdS s) (i + 1).toNat = a := by rw [grF_s h0, ← h2, if_neg (by omega)]
                   refine ih _ _ _ _ _ (by omega) (by omega) hgr.symm ?_ (by omega) (fun z => ?_) (by omega)
                   · rw [cnF_s h0, if_neg (by omega), Int.add_zero]; exact h3
                   · rw [lsF_s h0, if_neg (by omega)]; exact h5 z)
              · refine R_iload fL_resolve_83 rfl ?_
                refine R_goto fL_resolve_85 rfl ?_
                refine R_istore fL_resolve_90 rfl ?_
                refine R_iinc fL_resolve_92 rfl (by omega) ?_
                refine R_goto fL_resolve_95 rfl ?_
                first
                | (exfalso; omega)
                | (have hq : a < bdS s i := by omega
                   have hgr : grF (bdS s) (i + 1).toNat = bdS s i := by rw [grF_s h0, ← h2, if_pos hq]
                   refine ih _ _ _ _ _ (by omega) (by omega) hgr.symm ?_ (by omega) (fun _ => ?_) (by omega)
                   · rw [cnF_s h0, cnF_0 (fun p p0 p1 => by have := grF_le (f := bdS s) (n := i.toNat) p0 p1; omega), if_pos rfl]; rfl
                   · rw [lsF_s h0, if_pos rfl])
                | (have hq : bdS s i = a := by omega
                   have hgr : grF (bdS s) (i + 1).toNat = a := by rw [grF_s h0, ← h2, if_neg (by omega)]
                   refine ih _ _ _ _ _ (by omega) (by omega) hgr.symm ?_ (by omega) (fun z => ?_) (by omega)
                   · rw [cnF_s h0, if_pos hq, h3]
                   · exfalso
                     have := cnF_pos (f := bdS s) (n := i.toNat) (by rw [← h2]; omega)
                     rw [← h2, ← h3] at this
                     omega)
                | (have hq : bdS s i < a := by omega
                   have hgr : grF (bdS s) (i + 1).toNat = a := by rw [grF_s h0, ← h2, if_neg (by omega)]
                   refine ih _ _ _ _ _ (by omega) (by omega) hgr.symm ?_ (by omega) (fun z => ?_) (by omega)
                   · rw [cnF_s h0, if_neg (by omega), Int.add_zero]; exact h3
                   · rw [lsF_s h0, if_neg (by omega)]; exact h5 z)
        · refine R_iconst fL_resolve_38 ?_
          refine R_goto fL_resolve_39 rfl ?_
          refine R_istore fL_resolve_58 rfl ?_
          refine R_iload fL_resolve_60 rfl ?_
          refine R_iload fL_resolve_62 rfl ?_
          refine R_icmp_le fL_resolve_64 rfl (fun h64 => ?_) (fun h64 => ?_)
          · refine R_iload fL_resolve_72 rfl ?_
            refine R_istore fL_resolve_74 rfl ?_
            refine R_iload fL_resolve_76 rfl ?_
            refine R_iload fL_resolve_78 rfl ?_
            refine R_icmp_le fL_resolve_80 rfl (fun h80 => ?_) (fun h80 => ?_)
            · refine R_iload fL_resolve_88 rfl ?_
              refine R_istore fL_resolve_90 rfl ?_
              refine R_iinc fL_resolve_92 rfl (by omega) ?_
              refine R_goto fL_resolve_95 rfl ?_
              first
              | (exfalso; omega)
              | (have hq : a < bdS s i := by omega
                 have hgr : grF (bdS s) (i + 1).toNat = bdS s i := by rw [grF_s h0, ← h2, if_pos hq]
                 refine ih _ _ _ _ _ (by omega) (by omega) hgr.symm ?_ (by omega) (fun _ => ?_) (by omega)
                 · rw [cnF_s h0, cnF_0 (fun p p0 p1 => by have := grF_le (f := bdS s) (n := i.toNat) p0 p1; omega), if_pos rfl]; rfl
                 · rw [lsF_s h0, if_pos rfl])
              | (have hq : bdS s i = a := by omega
                 have hgr : grF (bdS s) (i + 1).toNat = a := by rw [grF_s h0, ← h2, if_neg (by omega)]
                 refine ih _ _ _ _ _ (by omega) (by omega) hgr.symm ?_ (by omega) (fun z => ?_) (by omega)
                 · rw [cnF_s h0, if_pos hq, h3]
                 · exfalso
                   have := cnF_pos (f := bdS s) (n := i.toNat) (by rw [← h2]; omega)
                   rw [← h2, ← h3] at this
                   omega)
              | (have hq : bdS s i < a := by omega
                 have hgr : grF (bdS s) (i + 1).toNat = a := by rw [grF_s h0, ← h2, if_neg (by omega)]
                 refine ih _ _ _ _ _ (by omega) (by omega) hgr.symm ?_ (by omega) (fun z => ?_) (by omega)
                 · rw [cnF_s h0, if_neg (by omega), Int.add_zero]; exact h3
                 · rw [lsF_s h0, if_neg (by omega)]; exact h5 z)
            · refine R_iload fL_resolve_83 rfl ?_
              refine R_goto fL_resolve_85 rfl ?_
              refine R_istore fL_resolve_90 rfl ?_
              refine R_iinc fL_resolve_92 rfl (by omega) ?_
              refine R_goto fL_resolve_95 rfl ?_
              first
              | (exfalso; omega)
              | (have hq : a < bdS s i := by omega
                 have hgr : grF (bdS s) (i + 1).toNat = bdS s i := by rw [grF_s h0, ← h2, if_pos hq]
                 refine ih _ _ _ _ _ (by omega) (by omega) hgr.symm ?_ (by omega) (fun _ => ?_) (by omega)
                 · rw [cnF_s h0, cnF_0 (fun p p0 p1 => by have := grF_le (f := bdS s) (n := i.toNat) p0 p1; omega), if_pos rfl]; rfl
                 · rw [lsF_s h0, if_pos rfl])
              | (have hq : bdS s i = a := by omega
                 have hgr : grF (bdS s) (i + 1).toNat = a := by rw [grF_s h0, ← h2, if_neg (by omega)]
                 refine ih _ _ _ _ _ (by omega) (by omega) hgr.symm ?_ (by omega) (fun z => ?_) (by omega)
                 · rw [cnF_s h0, if_pos hq, h3]
                 · exfalso
                   have := cnF_pos (f := bdS s) (n := i.toNat) (by rw [← h2]; omega)
                   rw [← h2, ← h3] at this
                   omega)
              | (have hq : bdS s i < a := by omega
                 have hgr : grF (bdS s) (i + 1).toNat = a := by rw [grF_s h0, ← h2, if_neg (by omega)]
                 refine ih _ _ _ _ _ (by omega) (by omega) hgr.symm ?_ (by omega) (fun z => ?_) (by omega)
                 · rw [cnF_s h0, if_neg (by omega), Int.add_zero]; exact h3
                 · rw [lsF_s h0, if_neg (by omega)]; exact h5 z)
          · refine R_iload fL_resolve_67 rfl ?_
            refine R_goto fL_resolve_69 rfl ?_
            refine R_istore fL_resolve_74 rfl ?_
            refine R_iload fL_resolve_76 rfl ?_
            refine R_iload fL_resolve_78 rfl ?_
            refine R_icmp_le fL_resolve_80 rfl (fun h80 => ?_) (fun h80 => ?_)
            · refine R_iload fL_resolve_88 rfl ?_
              refine R_istore fL_resolve_90 rfl ?_
              refine R_iinc fL_resolve_92 rfl (by omega) ?_
              refine R_goto fL_resolve_95 rfl ?_
              first
              | (exfalso; omega)
              | (have hq : a < bdS s i := by omega
                 have hgr : grF (bdS s) (i + 1).toNat = bdS s i := by rw [grF_s h0, ← h2, if_pos hq]
                 refine ih _ _ _ _ _ (by omega) (by omega) hgr.symm ?_ (by omega) (fun _ => ?_) (by omega)
                 · rw [cnF_s h0, cnF_0 (fun p p0 p1 => by have := grF_le (f := bdS s) (n := i.toNat) p0 p1; omega), if_pos rfl]; rfl
                 · rw [lsF_s h0, if_pos rfl])
              | (have hq : bdS s i = a := by omega
                 have hgr : grF (bdS s) (i + 1).toNat = a := by rw [grF_s h0, ← h2, if_neg (by omega)]
                 refine ih _ _ _ _ _ (by omega) (by omega) hgr.symm ?_ (by omega) (fun z => ?_) (by omega)
                 · rw [cnF_s h0, if_pos hq, h3]
                 · exfalso
                   have := cnF_pos (f := bdS s) (n := i.toNat) (by rw [← h2]; omega)
                   rw [← h2, ← h3] at this
                   omega)
              | (have hq : bdS s i < a := by omega
                 have hgr : grF (bdS s) (i + 1).toNat = a := by rw [grF_s h0, ← h2, if_neg (by omega)]
                 refine ih _ _ _ _ _ (by omega) (by omega) hgr.symm ?_ (by omega) (fun z => ?_) (by omega)
                 · rw [cnF_s h0, if_neg (by omega), Int.add_zero]; exact h3
                 · rw [lsF_s h0, if_neg (by omega)]; exact h5 z)
            · refine R_iload fL_resolve_83 rfl ?_
              refine R_goto fL_resolve_85 rfl ?_
              refine R_istore fL_resolve_90 rfl ?_
              refine R_iinc fL_resolve_92 rfl (by omega) ?_
              refine R_goto fL_resolve_95 rfl ?_
              first
              | (exfalso; omega)
              | (have hq : a < bdS s i := by omega
                 have hgr : grF (bdS s) (i + 1).toNat = bdS s i := by rw [grF_s h0, ← h2, if_pos hq]
                 refine ih _ _ _ _ _ (by omega) (by omega) hgr.symm ?_ (by omega) (fun _ => ?_) (by omega)
                 · rw [cnF_s h0, cnF_0 (fun p p0 p1 => by have := grF_le (f := bdS s) (n := i.toNat) p0 p1; omega), if_pos rfl]; rfl
                 · rw [lsF_s h0, if_pos rfl])
              | (have hq : bdS s i = a := by omega
                 have hgr : grF (bdS s) (i + 1).toNat = a := by rw [grF_s h0, ← h2, if_neg (by omega)]
                 refine ih _ _ _ _ _ (by omega) (by omega) hgr.symm ?_ (by omega) (fun z => ?_) (by omega)
                 · rw [cnF_s h0, if_pos hq, h3]
                 · exfalso
                   have := cnF_pos (f := bdS s) (n := i.toNat) (by rw [← h2]; omega)
                   rw [← h2, ← h3] at this
                   omega)
              | (have hq : bdS s i < a := by omega
                 have hgr : grF (bdS s) (i + 1).toNat = a := by rw [grF_s h0, ← h2, if_neg (by omega)]
                 refine ih _ _ _ _ _ (by omega) (by omega) hgr.symm ?_ (by omega) (fun z => ?_) (by omega)
                 · rw [cnF_s h0, if_neg (by omega), Int.add_zero]; exact h3
                 · rw [lsF_s h0, if_neg (by omega)]; exact h5 z)
  refine R_iconst fL_resolve_0 ?_
  refine R_istore fL_resolve_1 rfl ?_
  refine R_iconst fL_resolve_3 ?_
  refine R_istore fL_resolve_4 rfl ?_
  refine R_iconst fL_resolve_6 ?_
  refine R_istore fL_resolve_7 rfl ?_
  refine R_iconst fL_resolve_9 ?_
  refine R_istore fL_resolve_10 rfl ?_
  exact lp 5 0 (-1) 0 (-1) _ (by omega) (by omega) rfl rfl (by omega) (fun z => by omega) (by omega)
theorem lr_2 {d : Nat} {kd : KL} {F : FM} {P : PM} {s : Int → Int} {Q : RS → Prop} {a c w n10 : Int} {x11 x12 : Option AV} (hd : 1 ≤ d) (hK : LK kd) (hL : LR F s) (hw : WF s) (h4 : 1 ≤ s 4) (K : ∀ (G : FM) (n : Int), (G 128 4 = s 4 - 1 ∧ G 128 5 = s 25 + 1 ∧ ∀ j, j ≠ 4 → j ≠ 5 → G 128 j = F 128 j) → (∀ k, 0 ≤ k → k < s 4 - 1 → G 129 k = F 129 (k + 1)) → (G 130 (s 25) = F 129 0 ∧ ∀ j, j ≠ s 25 → G 130 j = F 130 j) → (G 131 = F 131 ∧ G 134 = F 134) → (G 132 0 = w ∧ G 132 1 = a ∧ G 132 2 = tabS s + s 5 ∧ G 132 3 = c ∧ ∀ j, 4 ≤ j → j < 48 → G 132 j = F 132 (j - 4)) → (∀ j, 4 ≤ j → j < 48 → G 133 j = F 133 (j - 4)) → (∀ k, k < 128 → G k = F k) → Rn d mL_resolve 230 [some (.inr (some 128)), some (.inr (some 129)), some (.inr (some 130)), some (.inr (some 131)), some (.inr (some 132)), some (.inr (some 133)), some (.inr (some 134)), some (.inl a), some (.inl c), some (.inl w), some (.inl n), x11, x12] [] kd G P Q) : Rn d mL_resolve 112 [some (.inr (some 128)), some (.inr (some 129)), some (.inr (some 130)), some (.inr (some 131)), some (.inr (some 132)), some (.inr (some 133)), some (.inr (some 134)), some (.inl a), some (.inl c), some (.inl w), some (.inl n10), x11, x12] [] kd F P Q := by
  obtain ⟨kg, kl, kt, kp, kh, kb, kq, kx⟩ := id hK
  obtain ⟨⟨g0, g1, g2, g3, g4, g5, g6, g7, g8, g9, g10⟩, hl, ht, hp, hh, hbb, hq⟩ := id hL
  have w0 := hw.1
  have w1 := hw.2.1
  have e5 := hl 0 (by omega) (by omega)
  rw [Int.add_zero] at e5
  have s5 : ∀ (H : FM), (H 128 4 = s 4 - 1 ∧ H 128 5 = s 25 + 1 ∧ ∀ j, j ≠ 4 → j ≠ 5 → H 128 j = F 128 j) → (∀ k, 0 ≤ k → k < s 4 - 1 → H 129 k = F 129 (k + 1)) → (H 130 (s 25) = F 129 0 ∧ ∀ j, j ≠ s 25 → H 130 j = F 130 j) → (H 131 = F 131 ∧ H 134 = F 134) → (∀ j, 4 ≤ j → j < 48 → H 132 j = F 132 (j - 4)) → (∀ j, 4 ≤ j → j < 48 → H 133 j = F 133 (j - 4)) → (∀ k, k < 128 → H k = F k) → Rn d mL_resolve 201 [some (.inr (some 128)), some (.inr (some 129)), some (.inr (some 130)), some (.inr (some 131)), some (.inr (some 132)), some (.inr (some 133)), some (.inr (some 134)), some (.inl a), some (.inl c), some (.inl w), some (.inl 3), x11, x12] [] kd H P Q := by
    intro H a1 a2 a3 a4 a5 a6 a7
    refine R_aload fL_resolve_201 rfl ?_
    refine R_iconst fL_resolve_203 ?_
    refine R_iload fL_resolve_204 rfl ?_
    refine R_iastore fL_resolve_206 kh (by decide) (by omega) ?_
    refine R_aload fL_resolve_207 rfl ?_
    refine R_iconst fL_resolve_209 ?_
    refine R_iload fL_resolve_210 rfl ?_
    refine R_iastore fL_resolve_212 kh (by decide) (by omega) ?_
    refine R_aload fL_resolve_213 rfl ?_
    refine R_iconst fL_resolve_215 ?_
    refine R_aload_n fL_resolve_216 rfl ?_
    refine R_aload_n fL_resolve_217 rfl ?_
    refine R_iconst fL_resolve_218 ?_
    refine R_iaload fL_resolve_219 kg (by omega) ?_
    (try simp (disch := omega) only [stt_k, stt_j, stt_eq])
    rw [a1.2.1]
    refine R_callE fL_resolve_220 rfl rfl pL_sum rfl ⟨Nat.le_of_ble_eq_true rfl, rfl⟩ (sp_sum (by omega) kt (by omega) (fun k k0 k1 => ?_)) ?_
    · simp (disch := omega) only [stt_kr]
      by_cases hk : k = s 25
      · rw [hk, a3.1, e5]; exact hw.2.2.2.2.2.1 0 (by omega) (by omega)
      · rw [a3.2 k hk, ht k k0 (by omega)]; exact hw.2.2.2.2.2.2.1 k k0 (by omega)
    have hsum : sg (stt (stt H 132 0 w) 132 1 a 130) (s 25 + 1).toNat = tabS s + s 5 := by
      simp (disch := omega) only [stt_kr]
      rw [sg_s (by omega), a3.1, e5]
      unfold tabS
      rw [sg_congr (fun i x y => by rw [a3.2 i (by omega), ht i x (by omega)])]
    rw [hsum]
    refine R_iastore fL_resolve_223 kh (by decide) (by omega) ?_
    refine R_aload fL_resolve_224 rfl ?_
    refine R_iconst fL_resolve_226 ?_
    refine R_iload fL_resolve_227 rfl ?_
    refine R_iastore fL_resolve_229 kh (by decide) (by omega) ?_
    refine K _ _ ⟨?_, ?_, fun j j4 j5 => ?_⟩ (fun k k0 k1 => ?_) ⟨?_, fun j hj => ?_⟩ ⟨?_, ?_⟩ ⟨?_, ?_, ?_, ?_, fun j j0 j1 => ?_⟩ (fun j j0 j1 => ?_) (fun k hk => ?_)
    all_goals simp (disch := omega) only [stt_k, stt_j, stt_eq, stt_kr]
    · exact a1.1
    · exact a1.2.1
    · exact a1.2.2 j j4 j5
    · exact a2 k k0 k1
    · exact a3.1
    · exact a3.2 j hj
    · exact a4.1
    · exact a4.2
    · exact a5 j j0 j1
    · exact a6 j j0 j1
    · exact a7 k hk
  have s4 : ∀ (N : Nat) (H : FM) (i : Int), 3 ≤ i → i ≤ 47 → (H 128 4 = s 4 - 1 ∧ H 128 5 = s 25 + 1 ∧ ∀ j, j ≠ 4 → j ≠ 5 → H 128 j = F 128 j) → (∀ k, 0 ≤ k → k < s 4 - 1 → H 129 k = F 129 (k + 1)) → (H 130 (s 25) = F 129 0 ∧ ∀ j, j ≠ s 25 → H 130 j = F 130 j) → (H 131 = F 131 ∧ H 134 = F 134) → (∀ j, j < 48 → H 132 j = if i < j then F 132 (j - 4) else F 132 j) → (∀ j, j < 48 → H 133 j = if i < j then F 133 (j - 4) else F 133 j) → (∀ k, k < 128 → H k = F k) → i - 3 < N → Rn d mL_resolve 165 [some (.inr (some 128)), some (.inr (some 129)), some (.inr (some 130)), some (.inr (some 131)), some (.inr (some 132)), some (.inr (some 133)), some (.inr (some 134)), some (.inl a), some (.inl c), some (.inl w), some (.inl i), x11, x12] [] kd H P Q := by
    intro N
    induction N with
    | zero => intro H i h0 h1 a1 a2 a3 a4 a5 a6 a7 h9; omega
    | succ N ih =>
      intro H i h0 h1 a1 a2 a3 a4 a5 a6 a7 h9
      refine R_iload fL_resolve_165 rfl ?_
      refine R_iconst fL_resolve_167 ?_
      refine R_icmp_le fL_resolve_168 rfl (fun h168 => ?_) (fun h168 => ?_)
      · have hi : i = 3 := by omega
        subst hi
        exact s5 H a1 a2 a3 a4 (fun j j0 j1 => by rw [a5 j j1, if_pos (by omega)]) (fun j j0 j1 => by rw [a6 j j1, if_pos (by omega)]) a7
      · refine R_aload fL_resolve_171 rfl ?_
        refine R_iload fL_resolve_173 rfl ?_
        refine R_aload fL_resolve_175 rfl ?_
        refine R_iload fL_resolve_177 rfl ?_
        refine R_iconst fL_resolve_179 ?_
        refine R_isub fL_resolve_180 (by omega) ?_
        refine R_iaload fL_resolve_181 kh (by omega) ?_
        (try simp (disch := omega) only [stt_k, stt_j, stt_eq])
        refine R_iastore fL_resolve_182 kh (by decide) (by omega) ?_
        refine R_aload fL_resolve_183 rfl ?_
        refine R_iload fL_resolve_185 rfl ?_
        refine R_aload fL_resolve_187 rfl ?_
        refine R_iload fL_resolve_189 rfl ?_
        refine R_iconst fL_resolve_191 ?_
        refine R_isub fL_resolve_192 (by omega) ?_
        refine R_iaload fL_resolve_193 kb (by omega) ?_
        (try simp (disch := omega) only [stt_k, stt_j, stt_eq])
        refine R_iastore fL_resolve_194 kb (by decide) (by omega) ?_
        refine R_iinc fL_resolve_195 rfl (by omega) ?_
        refine R_goto fL_resolve_198 rfl ?_
        refine ih _ _ (by omega) (by omega) ⟨?_, ?_, fun j j4 j5 => ?_⟩ (fun k k0 k1 => ?_) ⟨?_, fun j hj => ?_⟩ ⟨?_, ?_⟩ (fun j hj => ?_) (fun j hj => ?_) (fun k hk => ?_) (by omega)
        rotate_left 8
        · by_cases hji : j = i
          · rw [hji, stt_kr _ _ _ (by decide), stt_eq, a5 _ (by omega), if_neg (by omega), if_pos (by omega)]
          · rw [stt_kr _ _ _ (by decide), stt_j _ _ hji, a5 j hj]
            by_cases hc : i < j
            · rw [if_pos hc, if_pos (by omega)]
            · rw [if_neg hc, if_neg (by omega)]
        · by_cases hji : j = i
          · rw [hji, stt_eq, a6 _ (by omega), if_neg (by omega), if_pos (by omega)]
          · rw [stt_j _ _ hji, stt_kr _ _ _ (by decide), a6 j hj]
            by_cases hc : i < j
            · rw [if_pos hc, if_pos (by omega)]
            · rw [if_neg hc, if_neg (by omega)]
        all_goals simp (disch := omega) only [stt_k, stt_j, stt_eq, stt_kr]
        · exact a7 k hk
        · exact a1.1
        · exact a1.2.1
        · exact a1.2.2 j j4 j5
        · exact a2 k k0 k1
        · exact a3.1
        · exact a3.2 j hj
        · exact a4.1
        · exact a4.2
  have s3 : ∀ (N : Nat) (H : FM) (i : Int), 0 ≤ i → i ≤ s 4 - 1 → (H 128 4 = s 4 - 1 ∧ H 128 5 = s 25 + 1 ∧ ∀ j, j ≠ 4 → j ≠ 5 → H 128 j = F 128 j) → (∀ k, 0 ≤ k → H 129 k = if k < i then F 129 (k + 1) else F 129 k) → (H 130 (s 25) = F 129 0 ∧ ∀ j, j ≠ s 25 → H 130 j = F 130 j) → (H 131 = F 131 ∧ H 134 = F 134 ∧ H 132 = F 132 ∧ H 133 = F 133) → (∀ k, k < 128 → H k = F k) → s 4 - 1 - i < N → Rn d mL_resolve 137 [some (.inr (some 128)), some (.inr (some 129)), some (.inr (some 130)), some (.inr (some 131)), some (.inr (some 132)), some (.inr (some 133)), some (.inr (some 134)), some (.inl a), some (.inl c), some (.inl w), some (.inl i), x11, x12] [] kd H P Q := by
    intro N
    induction N with
    | zero => intro H i h0 h1 a1 a2 a3 a4 a5 h9; omega
    | succ N ih =>
      intro H i h0 h1 a1 a2 a3 a4 a5 h9
      refine R_iload fL_resolve_137 rfl ?_
      refine R_aload_n fL_resolve_139 rfl ?_
      refine R_iconst fL_resolve_140 ?_
      refine R_iaload fL_resolve_141 kg (by omega) ?_
      (try simp (disch := omega) only [stt_k, stt_j, stt_eq])
      rw [a1.1]
      refine R_icmp_ge fL_resolve_142 rfl (fun h142 => ?_) (fun h142 => ?_)
      · refine R_bipush fL_resolve_161 ?_
        refine R_istore fL_resolve_163 rfl ?_
        refine s4 45 H 47 (by omega) (by omega) a1 (fun k k0 k1 => ?_) a3 ⟨a4.1, a4.2.1⟩ (fun j hj => ?_) (fun j hj => ?_) a5 (by omega)
        · rw [a2 k k0, if_pos (by omega)]
        · rw [a4.2.2.1, if_neg (by omega)]
        · rw [a4.2.2.2, if_neg (by omega)]
      · refine R_aload_n fL_resolve_145 rfl ?_
        refine R_iload fL_resolve_146 rfl ?_
        refine R_aload_n fL_resolve_148 rfl ?_
        refine R_iload fL_resolve_149 rfl ?_
        refine R_iconst fL_resolve_151 ?_
        refine R_iadd fL_resolve_152 (by omega) ?_
        refine R_iaload fL_resolve_153 kl (by omega) ?_
        (try simp (disch := omega) only [stt_k, stt_j, stt_eq])
        refine R_iastore fL_resolve_154 kl (by decide) (by omega) ?_
        refine R_iinc fL_resolve_155 rfl (by omega) ?_
        refine R_goto fL_resolve_158 rfl ?_
        refine ih _ _ (by omega) (by omega) ⟨?_, ?_, fun j j4 j5 => ?_⟩ (fun k k0 => ?_) ⟨?_, fun j hj => ?_⟩ ⟨?_, ?_, ?_, ?_⟩ (fun k hk => ?_) (by omega)
        rotate_left 3
        · by_cases hki : k = i
          · rw [hki, stt_eq, a2 _ (by omega), if_neg (by omega), if_pos (by omega)]
          · rw [stt_j _ _ hki, a2 k k0]
            by_cases hc : k < i
            · rw [if_pos hc, if_pos (by omega)]
            · rw [if_neg hc, if_neg (by omega)]
        all_goals simp (disch := omega) only [stt_k, stt_j, stt_eq, stt_kr]
        · exact a3.1
        · exact a3.2 j hj
        · exact a4.1
        · exact a4.2.1
        · exact a4.2.2.1
        · exact a4.2.2.2
        · exact a5 k hk
        · exact a1.1
        · exact a1.2.1
        · exact a1.2.2 j j4 j5
  refine R_aload_n fL_resolve_112 rfl ?_
  refine R_aload_n fL_resolve_113 rfl ?_
  refine R_iconst fL_resolve_114 ?_
  refine R_iaload fL_resolve_115 kg (by omega) ?_
  (try simp (disch := omega) only [stt_k, stt_j, stt_eq])
  rw [g5]
  refine R_aload_n fL_resolve_116 rfl ?_
  refine R_iconst fL_resolve_117 ?_
  refine R_iaload fL_resolve_118 kl (by omega) ?_
  (try simp (disch := omega) only [stt_k, stt_j, stt_eq])
  
  refine R_iastore fL_resolve_119 kt (by decide) (by omega) ?_
  refine R_aload_n fL_resolve_120 rfl ?_
  refine R_iconst fL_resolve_121 ?_
  refine R_dup2 fL_resolve_122 ?_
  refine R_iaload fL_resolve_123 kg (by omega) ?_
  (try simp (disch := omega) only [stt_k, stt_j, stt_eq])
  refine R_iconst fL_resolve_124 ?_
  refine R_iadd fL_resolve_125 (by omega) ?_
  refine R_iastore fL_resolve_126 kg (by decide) (by omega) ?_
  refine R_aload_n fL_resolve_127 rfl ?_
  refine R_iconst fL_resolve_128 ?_
  refine R_dup2 fL_resolve_129 ?_
  refine R_iaload fL_resolve_130 kg (by omega) ?_
  (try simp (disch := omega) only [stt_k, stt_j, stt_eq])
  refine R_iconst fL_resolve_131 ?_
  refine R_isub fL_resolve_132 (by omega) ?_
  refine R_iastore fL_resolve_133 kg (by decide) (by omega) ?_
  refine R_iconst fL_resolve_134 ?_
  refine R_istore fL_resolve_135 rfl ?_
  refine s3 21 _ 0 (by omega) (by omega) ⟨?_, ?_, fun j j4 j5 => ?_⟩ (fun k k0 => ?_) ⟨?_, fun j hj => ?_⟩ ⟨?_, ?_, ?_, ?_⟩ (fun k hk => ?_) (by omega)
  rotate_left 3
  · rw [if_neg (by omega)]; simp (disch := omega) only [stt_k, stt_j, stt_eq, stt_kr]
  all_goals simp (disch := omega) only [stt_k, stt_j, stt_eq, stt_kr]
  all_goals omega
