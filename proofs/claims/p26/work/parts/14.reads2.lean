def mx0 (v : Int) : Int := if 0 < v then v else 0
theorem sg_add (f : Int → Int) (a : Nat) : ∀ b : Nat, sg f (a + b) = sg f a + sg (fun k => f ((a : Int) + k)) b
  | 0 => by simp [sg]
  | b + 1 => by
    show sg f (a + b) + f ((a + b : Nat) : Int) = sg f a + (sg (fun k => f ((a : Int) + k)) b + f ((a : Int) + (b : Int)))
    rw [sg_add f a b, Int.natCast_add]
    omega
def upS (s : Int → Int) : Int := sg (fun k => mx0 (s (2087 + k))) (s 25).toNat + sg (fun k => mx0 (s (5 + k))) (s 4).toNat
def rPlayerOf (s : Int → Int) (p w : Int) : Int := if (0 ≤ p ∧ p < s 0) ∧ 0 ≤ w ∧ w ≤ 5 then (if w = 2 then (if 0 ≤ s (126 + 6 * p + 2) then 1 else 0) else s (126 + 6 * p + w)) else -1000001
def rLotOf (s : Int → Int) (wh i : Int) : Int := if (0 ≤ wh ∧ wh ≤ 1) ∧ 0 ≤ i then (if wh = 0 then (if i < s 4 then s (5 + i) else -1000004) else (if i < s 25 then s (2087 + i) else -1000004)) else -1000001
def rRoundOf (s : Int → Int) (b w : Int) : Int := if 0 ≤ b ∧ (0 ≤ w ∧ w ≤ 3 ∨ 10 ≤ w ∧ w < 10 + s 0) then (if b < s 29 then s (30 + 8 * b + (if w ≤ 3 then w else w - 6)) else -1000004) else -1000001
def rRecord (s : Int → Int) (i w : Int) : Int := if 0 ≤ i ∧ 0 ≤ w ∧ w ≤ 3 then (if i < s 150 then s (151 + 4 * i + w) else -1000004) else -1000001
def bidsS (s : Int → Int) : Int := sg (fun p => if s (126 + 6 * p + 2) = -1 then 0 else 1) (s 0).toNat
def coinsS (s : Int → Int) : Int := s 1 + sg (fun p => s (126 + 6 * p)) (s 0).toNat
def rNumber (s : Int → Int) (w : Int) : Int := if w = 0 then s 0 else if w = 1 then s 4 else if w = 2 then s 25 else if w = 3 then tabS s else if w = 4 then s 1 else if w = 5 then s 2 else if w = 6 then s 3 else if w = 7 then bidsS s else if w = 8 then coinsS s else if w = 9 then s 150 else if 20 ≤ w ∧ w ≤ 22 then s (26 + w - 20) else -1000001
theorem sp_leader {d : Nat} {kd : KL} {F : FM} {P : PM} {B : Nat} {s : Int → Int} (hd : 1 ≤ d) (hS : shS kd P B) (hR : Rel B F s) (hw : WF s) : Sp d 43 [.inr (some B)] kd F P (QE kd F P (ldS (fun q => s (126 + 6 * q + 1)) (fun q => s (126 + 6 * q)) (s 0).toNat)) := by
  refine Sp_of (me := mX5_leader) (by omega) pX5_leader ⟨rfl, Nat.le_of_ble_eq_true rfl⟩ ?_
  obtain ⟨r0, r1, r2, r3, r4, r5, r6, rp, rse, rt, rl, rg1, rg2, rg, rn, rr⟩ := id hR
  obtain ⟨w0, w1, w2, w3, w4, w5, w6, w7, w8, w9, w10, w11, w12, w13⟩ := id hw
  have lp : ∀ (n : Nat) (m i : Int) (x y : Option AV), 1 ≤ i → i ≤ s 0 → m = ldS (fun q => s (126 + 6 * q + 1)) (fun q => s (126 + 6 * q)) i.toNat → 0 ≤ m → m < i → s 0 - i < n → Rn (d - 1) mX5_leader 4 [some (.inr (some B)), some (.inl m), some (.inl i), x, y] [] kd F P (QE kd F P (ldS (fun q => s (126 + 6 * q + 1)) (fun q => s (126 + 6 * q)) (s 0).toNat)) := by
    intro n
    induction n with
    | zero => intro m i x y h0 h1 h2 h3 h4 h5; omega
    | succ n ih =>
      intro m i x y h0 h1 h2 h3 h4 h5
      refine R_iload_n fX5_leader_4 rfl ?_
      refine R_aload_n fX5_leader_5 rfl ?_
      refine R_getI 0 fX5_leader_6 (shS_k0 hS) (shS_3 hS 0) rfl rfl rfl ?_
      refine R_icmp_ge fX5_leader_9 rfl (fun h9 => ?_) (fun h9 => ?_)
      · refine R_iload_n fX5_leader_87 rfl ?_
        refine R_ireturn fX5_leader_88 rfl ?_
        simp only [QE]; rw [h2, show i = s 0 by omega]
      · have hp := rp i (by omega) (by omega)
        have hm := rp m h3 (by omega)
        refine R_aload_n fX5_leader_12 rfl ?_
        refine R_getP 8 fX5_leader_13 (shS_k0 hS) (shS_3 hS 0) rfl rfl rfl (shS_p8 hS) ?_
        refine R_iload_n fX5_leader_16 rfl ?_
        refine R_iaload fX5_leader_17 (shS_k2 hS) (by omega) ?_
        refine R_aload_n fX5_leader_18 rfl ?_
        refine R_getP 8 fX5_leader_19 (shS_k0 hS) (shS_3 hS 0) rfl rfl rfl (shS_p8 hS) ?_
        refine R_iload_n fX5_leader_22 rfl ?_
        refine R_iaload fX5_leader_23 (shS_k2 hS) (by omega) ?_
        refine R_icmp_le fX5_leader_24 rfl (fun h24 => ?_) (fun h24 => ?_)
        · refine R_iconst fX5_leader_31 ?_
          refine R_istore_n fX5_leader_32 rfl ?_
          refine R_aload_n fX5_leader_33 rfl ?_
          refine R_getP 8 fX5_leader_34 (shS_k0 hS) (shS_3 hS 0) rfl rfl rfl (shS_p8 hS) ?_
          refine R_iload_n fX5_leader_37 rfl ?_
          refine R_iaload fX5_leader_38 (shS_k2 hS) (by omega) ?_
          refine R_aload_n fX5_leader_39 rfl ?_
          refine R_getP 8 fX5_leader_40 (shS_k0 hS) (shS_3 hS 0) rfl rfl rfl (shS_p8 hS) ?_
          refine R_iload_n fX5_leader_43 rfl ?_
          refine R_iaload fX5_leader_44 (shS_k2 hS) (by omega) ?_
          refine R_icmp_ne fX5_leader_45 rfl (fun h45 => ?_) (fun h45 => ?_)
          · refine R_iconst fX5_leader_67 ?_
            refine R_istore fX5_leader_68 rfl ?_
            refine R_iload_n fX5_leader_70 rfl ?_
            refine R_if_ne fX5_leader_71 rfl (fun h71 => ?_) (fun h71 => ?_)
            · refine R_iload_n fX5_leader_79 rfl ?_
              refine R_istore_n fX5_leader_80 rfl ?_
              refine R_iinc fX5_leader_81 rfl (by omega) ?_
              refine R_goto fX5_leader_84 rfl ?_
              first
              | (exfalso; omega)
              | (refine ih _ _ _ _ (by omega) (by omega) ?_ (by omega) (by omega) (by omega); rw [ldS_s h0, ← h2]; rw [hp.2.1, hm.2.1] at h24 h45; first | rw [if_pos (by omega)] | rw [if_neg (by omega)]; done)
              | (refine ih _ _ _ _ (by omega) (by omega) ?_ (by omega) (by omega) (by omega); rw [ldS_s h0, ← h2]; rw [hp.2.1, hm.2.1] at h24 h45; rw [hp.1, hm.1] at h60; first | rw [if_pos (by omega)] | rw [if_neg (by omega)]; done)
            · refine R_iload fX5_leader_74 rfl ?_
              refine R_if_eq fX5_leader_76 rfl (fun h76 => ?_) (fun h76 => ?_)
              · refine R_iinc fX5_leader_81 rfl (by omega) ?_
                refine R_goto fX5_leader_84 rfl ?_
                first
                | (exfalso; omega)
                | (refine ih _ _ _ _ (by omega) (by omega) ?_ (by omega) (by omega) (by omega); rw [ldS_s h0, ← h2]; rw [hp.2.1, hm.2.1] at h24 h45; first | rw [if_pos (by omega)] | rw [if_neg (by omega)]; done)
                | (refine ih _ _ _ _ (by omega) (by omega) ?_ (by omega) (by omega) (by omega); rw [ldS_s h0, ← h2]; rw [hp.2.1, hm.2.1] at h24 h45; rw [hp.1, hm.1] at h60; first | rw [if_pos (by omega)] | rw [if_neg (by omega)]; done)
              · refine R_iload_n fX5_leader_79 rfl ?_
                refine R_istore_n fX5_leader_80 rfl ?_
                refine R_iinc fX5_leader_81 rfl (by omega) ?_
                refine R_goto fX5_leader_84 rfl ?_
                first
                | (exfalso; omega)
                | (refine ih _ _ _ _ (by omega) (by omega) ?_ (by omega) (by omega) (by omega); rw [ldS_s h0, ← h2]; rw [hp.2.1, hm.2.1] at h24 h45; first | rw [if_pos (by omega)] | rw [if_neg (by omega)]; done)
                | (refine ih _ _ _ _ (by omega) (by omega) ?_ (by omega) (by omega) (by omega); rw [ldS_s h0, ← h2]; rw [hp.2.1, hm.2.1] at h24 h45; rw [hp.1, hm.1] at h60; first | rw [if_pos (by omega)] | rw [if_neg (by omega)]; done)
          · refine R_aload_n fX5_leader_48 rfl ?_
            refine R_getP 7 fX5_leader_49 (shS_k0 hS) (shS_3 hS 0) rfl rfl rfl (shS_p7 hS) ?_
            refine R_iload_n fX5_leader_52 rfl ?_
            refine R_iaload fX5_leader_53 (shS_k1 hS) (by omega) ?_
            refine R_aload_n fX5_leader_54 rfl ?_
            refine R_getP 7 fX5_leader_55 (shS_k0 hS) (shS_3 hS 0) rfl rfl rfl (shS_p7 hS) ?_
            refine R_iload_n fX5_leader_58 rfl ?_
            refine R_iaload fX5_leader_59 (shS_k1 hS) (by omega) ?_
            refine R_icmp_le fX5_leader_60 rfl (fun h60 => ?_) (fun h60 => ?_)
            · refine R_iconst fX5_leader_67 ?_
              refine R_istore fX5_leader_68 rfl ?_
              refine R_iload_n fX5_leader_70 rfl ?_
              refine R_if_ne fX5_leader_71 rfl (fun h71 => ?_) (fun h71 => ?_)
              · refine R_iload_n fX5_leader_79 rfl ?_
                refine R_istore_n fX5_leader_80 rfl ?_
                refine R_iinc fX5_leader_81 rfl (by omega) ?_
                refine R_goto fX5_leader_84 rfl ?_
                first
                | (exfalso; omega)
                | (refine ih _ _ _ _ (by omega) (by omega) ?_ (by omega) (by omega) (by omega); rw [ldS_s h0, ← h2]; rw [hp.2.1, hm.2.1] at h24 h45; first | rw [if_pos (by omega)] | rw [if_neg (by omega)]; done)
                | (refine ih _ _ _ _ (by omega) (by omega) ?_ (by omega) (by omega) (by omega); rw [ldS_s h0, ← h2]; rw [hp.2.1, hm.2.1] at h24 h45; rw [hp.1, hm.1] at h60; first | rw [if_pos (by omega)] | rw [if_neg (by omega)]; done)
              · refine R_iload fX5_leader_74 rfl ?_
                refine R_if_eq fX5_leader_76 rfl (fun h76 => ?_) (fun h76 => ?_)
                · refine R_iinc fX5_leader_81 rfl (by omega) ?_
                  refine R_goto fX5_leader_84 rfl ?_
                  first
                  | (exfalso; omega)
                  | (refine ih _ _ _ _ (by omega) (by omega) ?_ (by omega) (by omega) (by omega); rw [ldS_s h0, ← h2]; rw [hp.2.1, hm.2.1] at h24 h45; first | rw [if_pos (by omega)] | rw [if_neg (by omega)]; done)
                  | (refine ih _ _ _ _ (by omega) (by omega) ?_ (by omega) (by omega) (by omega); rw [ldS_s h0, ← h2]; rw [hp.2.1, hm.2.1] at h24 h45; rw [hp.1, hm.1] at h60; first | rw [if_pos (by omega)] | rw [if_neg (by omega)]; done)
                · refine R_iload_n fX5_leader_79 rfl ?_
                  refine R_istore_n fX5_leader_80 rfl ?_
                  refine R_iinc fX5_leader_81 rfl (by omega) ?_
                  refine R_goto fX5_leader_84 rfl ?_
                  first
                  | (exfalso; omega)
                  | (refine ih _ _ _ _ (by omega) (by omega) ?_ (by omega) (by omega) (by omega); rw [ldS_s h0, ← h2]; rw [hp.2.1, hm.2.1] at h24 h45; first | rw [if_pos (by omega)] | rw [if_neg (by omega)]; done)
                  | (refine ih _ _ _ _ (by omega) (by omega) ?_ (by omega) (by omega) (by omega); rw [ldS_s h0, ← h2]; rw [hp.2.1, hm.2.1] at h24 h45; rw [hp.1, hm.1] at h60; first | rw [if_pos (by omega)] | rw [if_neg (by omega)]; done)
            · refine R_iconst fX5_leader_63 ?_
              refine R_goto fX5_leader_64 rfl ?_
              refine R_istore fX5_leader_68 rfl ?_
              refine R_iload_n fX5_leader_70 rfl ?_
              refine R_if_ne fX5_leader_71 rfl (fun h71 => ?_) (fun h71 => ?_)
              · refine R_iload_n fX5_leader_79 rfl ?_
                refine R_istore_n fX5_leader_80 rfl ?_
                refine R_iinc fX5_leader_81 rfl (by omega) ?_
                refine R_goto fX5_leader_84 rfl ?_
                first
                | (exfalso; omega)
                | (refine ih _ _ _ _ (by omega) (by omega) ?_ (by omega) (by omega) (by omega); rw [ldS_s h0, ← h2]; rw [hp.2.1, hm.2.1] at h24 h45; first | rw [if_pos (by omega)] | rw [if_neg (by omega)]; done)
                | (refine ih _ _ _ _ (by omega) (by omega) ?_ (by omega) (by omega) (by omega); rw [ldS_s h0, ← h2]; rw [hp.2.1, hm.2.1] at h24 h45; rw [hp.1, hm.1] at h60; first | rw [if_pos (by omega)] | rw [if_neg (by omega)]; done)
              · refine R_iload fX5_leader_74 rfl ?_
                refine R_if_eq fX5_leader_76 rfl (fun h76 => ?_) (fun h76 => ?_)
                · refine R_iinc fX5_leader_81 rfl (by omega) ?_
                  refine R_goto fX5_leader_84 rfl ?_
                  first
                  | (exfalso; omega)
                  | (refine ih _ _ _ _ (by omega) (by omega) ?_ (by omega) (by omega) (by omega); rw [ldS_s h0, ← h2]; rw [hp.2.1, hm.2.1] at h24 h45; first | rw [if_pos (by omega)] | rw [if_neg (by omega)]; done)
                  | (refine ih _ _ _ _ (by omega) (by omega) ?_ (by omega) (by omega) (by omega); rw [ldS_s h0, ← h2]; rw [hp.2.1, hm.2.1] at h24 h45; rw [hp.1, hm.1] at h60; first | rw [if_pos (by omega)] | rw [if_neg (by omega)]; done)
                · refine R_iload_n fX5_leader_79 rfl ?_
                  refine R_istore_n fX5_leader_80 rfl ?_
                  refine R_iinc fX5_leader_81 rfl (by omega) ?_
                  refine R_goto fX5_leader_84 rfl ?_
                  first
                  | (exfalso; omega)
                  | (refine ih _ _ _ _ (by omega) (by omega) ?_ (by omega) (by omega) (by omega); rw [ldS_s h0, ← h2]; rw [hp.2.1, hm.2.1] at h24 h45; first | rw [if_pos (by omega)] | rw [if_neg (by omega)]; done)
                  | (refine ih _ _ _ _ (by omega) (by omega) ?_ (by omega) (by omega) (by omega); rw [ldS_s h0, ← h2]; rw [hp.2.1, hm.2.1] at h24 h45; rw [hp.1, hm.1] at h60; first | rw [if_pos (by omega)] | rw [if_neg (by omega)]; done)
        · refine R_iconst fX5_leader_27 ?_
          refine R_goto fX5_leader_28 rfl ?_
          refine R_istore_n fX5_leader_32 rfl ?_
          refine R_aload_n fX5_leader_33 rfl ?_
          refine R_getP 8 fX5_leader_34 (shS_k0 hS) (shS_3 hS 0) rfl rfl rfl (shS_p8 hS) ?_
          refine R_iload_n fX5_leader_37 rfl ?_
          refine R_iaload fX5_leader_38 (shS_k2 hS) (by omega) ?_
          refine R_aload_n fX5_leader_39 rfl ?_
          refine R_getP 8 fX5_leader_40 (shS_k0 hS) (shS_3 hS 0) rfl rfl rfl (shS_p8 hS) ?_
          refine R_iload_n fX5_leader_43 rfl ?_
          refine R_iaload fX5_leader_44 (shS_k2 hS) (by omega) ?_
          refine R_icmp_ne fX5_leader_45 rfl (fun h45 => ?_) (fun h45 => ?_)
          · refine R_iconst fX5_leader_67 ?_
            refine R_istore fX5_leader_68 rfl ?_
            refine R_iload_n fX5_leader_70 rfl ?_
            refine R_if_ne fX5_leader_71 rfl (fun h71 => ?_) (fun h71 => ?_)
            · refine R_iload_n fX5_leader_79 rfl ?_
              refine R_istore_n fX5_leader_80 rfl ?_
              refine R_iinc fX5_leader_81 rfl (by omega) ?_
              refine R_goto fX5_leader_84 rfl ?_
              first
              | (exfalso; omega)
              | (refine ih _ _ _ _ (by omega) (by omega) ?_ (by omega) (by omega) (by omega); rw [ldS_s h0, ← h2]; rw [hp.2.1, hm.2.1] at h24 h45; first | rw [if_pos (by omega)] | rw [if_neg (by omega)]; done)
              | (refine ih _ _ _ _ (by omega) (by omega) ?_ (by omega) (by omega) (by omega); rw [ldS_s h0, ← h2]; rw [hp.2.1, hm.2.1] at h24 h45; rw [hp.1, hm.1] at h60; first | rw [if_pos (by omega)] | rw [if_neg (by omega)]; done)
            · refine R_iload fX5_leader_74 rfl ?_
              refine R_if_eq fX5_leader_76 rfl (fun h76 => ?_) (fun h76 => ?_)
              · refine R_iinc fX5_leader_81 rfl (by omega) ?_
                refine R_goto fX5_leader_84 rfl ?_
                first
                | (exfalso; omega)
                | (refine ih _ _ _ _ (by omega) (by omega) ?_ (by omega) (by omega) (by omega); rw [ldS_s h0, ← h2]; rw [hp.2.1, hm.2.1] at h24 h45; first | rw [if_pos (by omega)] | rw [if_neg (by omega)]; done)
                | (refine ih _ _ _ _ (by omega) (by omega) ?_ (by omega) (by omega) (by omega); rw [ldS_s h0, ← h2]; rw [hp.2.1, hm.2.1] at h24 h45; rw [hp.1, hm.1] at h60; first | rw [if_pos (by omega)] | rw [if_neg (by omega)]; done)
              · refine R_iload_n fX5_leader_79 rfl ?_
                refine R_istore_n fX5_leader_80 rfl ?_
                refine R_iinc fX5_leader_81 rfl (by omega) ?_
                refine R_goto fX5_leader_84 rfl ?_
                first
                | (exfalso; omega)
                | (refine ih _ _ _ _ (by omega) (by omega) ?_ (by omega) (by omega) (by omega); rw [ldS_s h0, ← h2]; rw [hp.2.1, hm.2.1] at h24 h45; first | rw [if_pos (by omega)] | rw [if_neg (by omega)]; done)
                | (refine ih _ _ _ _ (by omega) (by omega) ?_ (by omega) (by omega) (by omega); rw [ldS_s h0, ← h2]; rw [hp.2.1, hm.2.1] at h24 h45; rw [hp.1, hm.1] at h60; first | rw [if_pos (by omega)] | rw [if_neg (by omega)]; done)
          · refine R_aload_n fX5_leader_48 rfl ?_
            refine R_getP 7 fX5_leader_49 (shS_k0 hS) (shS_3 hS 0) rfl rfl rfl (shS_p7 hS) ?_
            refine R_iload_n fX5_leader_52 rfl ?_
            refine R_iaload fX5_leader_53 (shS_k1 hS) (by omega) ?_
            refine R_aload_n fX5_leader_54 rfl ?_
            refine R_getP 7 fX5_leader_55 (shS_k0 hS) (shS_3 hS 0) rfl rfl rfl (shS_p7 hS) ?_
            refine R_iload_n fX5_leader_58 rfl ?_
            refine R_iaload fX5_leader_59 (shS_k1 hS) (by omega) ?_
            refine R_icmp_le fX5_leader_60 rfl (fun h60 => ?_) (fun h60 => ?_)
            · refine R_iconst fX5_leader_67 ?_
              refine R_istore fX5_leader_68 rfl ?_
              refine R_iload_n fX5_leader_70 rfl ?_
              refine R_if_ne fX5_leader_71 rfl (fun h71 => ?_) (fun h71 => ?_)
              · refine R_iload_n fX5_leader_79 rfl ?_
                refine R_istore_n fX5_leader_80 rfl ?_
                refine R_iinc fX5_leader_81 rfl (by omega) ?_
                refine R_goto fX5_leader_84 rfl ?_
                first
                | (exfalso; omega)
                | (refine ih _ _ _ _ (by omega) (by omega) ?_ (by omega) (by omega) (by omega); rw [ldS_s h0, ← h2]; rw [hp.2.1, hm.2.1] at h24 h45; first | rw [if_pos (by omega)] | rw [if_neg (by omega)]; done)
                | (refine ih _ _ _ _ (by omega) (by omega) ?_ (by omega) (by omega) (by omega); rw [ldS_s h0, ← h2]; rw [hp.2.1, hm.2.1] at h24 h45; rw [hp.1, hm.1] at h60; first | rw [if_pos (by omega)] | rw [if_neg (by omega)]; done)
              · refine R_iload fX5_leader_74 rfl ?_
                refine R_if_eq fX5_leader_76 rfl (fun h76 => ?_) (fun h76 => ?_)
                · refine R_iinc fX5_leader_81 rfl (by omega) ?_
                  refine R_goto fX5_leader_84 rfl ?_
                  first
                  | (exfalso; omega)
                  | (refine ih _ _ _ _ (by omega) (by omega) ?_ (by omega) (by omega) (by omega); rw [ldS_s h0, ← h2]; rw [hp.2.1, hm.2.1] at h24 h45; first | rw [if_pos (by omega)] | rw [if_neg (by omega)]; done)
                  | (refine ih _ _ _ _ (by omega) (by omega) ?_ (by omega) (by omega) (by omega); rw [ldS_s h0, ← h2]; rw [hp.2.1, hm.2.1] at h24 h45; rw [hp.1, hm.1] at h60; first | rw [if_pos (by omega)] | rw [if_neg (by omega)]; done)
                · refine R_iload_n fX5_leader_79 rfl ?_
                  refine R_istore_n fX5_leader_80 rfl ?_
                  refine R_iinc fX5_leader_81 rfl (by omega) ?_
                  refine R_goto fX5_leader_84 rfl ?_
                  first
                  | (exfalso; omega)
                  | (refine ih _ _ _ _ (by omega) (by omega) ?_ (by omega) (by omega) (by omega); rw [ldS_s h0, ← h2]; rw [hp.2.1, hm.2.1] at h24 h45; first | rw [if_pos (by omega)] | rw [if_neg (by omega)]; done)
                  | (refine ih _ _ _ _ (by omega) (by omega) ?_ (by omega) (by omega) (by omega); rw [ldS_s h0, ← h2]; rw [hp.2.1, hm.2.1] at h24 h45; rw [hp.1, hm.1] at h60; first | rw [if_pos (by omega)] | rw [if_neg (by omega)]; done)
            · refine R_iconst fX5_leader_63 ?_
              refine R_goto fX5_leader_64 rfl ?_
              refine R_istore fX5_leader_68 rfl ?_
              refine R_iload_n fX5_leader_70 rfl ?_
              refine R_if_ne fX5_leader_71 rfl (fun h71 => ?_) (fun h71 => ?_)
              · refine R_iload_n fX5_leader_79 rfl ?_
                refine R_istore_n fX5_leader_80 rfl ?_
                refine R_iinc fX5_leader_81 rfl (by omega) ?_
                refine R_goto fX5_leader_84 rfl ?_
                first
                | (exfalso; omega)
                | (refine ih _ _ _ _ (by omega) (by omega) ?_ (by omega) (by omega) (by omega); rw [ldS_s h0, ← h2]; rw [hp.2.1, hm.2.1] at h24 h45; first | rw [if_pos (by omega)] | rw [if_neg (by omega)]; done)
                | (refine ih _ _ _ _ (by omega) (by omega) ?_ (by omega) (by omega) (by omega); rw [ldS_s h0, ← h2]; rw [hp.2.1, hm.2.1] at h24 h45; rw [hp.1, hm.1] at h60; first | rw [if_pos (by omega)] | rw [if_neg (by omega)]; done)
              · refine R_iload fX5_leader_74 rfl ?_
                refine R_if_eq fX5_leader_76 rfl (fun h76 => ?_) (fun h76 => ?_)
                · refine R_iinc fX5_leader_81 rfl (by omega) ?_
                  refine R_goto fX5_leader_84 rfl ?_
                  first
                  | (exfalso; omega)
                  | (refine ih _ _ _ _ (by omega) (by omega) ?_ (by omega) (by omega) (by omega); rw [ldS_s h0, ← h2]; rw [hp.2.1, hm.2.1] at h24 h45; first | rw [if_pos (by omega)] | rw [if_neg (by omega)]; done)
                  | (refine ih _ _ _ _ (by omega) (by omega) ?_ (by omega) (by omega) (by omega); rw [ldS_s h0, ← h2]; rw [hp.2.1, hm.2.1] at h24 h45; rw [hp.1, hm.1] at h60; first | rw [if_pos (by omega)] | rw [if_neg (by omega)]; done)
                · refine R_iload_n fX5_leader_79 rfl ?_
                  refine R_istore_n fX5_leader_80 rfl ?_
                  refine R_iinc fX5_leader_81 rfl (by omega) ?_
                  refine R_goto fX5_leader_84 rfl ?_
                  first
                  | (exfalso; omega)
                  | (refine ih _ _ _ _ (by omega) (by omega) ?_ (by omega) (by omega) (by omega); rw [ldS_s h0, ← h2]; rw [hp.2.1, hm.2.1] at h24 h45; first | rw [if_pos (by omega)] | rw [if_neg (by omega)]; done)
                  | (refine ih _ _ _ _ (by omega) (by omega) ?_ (by omega) (by omega) (by omega); rw [ldS_s h0, ← h2]; rw [hp.2.1, hm.2.1] at h24 h45; rw [hp.1, hm.1] at h60; first | rw [if_pos (by omega)] | rw [if_neg (by omega)]; done)
  refine R_iconst fX5_leader_0 ?_
  refine R_istore_n fX5_leader_1 rfl ?_
  refine R_iconst fX5_leader_2 ?_
  refine R_istore_n fX5_leader_3 rfl ?_
  exact lp 5 0 1 _ _ (by omega) (by omega) rfl (by omega) (by omega) (by omega)
theorem sp_numberOfPlayer {d : Nat} {kd : KL} {F : FM} {P : PM} {B : Nat} {s : Int → Int} {p w : Int} (hd : 2 ≤ d) (hS : shS kd P B) (hR : Rel B F s) (hw : WF s) : Sp d 45 [.inr (some B), .inl p, .inl w] kd F P (QE kd F P (rPlayerOf s p w)) := by
  refine Sp_of (me := mX5_numberOfPlayer) (by omega) pX5_numberOfPlayer ⟨rfl, Nat.le_of_ble_eq_true rfl⟩ ?_
  obtain ⟨r0, r1, r2, r3, r4, r5, r6, rp, rse, rt, rl, rg1, rg2, rg, rn, rr⟩ := id hR
  obtain ⟨w0, w1, w2, w3, w4, w5, w6, w7, w8, w9, w10, w11, w12, w13⟩ := id hw
  refine R_aload_n fX5_numberOfPlayer_0 rfl ?_
  refine R_iload_n fX5_numberOfPlayer_1 rfl ?_
  refine R_callE fX5_numberOfPlayer_2 rfl rfl pX5_hasPlayer rfl ⟨Nat.le_of_ble_eq_true rfl, rcv_v rfl (shS_3 hS 0) (shS_k0 hS)⟩ (sp_hasPlayer (by omega) hS hR hw) ?_
  refine R_if_ne fX5_numberOfPlayer_5 rfl (fun h5 => ?_) (fun h5 => ?_)
  · have hh := cI_1 h5
    refine R_iload_n fX5_numberOfPlayer_11 rfl ?_
    by_cases cs12_0 : w = 0
    · subst cs12_0
      refine R_tab fX5_numberOfPlayer_12 rfl ?_
      refine R_aload_n fX5_numberOfPlayer_52 rfl ?_
      refine R_getP 7 fX5_numberOfPlayer_53 (shS_k0 hS) (shS_3 hS 0) rfl rfl rfl (shS_p7 hS) ?_
      refine R_iload_n fX5_numberOfPlayer_56 rfl ?_
      refine R_iaload fX5_numberOfPlayer_57 (shS_k1 hS) (by omega) ?_
      refine R_ireturn fX5_numberOfPlayer_58 rfl ?_
      simp only [QE]; unfold rPlayerOf; rw [if_pos (by omega), if_neg (by omega)]; simp [(rp p hh.1 (by omega)).1]
    by_cases cs12_1 : w = 1
    · subst cs12_1
      refine R_tab fX5_numberOfPlayer_12 rfl ?_
      refine R_aload_n fX5_numberOfPlayer_59 rfl ?_
      refine R_getP 8 fX5_numberOfPlayer_60 (shS_k0 hS) (shS_3 hS 0) rfl rfl rfl (shS_p8 hS) ?_
      refine R_iload_n fX5_numberOfPlayer_63 rfl ?_
      refine R_iaload fX5_numberOfPlayer_64 (shS_k2 hS) (by omega) ?_
      refine R_ireturn fX5_numberOfPlayer_65 rfl ?_
      simp only [QE]; unfold rPlayerOf; rw [if_pos (by omega), if_neg (by omega)]; simp [(rp p hh.1 (by omega)).2.1]
    by_cases cs12_2 : w = 2
    · subst cs12_2
      refine R_tab fX5_numberOfPlayer_12 rfl ?_
      have hb := (rp p hh.1 (by omega)).2.2.1
      have hw3 := w3 p hh.1 (by omega)
      refine R_aload_n fX5_numberOfPlayer_66 rfl ?_
      refine R_getP 9 fX5_numberOfPlayer_67 (shS_k0 hS) (shS_3 hS 0) rfl rfl rfl (shS_p9 hS) ?_
      refine R_iload_n fX5_numberOfPlayer_70 rfl ?_
      refine R_iaload fX5_numberOfPlayer_71 (shS_k3 hS) (by omega) ?_
      refine R_iconst fX5_numberOfPlayer_72 ?_
      refine R_icmp_ne fX5_numberOfPlayer_73 rfl (fun h73 => ?_) (fun h73 => ?_)
      · refine R_iconst fX5_numberOfPlayer_80 ?_
        refine R_ireturn fX5_numberOfPlayer_81 rfl ?_
        simp only [QE]; unfold rPlayerOf; rw [if_pos (by omega), if_pos rfl]; first | rw [if_pos (by omega)] | rw [if_neg (by omega)]
      · refine R_iconst fX5_numberOfPlayer_76 ?_
        refine R_goto fX5_numberOfPlayer_77 rfl ?_
        refine R_ireturn fX5_numberOfPlayer_81 rfl ?_
        simp only [QE]; unfold rPlayerOf; rw [if_pos (by omega), if_pos rfl]; first | rw [if_pos (by omega)] | rw [if_neg (by omega)]
    by_cases cs12_3 : w = 3
    · subst cs12_3
      refine R_tab fX5_numberOfPlayer_12 rfl ?_
      refine R_aload_n fX5_numberOfPlayer_82 rfl ?_
      refine R_getP 10 fX5_numberOfPlayer_83 (shS_k0 hS) (shS_3 hS 0) rfl rfl rfl (shS_p10 hS) ?_
      refine R_iload_n fX5_numberOfPlayer_86 rfl ?_
      refine R_iaload fX5_numberOfPlayer_87 (shS_k4 hS) (by omega) ?_
      refine R_ireturn fX5_numberOfPlayer_88 rfl ?_
      simp only [QE]; unfold rPlayerOf; rw [if_pos (by omega), if_neg (by omega)]; simp [(rp p hh.1 (by omega)).2.2.2.1]
    by_cases cs12_4 : w = 4
    · subst cs12_4
      refine R_tab fX5_numberOfPlayer_12 rfl ?_
      refine R_aload_n fX5_numberOfPlayer_89 rfl ?_
      refine R_getP 11 fX5_numberOfPlayer_90 (shS_k0 hS) (shS_3 hS 0) rfl rfl rfl (shS_p11 hS) ?_
      refine R_iload_n fX5_numberOfPlayer_93 rfl ?_
      refine R_iaload fX5_numberOfPlayer_94 (shS_k5 hS) (by omega) ?_
      refine R_ireturn fX5_numberOfPlayer_95 rfl ?_
      simp only [QE]; unfold rPlayerOf; rw [if_pos (by omega), if_neg (by omega)]; simp [(rp p hh.1 (by omega)).2.2.2.2.1]
    by_cases cs12_5 : w = 5
    · subst cs12_5
      refine R_tab fX5_numberOfPlayer_12 rfl ?_
      refine R_aload_n fX5_numberOfPlayer_96 rfl ?_
      refine R_getP 12 fX5_numberOfPlayer_97 (shS_k0 hS) (shS_3 hS 0) rfl rfl rfl (shS_p12 hS) ?_
      refine R_iload_n fX5_numberOfPlayer_100 rfl ?_
      refine R_iaload fX5_numberOfPlayer_101 (shS_k6 hS) (by omega) ?_
      refine R_ireturn fX5_numberOfPlayer_102 rfl ?_
      simp only [QE]; unfold rPlayerOf; rw [if_pos (by omega), if_neg (by omega)]; simp [(rp p hh.1 (by omega)).2.2.2.2.2]
    refine R_tabD fX5_numberOfPlayer_12 (by omega) rfl ?_
    refine R_ldc fX5_numberOfPlayer_103 ?_
    refine R_ireturn fX5_numberOfPlayer_105 rfl ?_
    simp only [QE]; unfold rPlayerOf; rw [if_neg (by omega)]
  · have hh := cI_0 h5
    refine R_ldc fX5_numberOfPlayer_8 ?_
    refine R_ireturn fX5_numberOfPlayer_10 rfl ?_
    simp only [QE]; unfold rPlayerOf; rw [if_neg (by omega)]
theorem sp_valueAt {d : Nat} {kd : KL} {F : FM} {P : PM} {B : Nat} {s : Int → Int} {wh i : Int} (hd : 1 ≤ d) (hS : shS kd P B) (hR : Rel B F s) (hw : WF s) : Sp d 46 [.inr (some B), .inl wh, .inl i] kd F P (QE kd F P (rLotOf s wh i)) := by
  refine Sp_of (me := mX5_valueAt) (by omega) pX5_valueAt ⟨rfl, Nat.le_of_ble_eq_true rfl⟩ ?_
  obtain ⟨r0, r1, r2, r3, r4, r5, r6, rp, rse, rt, rl, rg1, rg2, rg, rn, rr⟩ := id hR
  obtain ⟨w0, w1, w2, w3, w4, w5, w6, w7, w8, w9, w10, w11, w12, w13⟩ := id hw
  refine R_iload_n fX5_valueAt_0 rfl ?_
  refine R_if_lt fX5_valueAt_1 rfl (fun h1 => ?_) (fun h1 => ?_)
  · refine R_ldc fX5_valueAt_13 ?_
    refine R_ireturn fX5_valueAt_15 rfl ?_
    simp only [QE]; unfold rLotOf; rw [if_neg (by omega)]
  · refine R_iload_n fX5_valueAt_4 rfl ?_
    refine R_iconst fX5_valueAt_5 ?_
    refine R_icmp_gt fX5_valueAt_6 rfl (fun h6 => ?_) (fun h6 => ?_)
    · refine R_ldc fX5_valueAt_13 ?_
      refine R_ireturn fX5_valueAt_15 rfl ?_
      simp only [QE]; unfold rLotOf; rw [if_neg (by omega)]
    · refine R_iload_n fX5_valueAt_9 rfl ?_
      refine R_if_ge fX5_valueAt_10 rfl (fun h10 => ?_) (fun h10 => ?_)
      · refine R_iload_n fX5_valueAt_16 rfl ?_
        refine R_if_ne fX5_valueAt_17 rfl (fun h17 => ?_) (fun h17 => ?_)
        · refine R_iload_n fX5_valueAt_45 rfl ?_
          refine R_aload_n fX5_valueAt_46 rfl ?_
          refine R_getI 4 fX5_valueAt_47 (shS_k0 hS) (shS_3 hS 0) rfl rfl rfl ?_
          refine R_icmp_ge fX5_valueAt_50 rfl (fun h50 => ?_) (fun h50 => ?_)
          · refine R_ldc fX5_valueAt_62 ?_
            refine R_ireturn fX5_valueAt_64 rfl ?_
            simp only [QE]; unfold rLotOf; rw [if_pos (by omega), if_neg h17]; first | rw [if_pos (by omega), hl] | rw [if_neg (by omega)]
          · have hl := rt i (by omega) (by omega)
            refine R_aload_n fX5_valueAt_53 rfl ?_
            refine R_getP 14 fX5_valueAt_54 (shS_k0 hS) (shS_3 hS 0) rfl rfl rfl (shS_p14 hS) ?_
            refine R_iload_n fX5_valueAt_57 rfl ?_
            refine R_iaload fX5_valueAt_58 (shS_k8 hS) (by omega) ?_
            refine R_goto fX5_valueAt_59 rfl ?_
            refine R_ireturn fX5_valueAt_64 rfl ?_
            simp only [QE]; unfold rLotOf; rw [if_pos (by omega), if_neg h17]; first | rw [if_pos (by omega), hl] | rw [if_neg (by omega)]
        · refine R_iload_n fX5_valueAt_20 rfl ?_
          refine R_aload_n fX5_valueAt_21 rfl ?_
          refine R_getI 6 fX5_valueAt_22 (shS_k0 hS) (shS_3 hS 0) rfl rfl rfl ?_
          refine R_icmp_ge fX5_valueAt_25 rfl (fun h25 => ?_) (fun h25 => ?_)
          · refine R_ldc fX5_valueAt_42 ?_
            refine R_ireturn fX5_valueAt_44 rfl ?_
            simp only [QE]; unfold rLotOf; rw [if_pos (by omega), if_pos h17]; first | rw [if_pos (by omega), hl] | rw [if_neg (by omega)]
          · have hl := rl i (by omega) (by omega)
            rw [← r4] at hl
            refine R_aload_n fX5_valueAt_28 rfl ?_
            refine R_getP 14 fX5_valueAt_29 (shS_k0 hS) (shS_3 hS 0) rfl rfl rfl (shS_p14 hS) ?_
            refine R_aload_n fX5_valueAt_32 rfl ?_
            refine R_getI 4 fX5_valueAt_33 (shS_k0 hS) (shS_3 hS 0) rfl rfl rfl ?_
            refine R_iload_n fX5_valueAt_36 rfl ?_
            refine R_iadd fX5_valueAt_37 (by omega) ?_
            refine R_iaload fX5_valueAt_38 (shS_k8 hS) (by omega) ?_
            refine R_goto fX5_valueAt_39 rfl ?_
            refine R_ireturn fX5_valueAt_44 rfl ?_
            simp only [QE]; unfold rLotOf; rw [if_pos (by omega), if_pos h17]; first | rw [if_pos (by omega), hl] | rw [if_neg (by omega)]
      · refine R_ldc fX5_valueAt_13 ?_
        refine R_ireturn fX5_valueAt_15 rfl ?_
        simp only [QE]; unfold rLotOf; rw [if_neg (by omega)]
theorem sp_number {d : Nat} {kd : KL} {F : FM} {P : PM} {B : Nat} {s : Int → Int} {w : Int} (hd : 2 ≤ d) (hS : shS kd P B) (hR : Rel B F s) (hw : WF s) : Sp d 47 [.inr (some B), .inl w] kd F P (QE kd F P (rNumber s w)) := by
  refine Sp_of (me := mX5_number) (by omega) pX5_number ⟨rfl, Nat.le_of_ble_eq_true rfl⟩ ?_
  obtain ⟨r0, r1, r2, r3, r4, r5, r6, rp, rse, rt, rl, rg1, rg2, rg, rn, rr⟩ := id hR
  obtain ⟨w0, w1, w2, w3, w4, w5, w6, w7, w8, w9, w10, w11, w12, w13⟩ := id hw
  refine R_iload_n fX5_number_0 rfl ?_
  by_cases cs1_0 : w = 0
  · subst cs1_0
    refine R_tab fX5_number_1 rfl ?_
    refine R_aload_n fX5_number_108 rfl ?_
    refine R_getI 0 fX5_number_109 (shS_k0 hS) (shS_3 hS 0) rfl rfl rfl ?_
    refine R_ireturn fX5_number_112 rfl ?_
    simp only [QE]; unfold rNumber; simp [r0]
  by_cases cs1_1 : w = 1
  · subst cs1_1
    refine R_tab fX5_number_1 rfl ?_
    refine R_aload_n fX5_number_113 rfl ?_
    refine R_getI 6 fX5_number_114 (shS_k0 hS) (shS_3 hS 0) rfl rfl rfl ?_
    refine R_ireturn fX5_number_117 rfl ?_
    simp only [QE]; unfold rNumber; simp [r6]
  by_cases cs1_2 : w = 2
  · subst cs1_2
    refine R_tab fX5_number_1 rfl ?_
    refine R_aload_n fX5_number_118 rfl ?_
    refine R_getI 4 fX5_number_119 (shS_k0 hS) (shS_3 hS 0) rfl rfl rfl ?_
    refine R_ireturn fX5_number_122 rfl ?_
    simp only [QE]; unfold rNumber; simp [r4]
  by_cases cs1_3 : w = 3
  · subst cs1_3
    refine R_tab fX5_number_1 rfl ?_
    refine R_aload_n fX5_number_123 rfl ?_
    refine R_getI 5 fX5_number_124 (shS_k0 hS) (shS_3 hS 0) rfl rfl rfl ?_
    refine R_ireturn fX5_number_127 rfl ?_
    simp only [QE]; unfold rNumber; simp [r5]
  by_cases cs1_4 : w = 4
  · subst cs1_4
    refine R_tab fX5_number_1 rfl ?_
    refine R_aload_n fX5_number_128 rfl ?_
    refine R_getI 1 fX5_number_129 (shS_k0 hS) (shS_3 hS 0) rfl rfl rfl ?_
    refine R_ireturn fX5_number_132 rfl ?_
    simp only [QE]; unfold rNumber; simp [r1]
  by_cases cs1_5 : w = 5
  · subst cs1_5
    refine R_tab fX5_number_1 rfl ?_
    refine R_aload_n fX5_number_133 rfl ?_
    refine R_getI 2 fX5_number_134 (shS_k0 hS) (shS_3 hS 0) rfl rfl rfl ?_
    refine R_ireturn fX5_number_137 rfl ?_
    simp only [QE]; unfold rNumber; simp [r2]
  by_cases cs1_6 : w = 6
  · subst cs1_6
    refine R_tab fX5_number_1 rfl ?_
    refine R_aload_n fX5_number_138 rfl ?_
    refine R_getI 3 fX5_number_139 (shS_k0 hS) (shS_3 hS 0) rfl rfl rfl ?_
    refine R_ireturn fX5_number_142 rfl ?_
    simp only [QE]; unfold rNumber; simp [r3]
  by_cases cs1_7 : w = 7
  · subst cs1_7
    refine R_tab fX5_number_1 rfl ?_
    refine R_aload_n fX5_number_143 rfl ?_
    refine R_callE fX5_number_144 rfl rfl pX5_bidCount rfl ⟨Nat.le_of_ble_eq_true rfl, rcv_v rfl (shS_3 hS 0) (shS_k0 hS)⟩ (sp_bidCount (by omega) hS hR hw) ?_
    refine R_ireturn fX5_number_147 rfl ?_
    simp only [QE]; unfold rNumber bidsS; simp
  by_cases cs1_8 : w = 8
  · subst cs1_8
    refine R_tab fX5_number_1 rfl ?_
    refine R_aload_n fX5_number_148 rfl ?_
    refine R_callE fX5_number_149 rfl rfl pX5_allCoins rfl ⟨Nat.le_of_ble_eq_true rfl, rcv_v rfl (shS_3 hS 0) (shS_k0 hS)⟩ (sp_allCoins (by omega) hS hR hw) ?_
    refine R_ireturn fX5_number_152 rfl ?_
    simp only [QE]; unfold rNumber coinsS; simp
  by_cases cs1_9 : w = 9
  · subst cs1_9
    refine R_tab fX5_number_1 rfl ?_
    refine R_aload_n fX5_number_153 rfl ?_
    refine R_getP 16 fX5_number_154 (shS_k0 hS) (shS_3 hS 0) rfl rfl rfl (shS_p16 hS) ?_
    refine R_getI 4 fX5_number_157 (shS_k11 hS) (shS_3 hS 11) rfl rfl rfl ?_
    refine R_ireturn fX5_number_160 rfl ?_
    simp only [QE]; unfold rNumber; simp [rn]
  by_cases cs1_10 : w = 10
  · subst cs1_10
    refine R_tab fX5_number_1 rfl ?_
    refine R_ldc fX5_number_182 ?_
    refine R_ireturn fX5_number_184 rfl ?_
    simp only [QE]; unfold rNumber; simp; try omega
  by_cases cs1_11 : w = 11
  · subst cs1_11
    refine R_tab fX5_number_1 rfl ?_
    refine R_ldc fX5_number_182 ?_
    refine R_ireturn fX5_number_184 rfl ?_
    simp only [QE]; unfold rNumber; simp; try omega
  by_cases cs1_12 : w = 12
  · subst cs1_12
    refine R_tab fX5_number_1 rfl ?_
    refine R_ldc fX5_number_182 ?_
    refine R_ireturn fX5_number_184 rfl ?_
    simp only [QE]; unfold rNumber; simp; try omega
  by_cases cs1_13 : w = 13
  · subst cs1_13
    refine R_tab fX5_number_1 rfl ?_
    refine R_ldc fX5_number_182 ?_
    refine R_ireturn fX5_number_184 rfl ?_
    simp only [QE]; unfold rNumber; simp; try omega
  by_cases cs1_14 : w = 14
  · subst cs1_14
    refine R_tab fX5_number_1 rfl ?_
    refine R_ldc fX5_number_182 ?_
    refine R_ireturn fX5_number_184 rfl ?_
    simp only [QE]; unfold rNumber; simp; try omega
  by_cases cs1_15 : w = 15
  · subst cs1_15
    refine R_tab fX5_number_1 rfl ?_
    refine R_ldc fX5_number_182 ?_
    refine R_ireturn fX5_number_184 rfl ?_
    simp only [QE]; unfold rNumber; simp; try omega
  by_cases cs1_16 : w = 16
  · subst cs1_16
    refine R_tab fX5_number_1 rfl ?_
    refine R_ldc fX5_number_182 ?_
    refine R_ireturn fX5_number_184 rfl ?_
    simp only [QE]; unfold rNumber; simp; try omega
  by_cases cs1_17 : w = 17
  · subst cs1_17
    refine R_tab fX5_number_1 rfl ?_
    refine R_ldc fX5_number_182 ?_
    refine R_ireturn fX5_number_184 rfl ?_
    simp only [QE]; unfold rNumber; simp; try omega
  by_cases cs1_18 : w = 18
  · subst cs1_18
    refine R_tab fX5_number_1 rfl ?_
    refine R_ldc fX5_number_182 ?_
    refine R_ireturn fX5_number_184 rfl ?_
    simp only [QE]; unfold rNumber; simp; try omega
  by_cases cs1_19 : w = 19
  · subst cs1_19
    refine R_tab fX5_number_1 rfl ?_
    refine R_ldc fX5_number_182 ?_
    refine R_ireturn fX5_number_184 rfl ?_
    simp only [QE]; unfold rNumber; simp; try omega
  by_cases cs1_20 : w = 20
  · subst cs1_20
    refine R_tab fX5_number_1 rfl ?_
    refine R_aload_n fX5_number_161 rfl ?_
    refine R_getP 13 fX5_number_162 (shS_k0 hS) (shS_3 hS 0) rfl rfl rfl (shS_p13 hS) ?_
    refine R_iconst fX5_number_165 ?_
    refine R_iaload fX5_number_166 (shS_k7 hS) (by omega) ?_
    refine R_ireturn fX5_number_167 rfl ?_
    simp only [QE]; unfold rNumber; rw [rse 0 (by omega) (by omega)]; simp
  by_cases cs1_21 : w = 21
  · subst cs1_21
    refine R_tab fX5_number_1 rfl ?_
    refine R_aload_n fX5_number_168 rfl ?_
    refine R_getP 13 fX5_number_169 (shS_k0 hS) (shS_3 hS 0) rfl rfl rfl (shS_p13 hS) ?_
    refine R_iconst fX5_number_172 ?_
    refine R_iaload fX5_number_173 (shS_k7 hS) (by omega) ?_
    refine R_ireturn fX5_number_174 rfl ?_
    simp only [QE]; unfold rNumber; rw [rse 1 (by omega) (by omega)]; simp
  by_cases cs1_22 : w = 22
  · subst cs1_22
    refine R_tab fX5_number_1 rfl ?_
    refine R_aload_n fX5_number_175 rfl ?_
    refine R_getP 13 fX5_number_176 (shS_k0 hS) (shS_3 hS 0) rfl rfl rfl (shS_p13 hS) ?_
    refine R_iconst fX5_number_179 ?_
    refine R_iaload fX5_number_180 (shS_k7 hS) (by omega) ?_
    refine R_ireturn fX5_number_181 rfl ?_
    simp only [QE]; unfold rNumber; rw [rse 2 (by omega) (by omega)]; simp
  refine R_tabD fX5_number_1 (by omega) rfl ?_
  refine R_ldc fX5_number_182 ?_
  refine R_ireturn fX5_number_184 rfl ?_
  simp only [QE]; unfold rNumber; simp; try omega
theorem sp_columnOf {d : Nat} {kd : KL} {F : FM} {P : PM} {w n : Int} (hd : 1 ≤ d) (hn : 0 ≤ n ∧ n ≤ 4) : Sp d 27 [.inl w, .inl n] kd F P (QE kd F P (if 0 ≤ w ∧ w ≤ 3 then w else if 10 ≤ w ∧ w < 10 + n then w - 6 else -1)) := by
  refine Sp_of (me := mX4_columnOf) (by omega) pX4_columnOf ⟨rfl, Nat.le_of_ble_eq_true rfl⟩ ?_
  refine R_iload_n fX4_columnOf_0 rfl ?_
  refine R_if_lt fX4_columnOf_1 rfl (fun h1 => ?_) (fun h1 => ?_)
  · refine R_iload_n fX4_columnOf_11 rfl ?_
    refine R_bipush fX4_columnOf_12 ?_
    refine R_icmp_lt fX4_columnOf_14 rfl (fun h14 => ?_) (fun h14 => ?_)
    · refine R_iconst fX4_columnOf_32 ?_
      refine R_ireturn fX4_columnOf_33 rfl ?_
      simp only [QE]; rw [if_neg (by omega), if_neg (by omega)]
    · refine R_iload_n fX4_columnOf_17 rfl ?_
      refine R_bipush fX4_columnOf_18 ?_
      refine R_iload_n fX4_columnOf_20 rfl ?_
      refine R_iadd fX4_columnOf_21 (by omega) ?_
      refine R_icmp_ge fX4_columnOf_22 rfl (fun h22 => ?_) (fun h22 => ?_)
      · refine R_iconst fX4_columnOf_32 ?_
        refine R_ireturn fX4_columnOf_33 rfl ?_
        simp only [QE]; rw [if_neg (by omega), if_neg (by omega)]
      · refine R_iconst fX4_columnOf_25 ?_
        refine R_iload_n fX4_columnOf_26 rfl ?_
        refine R_iadd fX4_columnOf_27 (by omega) ?_
        refine R_bipush fX4_columnOf_28 ?_
        refine R_isub fX4_columnOf_30 (by omega) ?_
        refine R_ireturn fX4_columnOf_31 rfl ?_
        simp only [QE]; rw [if_neg (by omega), if_pos (by omega)]; congr 3; omega
  · refine R_iload_n fX4_columnOf_4 rfl ?_
    refine R_iconst fX4_columnOf_5 ?_
    refine R_icmp_gt fX4_columnOf_6 rfl (fun h6 => ?_) (fun h6 => ?_)
    · refine R_iload_n fX4_columnOf_11 rfl ?_
      refine R_bipush fX4_columnOf_12 ?_
      refine R_icmp_lt fX4_columnOf_14 rfl (fun h14 => ?_) (fun h14 => ?_)
      · refine R_iconst fX4_columnOf_32 ?_
        refine R_ireturn fX4_columnOf_33 rfl ?_
        simp only [QE]; rw [if_neg (by omega), if_neg (by omega)]
      · refine R_iload_n fX4_columnOf_17 rfl ?_
        refine R_bipush fX4_columnOf_18 ?_
        refine R_iload_n fX4_columnOf_20 rfl ?_
        refine R_iadd fX4_columnOf_21 (by omega) ?_
        refine R_icmp_ge fX4_columnOf_22 rfl (fun h22 => ?_) (fun h22 => ?_)
        · refine R_iconst fX4_columnOf_32 ?_
          refine R_ireturn fX4_columnOf_33 rfl ?_
          simp only [QE]; rw [if_neg (by omega), if_neg (by omega)]
        · refine R_iconst fX4_columnOf_25 ?_
          refine R_iload_n fX4_columnOf_26 rfl ?_
          refine R_iadd fX4_columnOf_27 (by omega) ?_
          refine R_bipush fX4_columnOf_28 ?_
          refine R_isub fX4_columnOf_30 (by omega) ?_
          refine R_ireturn fX4_columnOf_31 rfl ?_
          simp only [QE]; rw [if_neg (by omega), if_pos (by omega)]; congr 3; omega
    · refine R_iload_n fX4_columnOf_9 rfl ?_
      refine R_ireturn fX4_columnOf_10 rfl ?_
      simp only [QE]; rw [if_pos (by omega)]
theorem sp_numberOfRound {d : Nat} {kd : KL} {F : FM} {P : PM} {B : Nat} {s : Int → Int} {b w : Int} (hd : 2 ≤ d) (hS : shS kd P B) (hR : Rel B F s) (hw : WF s) : Sp d 26 [.inr (some (B + 9)), .inl b, .inl w, .inl (s 0)] kd F P (QE kd F P (rRoundOf s b w)) := by
  refine Sp_of (me := mX4_numberOfRound) (by omega) pX4_numberOfRound ⟨rfl, Nat.le_of_ble_eq_true rfl⟩ ?_
  obtain ⟨r0, r1, r2, r3, r4, r5, r6, rp, rse, rt, rl, rg1, rg2, rg, rn, rr⟩ := id hR
  obtain ⟨w0, w1, w2, w3, w4, w5, w6, w7, w8, w9, w10, w11, w12, w13⟩ := id hw
  refine R_iload_n fX4_numberOfRound_0 rfl ?_
  refine R_iload_n fX4_numberOfRound_1 rfl ?_
  refine R_callE fX4_numberOfRound_2 rfl rfl pX4_columnOf rfl ⟨Nat.le_of_ble_eq_true rfl, rfl⟩ (sp_columnOf (by omega) ⟨by omega, by omega⟩) ?_
  refine R_istore fX4_numberOfRound_5 rfl ?_
  refine R_iload_n fX4_numberOfRound_7 rfl ?_
  refine R_if_lt fX4_numberOfRound_8 rfl (fun h8 => ?_) (fun h8 => ?_)
  · refine R_ldc fX4_numberOfRound_16 ?_
    refine R_ireturn fX4_numberOfRound_18 rfl ?_
    first | (simp only [QE]; unfold rRoundOf; rw [if_neg (by omega)]; done) | (simp only [QE]; unfold rRoundOf; rw [if_neg (fun z => by split at h13 <;> (try split at h13) <;> omega)]; done)
  · refine R_iload fX4_numberOfRound_11 rfl ?_
    refine R_if_ge fX4_numberOfRound_13 rfl (fun h13 => ?_) (fun h13 => ?_)
    · have hc : 0 ≤ w ∧ w ≤ 3 ∨ 10 ≤ w ∧ w < 10 + s 0 := by
        split at h13
        · exact Or.inl (by omega)
        · split at h13
          · exact Or.inr (by omega)
          · omega
      have hcol : (if 0 ≤ w ∧ w ≤ 3 then w else if 10 ≤ w ∧ w < 10 + s 0 then w - 6 else -1) = (if w ≤ 3 then w else w - 6) := by
        rcases hc with hc | hc
        · rw [if_pos (by omega), if_pos (by omega)]
        · rw [if_neg (by omega), if_pos (by omega), if_neg (by omega)]
      have hcb : 0 ≤ (if w ≤ 3 then w else w - 6) ∧ (if w ≤ 3 then w else w - 6) < 8 := by split <;> omega
      rw [hcol]
      refine R_iload_n fX4_numberOfRound_19 rfl ?_
      refine R_aload_n fX4_numberOfRound_20 rfl ?_
      refine R_getI 1 fX4_numberOfRound_21 (shS_k9 hS) (shS_3 hS 9) rfl rfl rfl ?_
      refine R_icmp_lt fX4_numberOfRound_24 rfl (fun h24 => ?_) (fun h24 => ?_)
      · refine R_aload_n fX4_numberOfRound_30 rfl ?_
        refine R_getI 2 fX4_numberOfRound_31 (shS_k9 hS) (shS_3 hS 9) rfl rfl rfl ?_
        refine R_bipush fX4_numberOfRound_34 ?_
        refine R_iadd fX4_numberOfRound_36 (by omega) ?_
        refine R_iload_n fX4_numberOfRound_37 rfl ?_
        refine R_isub fX4_numberOfRound_38 (by omega) ?_
        refine R_bipush fX4_numberOfRound_39 ?_
        refine R_iremV fX4_numberOfRound_41 (by omega) (show wr (F (B + 9) 2 + 12 - b - Int.tdiv (F (B + 9) 2 + 12 - b) 12 * 12) = (F (B + 9) 2 + 12 - b) % 12 by rw [wr_id (by unfold inb; rw [Int.tdiv_eq_ediv_of_nonneg (by omega)]; omega), Int.tdiv_eq_ediv_of_nonneg (by omega)]; omega) ?_
        refine R_istore fX4_numberOfRound_42 rfl ?_
        refine R_aload_n fX4_numberOfRound_44 rfl ?_
        refine R_getP 0 fX4_numberOfRound_45 (shS_k9 hS) (shS_3 hS 9) rfl rfl rfl (shS_q0 hS) ?_
        refine R_iload fX4_numberOfRound_48 rfl ?_
        refine R_bipush fX4_numberOfRound_50 ?_
        refine R_imul fX4_numberOfRound_52 (by omega) ?_
        refine R_iload fX4_numberOfRound_53 rfl ?_
        refine R_iadd fX4_numberOfRound_55 (by omega) ?_
        refine R_iaload fX4_numberOfRound_56 (shS_k10 hS) (by omega) ?_
        refine R_ireturn fX4_numberOfRound_57 rfl ?_
        simp only [QE]; 
        have e : rRoundOf s b w = s (30 + 8 * b + (if w ≤ 3 then w else w - 6)) := by unfold rRoundOf; rw [if_pos ⟨h8, hc⟩, if_pos (by omega)]
        rw [e, rg b _ h8 (by omega) hcb.1 hcb.2]
      · refine R_ldc fX4_numberOfRound_27 ?_
        refine R_ireturn fX4_numberOfRound_29 rfl ?_
        simp only [QE]; unfold rRoundOf; rw [if_pos ⟨h8, hc⟩, if_neg (by omega)]
    · refine R_ldc fX4_numberOfRound_16 ?_
      refine R_ireturn fX4_numberOfRound_18 rfl ?_
      first | (simp only [QE]; unfold rRoundOf; rw [if_neg (by omega)]; done) | (simp only [QE]; unfold rRoundOf; rw [if_neg (fun z => by split at h13 <;> (try split at h13) <;> omega)]; done)
/-- the first place of a pair, or the size -/
def ixP (a b : Int → Int) (p q : Int) : Nat → Int
  | 0 => 0
  | n + 1 => if a 0 = p ∧ b 0 = q then 0 else 1 + ixP (fun i => a (i + 1)) (fun i => b (i + 1)) p q n
theorem sp_numberOfPair {d : Nat} {kd : KL} {F : FM} {P : PM} {B : Nat} {s : Int → Int} {i w : Int} (hd : 1 ≤ d) (hS : shS kd P B) (hR : Rel B F s) (hw : WF s) : Sp d 21 [.inr (some (B + 11)), .inl i, .inl w] kd F P (QE kd F P (rRecord s i w)) := by
  refine Sp_of (me := mX3_numberOfPair) (by omega) pX3_numberOfPair ⟨rfl, Nat.le_of_ble_eq_true rfl⟩ ?_
  obtain ⟨r0, r1, r2, r3, r4, r5, r6, rp, rse, rt, rl, rg1, rg2, rg, rn, rr⟩ := id hR
  obtain ⟨w0, w1, w2, w3, w4, w5, w6, w7, w8, w9, w10, w11, w12, w13⟩ := id hw
  refine R_iload_n fX3_numberOfPair_0 rfl ?_
  refine R_if_lt fX3_numberOfPair_1 rfl (fun h1 => ?_) (fun h1 => ?_)
  · refine R_ldc fX3_numberOfPair_13 ?_
    refine R_ireturn fX3_numberOfPair_15 rfl ?_
    simp only [QE]; unfold rRecord; rw [if_neg (by omega)]
  · refine R_iload_n fX3_numberOfPair_4 rfl ?_
    refine R_if_lt fX3_numberOfPair_5 rfl (fun h5 => ?_) (fun h5 => ?_)
    · refine R_ldc fX3_numberOfPair_13 ?_
      refine R_ireturn fX3_numberOfPair_15 rfl ?_
      simp only [QE]; unfold rRecord; rw [if_neg (by omega)]
    · refine R_iload_n fX3_numberOfPair_8 rfl ?_
      refine R_iconst fX3_numberOfPair_9 ?_
      refine R_icmp_le fX3_numberOfPair_10 rfl (fun h10 => ?_) (fun h10 => ?_)
      · refine R_iload_n fX3_numberOfPair_16 rfl ?_
        refine R_aload_n fX3_numberOfPair_17 rfl ?_
        refine R_getI 4 fX3_numberOfPair_18 (shS_k11 hS) (shS_3 hS 11) rfl rfl rfl ?_
        refine R_icmp_lt fX3_numberOfPair_21 rfl (fun h21 => ?_) (fun h21 => ?_)
        · refine R_iload_n fX3_numberOfPair_27 rfl ?_
          by_cases cs28_0 : w = 0
          · subst cs28_0
            refine R_tab fX3_numberOfPair_28 rfl ?_
            refine R_aload_n fX3_numberOfPair_56 rfl ?_
            refine R_getP 0 fX3_numberOfPair_57 (shS_k11 hS) (shS_3 hS 11) rfl rfl rfl (shS_r0 hS) ?_
            refine R_iload_n fX3_numberOfPair_60 rfl ?_
            refine R_iaload fX3_numberOfPair_61 (shS_k12 hS) (by omega) ?_
            refine R_ireturn fX3_numberOfPair_62 rfl ?_
            simp only [QE]; unfold rRecord; rw [if_pos (by omega), if_pos (by omega)]; simp [(rr i (by omega) (by omega)).1]
          by_cases cs28_1 : w = 1
          · subst cs28_1
            refine R_tab fX3_numberOfPair_28 rfl ?_
            refine R_aload_n fX3_numberOfPair_63 rfl ?_
            refine R_getP 1 fX3_numberOfPair_64 (shS_k11 hS) (shS_3 hS 11) rfl rfl rfl (shS_r1 hS) ?_
            refine R_iload_n fX3_numberOfPair_67 rfl ?_
            refine R_iaload fX3_numberOfPair_68 (shS_k13 hS) (by omega) ?_
            refine R_ireturn fX3_numberOfPair_69 rfl ?_
            simp only [QE]; unfold rRecord; rw [if_pos (by omega), if_pos (by omega)]; simp [(rr i (by omega) (by omega)).2.1]
          by_cases cs28_2 : w = 2
          · subst cs28_2
            refine R_tab fX3_numberOfPair_28 rfl ?_
            refine R_aload_n fX3_numberOfPair_70 rfl ?_
            refine R_getP 2 fX3_numberOfPair_71 (shS_k11 hS) (shS_3 hS 11) rfl rfl rfl (shS_r2 hS) ?_
            refine R_iload_n fX3_numberOfPair_74 rfl ?_
            refine R_iaload fX3_numberOfPair_75 (shS_k14 hS) (by omega) ?_
            refine R_ireturn fX3_numberOfPair_76 rfl ?_
            simp only [QE]; unfold rRecord; rw [if_pos (by omega), if_pos (by omega)]; simp [(rr i (by omega) (by omega)).2.2.1]
          refine R_tabD fX3_numberOfPair_28 (by omega) rfl ?_
          have hw3 : w = 3 := by omega
          subst hw3
          refine R_aload_n fX3_numberOfPair_77 rfl ?_
          refine R_getP 3 fX3_numberOfPair_78 (shS_k11 hS) (shS_3 hS 11) rfl rfl rfl (shS_r3 hS) ?_
          refine R_iload_n fX3_numberOfPair_81 rfl ?_
          refine R_iaload fX3_numberOfPair_82 (shS_k15 hS) (by omega) ?_
          refine R_ireturn fX3_numberOfPair_83 rfl ?_
          simp only [QE]; unfold rRecord; rw [if_pos (by omega), if_pos (by omega)]; simp [(rr i (by omega) (by omega)).2.2.2]
        · refine R_ldc fX3_numberOfPair_24 ?_
          refine R_ireturn fX3_numberOfPair_26 rfl ?_
          simp only [QE]; unfold rRecord; rw [if_pos (by omega), if_neg (by omega)]
      · refine R_ldc fX3_numberOfPair_13 ?_
        refine R_ireturn fX3_numberOfPair_15 rfl ?_
        simp only [QE]; unfold rRecord; rw [if_neg (by omega)]
