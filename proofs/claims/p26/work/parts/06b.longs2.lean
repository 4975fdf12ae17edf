/-! the instructions that are taken together: sound -/
def STC (d : Nat) (me : ME) (c0 s0 pc : Nat) (L : LV) (S : List AV) (kd : KL) (F : FM) (P : PM) (st : AS) : Prop :=
  (AK me st.2.1 st.2.2.1 st.2.2.2.2.1 ∧ kd.length ≤ st.2.2.2.1.length ∧ ksz kd ≤ ksz st.2.2.2.1) ∧ ∀ (g : GX) (K : KX) (Q : State → Prop), Fx g K d me → c0 ≤ kd.length → s0 ≤ ksz kd → st.2.2.2.1.length - c0 ≤ g.2.2.2.1.cells ∧ ksz st.2.2.2.1 - s0 ≤ g.2.2.2.1.slots → NX g K Q c0 s0 st.1 st.2.1 st.2.2.1 st.2.2.2.1 st.2.2.2.2.1 st.2.2.2.2.2 → NX g K Q c0 s0 pc L S kd F P
theorem inb_cmpL (a b : Int) : inb (cmpL a b) := by unfold cmpL inb; split <;> (try split) <;> omega
theorem inb_bt (v : Int) (sh : Nat) : inb (bt v sh) := by have := bt_b v sh; unfold inb; omega
section STL
variable {d : Nat} {me : ME} {pc len : Nat} {ri : RI} {L : LV} {S : List AV} {kd : KL} {F : FM} {P : PM} {c0 s0 : Nat} {st : AS}
theorem st_lcm1 (gw : GWs) (hd : decode (me_cc me) pc = .ok (.laload, 1)) (h1 : ri.1 = 1) (om : okM me pc .laload ri = true) (hs : s_lcm pc 8 0 (ldI L 2) L S kd F P = some st) (ak : AK me L S F) : STC d me c0 s0 pc L S kd F P st := by
  simp only [okM, h1, Bool.and_eq_true, Bool.or_eq_true, Bool.not_eq_true', decide_eq_true_eq, decide_true, decide_false, Bool.not_true, Bool.false_or, Bool.false_eq_true, false_or, ite_true, ite_false] at om
  obtain ⟨o0, ⟨o1, ⟨o2, ⟨o3, ⟨o4, o5⟩⟩⟩⟩⟩ := om
  unfold s_lcm at hs
  split at hs
  · next k q S1 =>
    split at hs
    · next n hk =>
      split at hs
      · next hb =>
        obtain ⟨b1, b2, b3, b4⟩ := hb
        obtain ⟨a1, a2⟩ := AK_pop ak
        split at hs
        · next r hr =>
          cases hs
          obtain ⟨x, hx, hx2⟩ := ldI_spec hr
          cases hx
          exact ⟨⟨AK_push (AK_pop a1).1 (inb_cmpL _ _), Nat.le_refl _, Nat.le_refl _⟩, fun g K Q fx _ _ _ nx => nx_lcm1 fx gw.2.2.2.2.2.2.1 o0 hd (dcB_of o1) (dcB_of o2) (dcB_of o3) (dcB_of o4) (dcB_of o5) b1 hk a2 b2 b3 b4 (ak.2.2.2 _ _) hx2 (ak.2.2.1 _ _ hx2) nx⟩
        · cases hs
      · cases hs
    · cases hs
  · cases hs
theorem st_lcm2 (gw : GWs) (hd : decode (me_cc me) pc = .ok (.laload, 1)) (h1 : ri.1 = 2) (om : okM me pc .laload ri = true) (hs : s_lcm pc 11 8 (ldI L 3) L S kd F P = some st) (ak : AK me L S F) : STC d me c0 s0 pc L S kd F P st := by
  simp only [okM, h1, show ¬ ((2 : Nat) = 1) by decide, Bool.and_eq_true, Bool.or_eq_true, Bool.not_eq_true', decide_eq_true_eq, decide_true, decide_false, Bool.not_true, Bool.false_or, Bool.false_eq_true, false_or, ite_true, ite_false] at om
  obtain ⟨o0, ⟨o1, ⟨o2, ⟨o3, ⟨o4, ⟨o5, ⟨o6, o7⟩⟩⟩⟩⟩⟩⟩ := om
  unfold s_lcm at hs
  split at hs
  · next k q S1 =>
    split at hs
    · next n hk =>
      split at hs
      · next hb =>
        obtain ⟨b1, b2, b3, b4⟩ := hb
        obtain ⟨a1, a2⟩ := AK_pop ak
        split at hs
        · next r hr =>
          cases hs
          obtain ⟨x, hx, hx2⟩ := ldI_spec hr
          cases hx
          exact ⟨⟨AK_push (AK_pop a1).1 (inb_cmpL _ _), Nat.le_refl _, Nat.le_refl _⟩, fun g K Q fx _ _ _ nx => nx_lcm2 fx gw.2.2.2.2.2.2.1 o0 hd (dcB_of o1) (dcB_of o2) (dcB_of o3) (dcB_of o4) (dcB_of o5) (dcB_of o6) (dcB_of o7) b1 hk a2 b2 b3 b4 (ak.2.2.2 _ _) hx2 (ak.2.2.1 _ _ hx2) nx⟩
        · cases hs
      · cases hs
    · cases hs
  · cases hs
theorem st_lbt (gw : GWs) (hd : decode (me_cc me) pc = .ok (.laload, 1)) (h1 : ri.1 = 3) (om : okM me pc .laload ri = true) (hs : s_lbt pc 9 16 L S kd F P = some st) (ak : AK me L S F) : STC d me c0 s0 pc L S kd F P st := by
  simp only [okM, h1, show ¬ ((3 : Nat) = 1) by decide, show ¬ ((3 : Nat) = 2) by decide, Bool.and_eq_true, Bool.or_eq_true, Bool.not_eq_true', decide_eq_true_eq, decide_true, decide_false, Bool.not_true, Bool.false_or, Bool.false_eq_true, false_or, ite_true, ite_false] at om
  obtain ⟨o0, ⟨o1, ⟨o2, ⟨o3, ⟨o4, o5⟩⟩⟩⟩⟩ := om
  unfold s_lbt at hs
  split at hs
  · next k q S1 =>
    split at hs
    · next n hk =>
      split at hs
      · next hb =>
        obtain ⟨b1, b2, b3, b4⟩ := hb
        obtain ⟨a1, a2⟩ := AK_pop ak
        cases hs
        exact ⟨⟨AK_push (AK_pop a1).1 (inb_bt _ _), Nat.le_refl _, Nat.le_refl _⟩, fun g K Q fx _ _ _ nx => nx_lbt fx gw.2.2.2.2.2.2.1 o0 hd (dcB_of o1) (dcB_of o2) (dcB_of o3) (dcB_of o4) (dcB_of o5) b1 hk a2 b2 b3 b4 (ak.2.2.2 _ _) nx⟩
      · cases hs
    · cases hs
  · cases hs
theorem st_lcr4 (gw : GWs) (hd : decode (me_cc me) pc = .ok (.i2l, 1)) (h1 : ri.1 = 4) (om : okM me pc .i2l ri = true) (hs : s_lcr pc 11 0 (ldA L 4) (ldI L 7) L S kd F P = some st) (ak : AK me L S F) : STC d me c0 s0 pc L S kd F P st := by
  simp only [okM, h1, Bool.and_eq_true, Bool.or_eq_true, Bool.not_eq_true', decide_eq_true_eq, decide_true, decide_false, Bool.not_true, Bool.false_or, Bool.false_eq_true, false_or, ite_true, ite_false] at om
  obtain ⟨o0, ⟨o1, ⟨o2, ⟨o3, ⟨o4, ⟨o5, o6⟩⟩⟩⟩⟩⟩ := om
  unfold s_lcr at hs
  split at hs
  · next r S1 q k hq hkk =>
    split at hs
    · next n hk =>
      split at hs
      · next hb =>
        obtain ⟨b1, b2, b3, b4⟩ := hb
        obtain ⟨a1, a2⟩ := AK_pop ak
        obtain ⟨xq, e1, e2⟩ := ldA_spec hq
        cases e1
        obtain ⟨xk, e3, e4⟩ := ldI_spec hkk
        cases e3
        cases hs
        exact ⟨⟨AK_push a1 (inb_cmpL _ _), Nat.le_refl _, Nat.le_refl _⟩, fun g K Q fx _ _ _ nx => nx_lcr4 fx gw.2.2.2.2.2.2.1 o0 hd (dcB_of o1) (dcB_of o2) (dcB_of o3) (dcB_of o4) (dcB_of o5) (dcB_of o6) b1 hk (ak.2.2.1 _ _ e4) b2 b3 b4 (ak.2.2.2 _ _) e2 e4 a2 nx⟩
      · cases hs
    · cases hs
  · cases hs
theorem st_lcr5 (gw : GWs) (hd : decode (me_cc me) pc = .ok (.i2l, 1)) (h1 : ri.1 = 5) (om : okM me pc .i2l ri = true) (hs : s_lcr pc 14 ri.2.1 (ldA L 4) (ldI L 7) L S kd F P = some st) (ak : AK me L S F) : STC d me c0 s0 pc L S kd F P st := by
  simp only [okM, h1, show ¬ ((5 : Nat) = 4) by decide, Bool.and_eq_true, Bool.or_eq_true, Bool.not_eq_true', decide_eq_true_eq, decide_true, decide_false, Bool.not_true, Bool.false_or, Bool.false_eq_true, false_or, ite_true, ite_false] at om
  obtain ⟨⟨oc, osh⟩, ⟨o0, ⟨o1, ⟨o2, ⟨o3, ⟨o4, ⟨o5, ⟨o6, o7⟩⟩⟩⟩⟩⟩⟩⟩ := om
  unfold s_lcr at hs
  split at hs
  · next r S1 q k hq hkk =>
    split at hs
    · next n hk =>
      split at hs
      · next hb =>
        obtain ⟨b1, b2, b3, b4⟩ := hb
        obtain ⟨a1, a2⟩ := AK_pop ak
        obtain ⟨xq, e1, e2⟩ := ldA_spec hq
        cases e1
        obtain ⟨xk, e3, e4⟩ := ldI_spec hkk
        cases e3
        cases hs
        exact ⟨⟨AK_push a1 (inb_cmpL _ _), Nat.le_refl _, Nat.le_refl _⟩, fun g K Q fx _ _ _ nx => nx_lcr5 fx gw.2.2.2.2.2.2.1 oc osh hd (dcB_of o0) (dcB_of o1) (dcB_of o2) (dcB_of o3) (dcB_of o4) (dcB_of o5) (dcB_of o6) (dcB_of o7) b1 hk (ak.2.2.1 _ _ e4) b2 b3 b4 (ak.2.2.2 _ _) e2 e4 a2 nx⟩
      · cases hs
    · cases hs
  · cases hs
theorem st_lst (gw : GWs) (hd : decode (me_cc me) pc = .ok (.i2l, 1)) (h1 : ri.1 = 6) (om : okM me pc .i2l ri = true) (hs : s_lst pc (ldI L 3) L S kd F P = some st) (ak : AK me L S F) : STC d me c0 s0 pc L S kd F P st := by
  simp only [okM, h1, show ¬ ((6 : Nat) = 4) by decide, show ¬ ((6 : Nat) = 5) by decide, Bool.and_eq_true, Bool.or_eq_true, Bool.not_eq_true', decide_eq_true_eq, decide_true, decide_false, Bool.not_true, Bool.false_or, Bool.false_eq_true, false_or, ite_true, ite_false] at om
  obtain ⟨o0, ⟨o1, ⟨o2, ⟨o3, ⟨o4, ⟨o5, o6⟩⟩⟩⟩⟩⟩ := om
  unfold s_lst at hs
  split at hs
  · next p k q S1 b hb3 =>
    split at hs
    · next n hk =>
      split at hs
      · next hb =>
        obtain ⟨b1, b2, b3, b4, b5, b6, b7⟩ := hb
        obtain ⟨a1, a2⟩ := AK_pop ak
        obtain ⟨a3, a4⟩ := AK_pop a1
        obtain ⟨xk, e3, e4⟩ := ldI_spec hb3
        cases e3
        cases hs
        exact ⟨⟨AK_F (AK_pop a3).1 (inb_stt ak.2.2.2 (by unfold inb; omega)), Nat.le_refl _, Nat.le_refl _⟩, fun g K Q fx _ _ _ nx => nx_lst fx gw.2.2.2.2.2.2.2.1 o0 hd (dcB_of o1) (dcB_of o2) (dcB_of o3) (dcB_of o4) (dcB_of o5) (dcB_of o6) b1 hk a4 b2 b3 a2 e4 (ak.2.2.1 _ _ e4) nx⟩
      · cases hs
    · cases hs
  · cases hs
theorem st_ladd (gw : GWs) (hd : decode (me_cc me) pc = .ok (.dup2, 1)) (h1 : ri.1 = 7) (om : okM me pc .dup2 ri = true) (hs : s_ladd pc (ldI L 4) L S kd F P = some st) (ak : AK me L S F) : STC d me c0 s0 pc L S kd F P st := by
  simp only [okM, h1, Bool.and_eq_true, Bool.or_eq_true, Bool.not_eq_true', decide_eq_true_eq, decide_true, decide_false, Bool.not_true, Bool.false_or, Bool.false_eq_true, false_or, ite_true, ite_false] at om
  obtain ⟨o0, ⟨o1, ⟨o2, ⟨o3, ⟨o4, ⟨o5, ⟨o6, ⟨o7, ⟨o8, ⟨o9, o10⟩⟩⟩⟩⟩⟩⟩⟩⟩⟩ := om
  unfold s_ladd at hs
  split at hs
  · next k q S1 w hb3 =>
    split at hs
    · next n hk =>
      split at hs
      · next hb =>
        obtain ⟨b1, b2, b3, b4, b5⟩ := hb
        obtain ⟨a1, a2⟩ := AK_pop ak
        obtain ⟨xk, e3, e4⟩ := ldI_spec hb3
        cases e3
        cases hs
        exact ⟨⟨AK_F (AK_pop a1).1 (inb_stt ak.2.2.2 (by unfold inb; split <;> omega)), Nat.le_refl _, Nat.le_refl _⟩, fun g K Q fx _ _ _ nx => nx_ladd fx gw.2.2.2.2.2.2.2.2.1 gw.2.2.2.2.2.2.2.2.2 o0 hd (dcB_of o1) (dcB_of o2) (dcB_of o3) (dcB_of o4) (dcB_of o5) (dcB_of o6) (dcB_of o7) (dcB_of o8) (dcB_of o9) (dcB_of o10) b1 hk a2 b2 b3 e4 (ak.2.2.1 _ _ e4) nx⟩
      · cases hs
    · cases hs
  · cases hs
end STL
