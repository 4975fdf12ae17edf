section STP
variable {pg : Nat → Option ME} {d : Nat} {me : ME} {pc len : Nat} {ri : RI} {ins : Instr} {L L' : LV} {S S' : List AV} {kd kd' : KL} {F F' : FM} {P P' : PM} {pc' c0 s0 : Nat}
set_option maxHeartbeats 4000000 in
theorem stp_sound (gw : GWs) (hd : decode (me_cc me) pc = .ok (ins, len)) (ok : okJ pg me ins len ri = true) (om : okM me pc ins ri = true) (hs : stp d pc len ri ins L S kd F P = some (pc', L', S', kd', F', P')) (ak : AK me L S F) :
    (AK me L' S' F' ∧ kd.length ≤ kd'.length ∧ ksz kd ≤ ksz kd') ∧ ∀ (g : GX) (K : KX) (Q : State → Prop), Fx g K d me → c0 ≤ kd.length → s0 ≤ ksz kd → kd'.length - c0 ≤ g.2.2.2.1.cells ∧ ksz kd' - s0 ≤ g.2.2.2.1.slots → NX g K Q c0 s0 pc' L' S' kd' F' P' → NX g K Q c0 s0 pc L S kd F P := by
  unfold stp at hs
  split at hs
  · next n =>
    simp only [okJ, Bool.and_eq_true, decide_eq_true_eq] at ok
    obtain ⟨rfl, ok⟩ := ok
    simp only [s_load, Option.some.injEq, Prod.mk.injEq] at hs
    obtain ⟨rfl, rfl, rfl, rfl, rfl, rfl⟩ := hs
    exact ⟨⟨AK_push ak (inbB_spec ok), Nat.le_refl _, Nat.le_refl _⟩, fun g K Q fx _ _ _ nx => nx_iconst fx hd nx⟩
  · next n =>
    simp only [okJ, Bool.and_eq_true, decide_eq_true_eq] at ok
    obtain ⟨rfl, ok⟩ := ok
    simp only [s_load, Option.some.injEq, Prod.mk.injEq] at hs
    obtain ⟨rfl, rfl, rfl, rfl, rfl, rfl⟩ := hs
    exact ⟨⟨AK_push ak (by show inb n; unfold inb; omega), Nat.le_refl _, Nat.le_refl _⟩, fun g K Q fx _ _ _ nx => nx_bipush fx hd ok.1 ok.2 nx⟩
  · next n =>
    simp only [okJ, Bool.and_eq_true, decide_eq_true_eq] at ok
    obtain ⟨rfl, ok⟩ := ok
    simp only [s_load, Option.some.injEq, Prod.mk.injEq] at hs
    obtain ⟨rfl, rfl, rfl, rfl, rfl, rfl⟩ := hs
    exact ⟨⟨AK_push ak (by show inb n; unfold inb; omega), Nat.le_refl _, Nat.le_refl _⟩, fun g K Q fx _ _ _ nx => nx_sipush fx hd ok.1 ok.2 nx⟩
  · next n =>
    simp only [okJ, Bool.and_eq_true, decide_eq_true_eq] at ok
    obtain ⟨rfl, ok⟩ := ok
    simp only [s_load, Option.some.injEq, Prod.mk.injEq] at hs
    obtain ⟨rfl, rfl, rfl, rfl, rfl, rfl⟩ := hs
    exact ⟨⟨AK_push ak (inbB_spec ok.1), Nat.le_refl _, Nat.le_refl _⟩, fun g K Q fx _ _ _ nx => nx_ldc fx hd (wAt_in ok.2) nx⟩
  · next i =>
    simp only [okJ, decide_eq_true_eq] at ok
    subst ok
    unfold s_load at hs
    split at hs
    · next v hv =>
      cases hs
      obtain ⟨x, rfl, hx⟩ := ldI_spec hv
      exact ⟨⟨AK_push ak (ak.2.2.1 _ _ hx), Nat.le_refl _, Nat.le_refl _⟩, fun g K Q fx _ _ _ nx => nx_iload fx hd hv nx⟩
    · cases hs
  · next i =>
    simp only [okJ, decide_eq_true_eq] at ok
    subst ok
    unfold s_load at hs
    split at hs
    · next v hv =>
      cases hs
      obtain ⟨x, rfl, hx⟩ := ldI_spec hv
      exact ⟨⟨AK_push ak (ak.2.2.1 _ _ hx), Nat.le_refl _, Nat.le_refl _⟩, fun g K Q fx _ _ _ nx => nx_iload_n fx hd hv nx⟩
    · cases hs
  · next i =>
    simp only [okJ, decide_eq_true_eq] at ok
    subst ok
    unfold s_load at hs
    split at hs
    · next v hv =>
      cases hs
      obtain ⟨x, rfl, hx⟩ := ldA_spec hv
      exact ⟨⟨AK_push ak (ak.2.2.1 _ _ hx), Nat.le_refl _, Nat.le_refl _⟩, fun g K Q fx _ _ _ nx => nx_aload fx hd hv nx⟩
    · cases hs
  · next i =>
    simp only [okJ, decide_eq_true_eq] at ok
    subst ok
    unfold s_load at hs
    split at hs
    · next v hv =>
      cases hs
      obtain ⟨x, rfl, hx⟩ := ldA_spec hv
      exact ⟨⟨AK_push ak (ak.2.2.1 _ _ hx), Nat.le_refl _, Nat.le_refl _⟩, fun g K Q fx _ _ _ nx => nx_aload_n fx hd hv nx⟩
    · cases hs
  · next i =>
    simp only [okJ, decide_eq_true_eq] at ok
    subst ok
    unfold s_storeI at hs
    split at hs
    · split at hs
      · next hi =>
        cases hs
        obtain ⟨a1, a2⟩ := AK_pop ak
        exact ⟨⟨AK_set a1 a2, Nat.le_refl _, Nat.le_refl _⟩, fun g K Q fx _ _ _ nx => nx_istore fx hd hi nx⟩
      · cases hs
    · cases hs
  · next i =>
    simp only [okJ, decide_eq_true_eq] at ok
    subst ok
    unfold s_storeI at hs
    split at hs
    · split at hs
      · next hi =>
        cases hs
        obtain ⟨a1, a2⟩ := AK_pop ak
        exact ⟨⟨AK_set a1 a2, Nat.le_refl _, Nat.le_refl _⟩, fun g K Q fx _ _ _ nx => nx_istore_n fx hd hi nx⟩
      · cases hs
    · cases hs
  · next i =>
    simp only [okJ, decide_eq_true_eq] at ok
    subst ok
    unfold s_storeA at hs
    split at hs
    · split at hs
      · next hi =>
        cases hs
        obtain ⟨a1, a2⟩ := AK_pop ak
        exact ⟨⟨AK_set a1 a2, Nat.le_refl _, Nat.le_refl _⟩, fun g K Q fx _ _ _ nx => nx_astore fx hd hi nx⟩
      · cases hs
    · cases hs
  · next i =>
    simp only [okJ, decide_eq_true_eq] at ok
    subst ok
    unfold s_storeA at hs
    split at hs
    · split at hs
      · next hi =>
        cases hs
        obtain ⟨a1, a2⟩ := AK_pop ak
        exact ⟨⟨AK_set a1 a2, Nat.le_refl _, Nat.le_refl _⟩, fun g K Q fx _ _ _ nx => nx_astore_n fx hd hi nx⟩
      · cases hs
    · cases hs
  · next i n =>
    simp only [okJ, decide_eq_true_eq] at ok
    subst ok
    unfold s_iinc at hs
    split at hs
    · next v hv =>
      cases hs
      exact ⟨⟨AK_set ak (inb_wr _), Nat.le_refl _, Nat.le_refl _⟩, fun g K Q fx _ _ _ nx => nx_iinc fx hd hv nx⟩
    · cases hs
  · simp only [okJ, decide_eq_true_eq] at ok
    subst ok
    unfold s_bin at hs
    split at hs
    · cases hs
      obtain ⟨a1, a2⟩ := AK_pop ak
      obtain ⟨a3, a4⟩ := AK_pop a1
      exact ⟨⟨AK_push a3 (inb_wr _), Nat.le_refl _, Nat.le_refl _⟩, fun g K Q fx _ _ _ nx => nx_iadd fx hd nx⟩
    · cases hs
  · simp only [okJ, decide_eq_true_eq] at ok
    subst ok
    unfold s_bin at hs
    split at hs
    · cases hs
      obtain ⟨a1, a2⟩ := AK_pop ak
      obtain ⟨a3, a4⟩ := AK_pop a1
      exact ⟨⟨AK_push a3 (inb_wr _), Nat.le_refl _, Nat.le_refl _⟩, fun g K Q fx _ _ _ nx => nx_isub fx hd nx⟩
    · cases hs
  · simp only [okJ, decide_eq_true_eq] at ok
    subst ok
    unfold s_bin at hs
    split at hs
    · cases hs
      obtain ⟨a1, a2⟩ := AK_pop ak
      obtain ⟨a3, a4⟩ := AK_pop a1
      exact ⟨⟨AK_push a3 (inb_wr _), Nat.le_refl _, Nat.le_refl _⟩, fun g K Q fx _ _ _ nx => nx_imul fx hd nx⟩
    · cases hs
  · simp only [okJ, decide_eq_true_eq] at ok
    subst ok
    unfold s_bin at hs
    split at hs
    · cases hs
      obtain ⟨a1, a2⟩ := AK_pop ak
      obtain ⟨a3, a4⟩ := AK_pop a1
      exact ⟨⟨AK_push a3 (inb_toInt _), Nat.le_refl _, Nat.le_refl _⟩, fun g K Q fx _ _ _ nx => nx_iand fx hd nx⟩
    · cases hs
  · simp only [okJ, decide_eq_true_eq] at ok
    subst ok
    unfold s_binD at hs
    split at hs
    · split at hs
      · cases hs
      · next h0 =>
        cases hs
        obtain ⟨a1, a2⟩ := AK_pop ak
        obtain ⟨a3, a4⟩ := AK_pop a1
        exact ⟨⟨AK_push a3 (inb_wr _), Nat.le_refl _, Nat.le_refl _⟩, fun g K Q fx _ _ _ nx => nx_idiv fx hd a4 a2 h0 nx⟩
    · cases hs
  · simp only [okJ, decide_eq_true_eq] at ok
    subst ok
    unfold s_binD at hs
    split at hs
    · split at hs
      · cases hs
      · next h0 =>
        cases hs
        obtain ⟨a1, a2⟩ := AK_pop ak
        obtain ⟨a3, a4⟩ := AK_pop a1
        exact ⟨⟨AK_push a3 (inb_wr _), Nat.le_refl _, Nat.le_refl _⟩, fun g K Q fx _ _ _ nx => nx_irem fx hd a4 a2 h0 nx⟩
    · cases hs
  · simp only [okJ, decide_eq_true_eq] at ok
    subst ok
    unfold s_neg at hs
    split at hs
    · cases hs
      obtain ⟨a1, a2⟩ := AK_pop ak
      exact ⟨⟨AK_push a1 (inb_wr _), Nat.le_refl _, Nat.le_refl _⟩, fun g K Q fx _ _ _ nx => nx_ineg fx hd nx⟩
    · cases hs
  · simp only [okJ, decide_eq_true_eq] at ok
    subst ok
    unfold s_dup at hs
    split at hs
    · cases hs
      exact ⟨⟨AK_push ak (AK_pop ak).2, Nat.le_refl _, Nat.le_refl _⟩, fun g K Q fx _ _ _ nx => nx_dup fx hd nx⟩
    · cases hs
  · simp only [okJ, decide_eq_true_eq] at ok
    subst ok
    split at hs
    · next h7 => exact st_ladd gw hd h7 om hs ak
    · unfold s_dup2 at hs
      split at hs
      · cases hs
        obtain ⟨a1, a2⟩ := AK_pop ak
        obtain ⟨a3, a4⟩ := AK_pop a1
        exact ⟨⟨AK_push (AK_push ak a4) a2, Nat.le_refl _, Nat.le_refl _⟩, fun g K Q fx _ _ _ nx => nx_dup2 fx hd nx⟩
      · cases hs
  · simp only [okJ, decide_eq_true_eq] at ok
    subst ok
    split at hs
    · next h1 => exact st_lcm1 gw hd h1 om hs ak
    · next h1 =>
      split at hs
      · next h2 => exact st_lcm2 gw hd h2 om hs ak
      · next h2 =>
        split at hs
        · next h3 => exact st_lbt gw hd h3 om hs ak
        · cases hs
  · simp only [okJ, decide_eq_true_eq] at ok
    subst ok
    split at hs
    · next h1 => exact st_lcr4 gw hd h1 om hs ak
    · next h1 =>
      split at hs
      · next h2 => exact st_lcr5 gw hd h2 om hs ak
      · next h2 =>
        split at hs
        · next h3 => exact st_lst gw hd h3 om hs ak
        · cases hs
  · simp only [okJ, decide_eq_true_eq] at ok
    subst ok
    unfold s_bin at hs
    split at hs
    · cases hs
      obtain ⟨a1, a2⟩ := AK_pop ak
      obtain ⟨a3, a4⟩ := AK_pop a1
      exact ⟨⟨AK_push a3 (inb_toInt _), Nat.le_refl _, Nat.le_refl _⟩, fun g K Q fx _ _ _ nx => nx_ishr fx hd nx⟩
    · cases hs
  · simp only [okJ, decide_eq_true_eq] at ok
    subst ok
    unfold s_bin at hs
    split at hs
    · cases hs
      obtain ⟨a1, a2⟩ := AK_pop ak
      obtain ⟨a3, a4⟩ := AK_pop a1
      exact ⟨⟨AK_push a3 (inb_toInt _), Nat.le_refl _, Nat.le_refl _⟩, fun g K Q fx _ _ _ nx => nx_ixor fx hd nx⟩
    · cases hs
  · simp only [okJ, decide_eq_true_eq] at ok
    subst ok
    unfold s_pop at hs
    split at hs
    · cases hs
      exact ⟨⟨(AK_pop ak).1, Nat.le_refl _, Nat.le_refl _⟩, fun g K Q fx _ _ _ nx => nx_pop fx hd nx⟩
    · cases hs
  · next off =>
    simp only [okJ, decide_eq_true_eq] at ok
    subst ok
    unfold s_goto at hs
    split at hs
    · next t ht =>
      cases hs
      exact ⟨⟨ak, Nat.le_refl _, Nat.le_refl _⟩, fun g K Q fx _ _ _ nx => nx_goto fx hd ht nx⟩
    · cases hs
  · next c off =>
    simp only [okJ, decide_eq_true_eq] at ok
    subst ok
    unfold s_icmp at hs
    split at hs
    · next t y x S1 ht =>
      cases hs
      obtain ⟨a1, a2⟩ := AK_pop ak
      obtain ⟨a3, a4⟩ := AK_pop a1
      exact ⟨⟨a3, Nat.le_refl _, Nat.le_refl _⟩, fun g K Q fx _ _ _ nx => nx_icmp fx hd ht a4 a2 nx⟩
    · cases hs
  · next c off =>
    simp only [okJ, decide_eq_true_eq] at ok
    subst ok
    unfold s_ifc at hs
    split at hs
    · next t x S1 ht =>
      cases hs
      obtain ⟨a1, a2⟩ := AK_pop ak
      exact ⟨⟨a1, Nat.le_refl _, Nat.le_refl _⟩, fun g K Q fx _ _ _ nx => nx_ifc fx hd ht a2 nx⟩
    · cases hs
  · simp only [okJ, decide_eq_true_eq] at ok
    subst ok
    unfold s_iald at hs
    split at hs
    · split at hs
      · next n hk =>
        split at hs
        · next hb =>
          cases hs
          obtain ⟨a1, a2⟩ := AK_pop ak
          exact ⟨⟨AK_push (AK_pop a1).1 (ak.2.2.2 _ _), Nat.le_refl _, Nat.le_refl _⟩, fun g K Q fx _ _ _ nx => nx_iald fx hd hk a2 hb.1 hb.2 nx⟩
        · cases hs
      · cases hs
    · cases hs
  · simp only [okJ, decide_eq_true_eq] at ok
    subst ok
    unfold s_aald at hs
    split at hs
    · split at hs
      · next n hk =>
        split at hs
        · next hb =>
          cases hs
          obtain ⟨a1, a2⟩ := AK_pop ak
          exact ⟨⟨AK_push (AK_pop a1).1 trivial, Nat.le_refl _, Nat.le_refl _⟩, fun g K Q fx _ _ _ nx => nx_aald fx hd hb.1 hk a2 hb.2.1 hb.2.2 nx⟩
        · cases hs
      · cases hs
    · cases hs
  · simp only [okJ, decide_eq_true_eq] at ok
    subst ok
    unfold s_iast at hs
    split at hs
    · split at hs
      · next n hk =>
        split at hs
        · next hb =>
          cases hs
          obtain ⟨a1, a2⟩ := AK_pop ak
          obtain ⟨a3, a4⟩ := AK_pop a1
          exact ⟨⟨AK_F (AK_pop a3).1 (inb_stt ak.2.2.2 a2), Nat.le_refl _, Nat.le_refl _⟩, fun g K Q fx _ _ _ nx => nx_iast fx hd hb.1 hk a4 hb.2.1 hb.2.2 nx⟩
        · cases hs
      · cases hs
    · cases hs
  · simp only [okJ, decide_eq_true_eq] at ok
    subst ok
    unfold s_aast at hs
    split at hs
    · split at hs
      · next n hk =>
        split at hs
        · next hb =>
          cases hs
          obtain ⟨a1, a2⟩ := AK_pop ak
          obtain ⟨a3, a4⟩ := AK_pop a1
          exact ⟨⟨(AK_pop a3).1, Nat.le_refl _, Nat.le_refl _⟩, fun g K Q fx _ _ _ nx => nx_aast fx hd hb.1 hk a4 hb.2.1 hb.2.2.1 hb.2.2.2.1 hb.2.2.2.2 nx⟩
        · cases hs
      · cases hs
    · cases hs
  · simp only [okJ, decide_eq_true_eq] at ok
    subst ok
    unfold s_alen at hs
    split at hs
    · split at hs
      · next n hk =>
        split at hs
        · next hb =>
          cases hs
          exact ⟨⟨AK_push (AK_pop ak).1 (by show inb _; unfold inb; omega), Nat.le_refl _, Nat.le_refl _⟩, fun g K Q fx _ _ _ nx => nx_alen fx hd hk nx⟩
        · cases hs
      · cases hs
    · cases hs
  · next idx =>
    simp only [okJ, okG, Bool.and_eq_true, decide_eq_true_eq] at ok
    obtain ⟨rfl, ok⟩ := ok
    split at ok
    · next r hr =>
      simp only [Bool.and_eq_true, decide_eq_true_eq] at ok
      unfold s_getf at hs
      split at hs
      · split at hs
        · next c n hk =>
          split at hs
          · next hb =>
            obtain ⟨rfl, hj, h3⟩ := hb
            cases hs
            exact ⟨⟨AK_push (AK_pop ak).1 (by split; exact ak.2.2.2 _ _; trivial), Nat.le_refl _, Nat.le_refl _⟩, fun g K Q fx _ _ _ nx => nx_getf fx hd h3 hk hj hr ok.1.1 (gw.1 _ _ hr).1 (wAt_in ok.1.2) nx⟩
          · cases hs
        · cases hs
      · cases hs
    · cases ok
  · next idx =>
    simp only [okJ, okG, Bool.and_eq_true, decide_eq_true_eq] at ok
    obtain ⟨rfl, ok⟩ := ok
    split at ok
    · next r hr =>
      simp only [Bool.and_eq_true, decide_eq_true_eq] at ok
      have hfin : (r.2.1 ri.2.1).2.2.2 = false ∨ ((me_y me).name = "<init>" ∧ (r.2.1 ri.2.1).1 = (me_y me).cls) := by
        have h := ok.2
        simp at h
        exact h
      unfold s_putf at hs
      split at hs
      · split at hs
        · next c n hk =>
          split at hs
          · next hb =>
            obtain ⟨rfl, hj, h3, hty⟩ := hb
            cases hs
            obtain ⟨a1, a2⟩ := AK_pop ak
            refine ⟨⟨AK_F (AK_pop a1).1 (inb_stt ak.2.2.2 a2), Nat.le_refl _, Nat.le_refl _⟩, fun g K Q fx _ _ _ nx => nx_putV fx hd h3 hk hj hr ok.1.1 (gw.1 _ _ hr).1 (wAt_in ok.1.2) hfin ?_ ?_ ?_ (fun a b hab => by unfold stt; rw [if_neg hab]) (fun a b hab => rfl) nx⟩
            · rcases hty with h | ⟨h, q | q⟩ <;> rw [h]
              · rfl
              · rw [q]; rfl
              · rw [q]; rfl
            · rcases hty with h | ⟨h, q | q⟩ <;> rw [h]
              · rfl
              · rw [q]; rfl
              · rw [q]; rfl
            · have e : isN (tyOf ri.1 ri.2.1) = true := by rcases hty with h | ⟨h, q⟩ <;> rw [h] <;> rfl
              unfold sval stt
              rw [if_pos e, if_pos ⟨rfl, rfl⟩]
              rfl
          · cases hs
        · cases hs
      · split at hs
        · next c n hk =>
          split at hs
          · next hb =>
            obtain ⟨rfl, hj, h3, hty⟩ := hb
            cases hs
            obtain ⟨a1, a2⟩ := AK_pop ak
            have hdf := clDef _ _ hr _ ok.1.1
            rw [if_neg (by rw [hty]; decide)] at hdf
            refine ⟨⟨(AK_pop a1).1, Nat.le_refl _, Nat.le_refl _⟩, fun g K Q fx _ _ _ nx => nx_putV fx hd h3 hk hj hr ok.1.1 (gw.1 _ _ hr).1 (wAt_in ok.1.2) hfin ?_ ?_ ?_ (fun a b hab => rfl) (fun a b hab => by unfold stp_; rw [if_neg hab]) nx⟩
            · exact (ptr_fit hdf _).1
            · exact (ptr_fit hdf _).2
            · unfold sval stp_
              rw [if_neg (by rw [hty]; decide), if_pos ⟨rfl, rfl⟩]
              rfl
          · cases hs
        · cases hs
      · cases hs
    · cases ok
  · next idx =>
    simp only [okJ, Bool.and_eq_true, decide_eq_true_eq] at ok
    obtain ⟨rfl, ok⟩ := ok
    split at ok
    · next r hr =>
      simp only [Bool.and_eq_true, decide_eq_true_eq] at ok
      unfold s_new at hs
      cases hs
      have e1 : (kd ++ [(ri.1 + 2, ri.2.1)]).length = kd.length + 1 := by simp
      have e2 : ksz (kd ++ [(ri.1 + 2, ri.2.1)]) = ksz kd + ri.2.1 := by unfold ksz; simp
      exact ⟨⟨AK_F (AK_push ak trivial) (inb_clF ak.2.2.2), by omega, by omega⟩, fun g K Q fx h1 h2 h3 nx => nx_new fx hd hr ok.1 (gw.1 _ _ hr).1 (wAt_in ok.2) (gw.1 _ _ hr).2.1 (gw.1 _ _ hr).2.2 h1 h2 (by rw [← e1]; exact h3.1) (by rw [← e2]; exact h3.2) nx⟩
    · cases ok
  · next t =>
    simp only [okJ, decide_eq_true_eq] at ok
    subst ok
    split at hs
    · next ht =>
      subst ht
      unfold s_newa at hs
      split at hs
      · next n S1 =>
        split at hs
        · next hb =>
          cases hs
          have e1 : List.length (kd ++ [((0 : Nat), n.toNat)]) = kd.length + 1 := by simp
          have e2 : ksz (kd ++ [((0 : Nat), n.toNat)]) = ksz kd + n.toNat := by unfold ksz; simp
          exact ⟨⟨AK_F (AK_push (AK_pop ak).1 trivial) (inb_clF ak.2.2.2), by omega, by omega⟩, fun g K Q fx h1 h2 h3 nx => nx_newa fx hd gw.2.2.2.2.1 hb.1 hb.2 h1 h2 (by rw [← e1]; exact h3.1) (by rw [← e2]; exact h3.2) nx⟩
        · cases hs
      · cases hs
    · split at hs
      · next ht =>
        subst ht
        unfold s_newl at hs
        split at hs
        · next n S1 =>
          split at hs
          · next hb =>
            cases hs
            have e1 : List.length (kd ++ [((30 : Nat), n.toNat)]) = kd.length + 1 := by simp
            have e2 : ksz (kd ++ [((30 : Nat), n.toNat)]) = ksz kd + n.toNat := by unfold ksz; simp
            exact ⟨⟨AK_F (AK_push (AK_pop ak).1 trivial) (inb_clF ak.2.2.2), by omega, by omega⟩, fun g K Q fx h1 h2 h3 nx => nx_newl fx hd gw.2.2.2.2.2.1 hb.1 hb.2 h1 h2 (by rw [← e1]; exact h3.1) (by rw [← e2]; exact h3.2) nx⟩
          · cases hs
        · cases hs
      · cases hs
  · next idx =>
    simp only [okJ, Bool.and_eq_true, decide_eq_true_eq] at ok
    obtain ⟨rfl, ok⟩ := ok
    unfold s_anew at hs
    split at hs
    · next n S1 =>
      split at hs
      · next hb =>
        cases hs
        have e1 : List.length (kd ++ [((1 : Nat), n.toNat)]) = kd.length + 1 := by simp
        have e2 : ksz (kd ++ [((1 : Nat), n.toNat)]) = ksz kd + n.toNat := by unfold ksz; simp
        exact ⟨⟨AK_push (AK_pop ak).1 trivial, by omega, by omega⟩, fun g K Q fx h1 h2 h3 nx => nx_anew fx hd (wAt_in ok) hb.1 hb.2 h1 h2 (by rw [← e1]; exact h3.1) (by rw [← e2]; exact h3.2) nx⟩
      · cases hs
    · cases hs
  · next idx =>
    simp only [okJ, Bool.and_eq_true, Bool.or_eq_true, decide_eq_true_eq] at ok
    obtain ⟨rfl, ok⟩ := ok
    unfold s_gets at hs
    cases hs
    refine ⟨⟨AK_push ak trivial, Nat.le_refl _, Nat.le_refl _⟩, fun g K Q fx _ _ _ nx => ?_⟩
    rcases ok with ⟨h, hw⟩ | ⟨h, hw⟩
    · rw [h] at nx
      exact nx_gets fx hd (nAt_in hw) fx.2.2.2.2.2.1.2.2.2.2.2.1 (by omega) nx
    · rw [h] at nx
      exact nx_gets fx hd (nAt_in hw) fx.2.2.2.2.2.1.2.2.2.2.2.2 (by omega) nx
  · next dflt lo hi offs =>
    have hs' := hs
    unfold s_tab at hs
    split at hs
    · next x S1 =>
      obtain ⟨a1, a2⟩ := AK_pop ak
      have hAK : L' = L ∧ S' = S1 ∧ kd' = kd ∧ F' = F := by
        split at hs
        · split at hs
          · unfold s_goto at hs
            split at hs
            · cases hs; exact ⟨rfl, rfl, rfl, rfl⟩
            · cases hs
          · cases hs
        · unfold s_goto at hs
          split at hs
          · cases hs; exact ⟨rfl, rfl, rfl, rfl⟩
          · cases hs
      obtain ⟨rfl, rfl, rfl, rfl⟩ := hAK
      exact ⟨⟨a1, Nat.le_refl _, Nat.le_refl _⟩, fun g K Q fx _ _ _ nx => nx_tab fx hd a2 hs' nx⟩
    · cases hs
  · next dflt ps =>
    have hs' := hs
    unfold s_look at hs
    split at hs
    · next x S1 =>
      obtain ⟨a1, a2⟩ := AK_pop ak
      have hAK : L' = L ∧ S' = S1 ∧ kd' = kd ∧ F' = F := by
        split at hs
        · unfold s_goto at hs
          split at hs
          · cases hs; exact ⟨rfl, rfl, rfl, rfl⟩
          · cases hs
        · cases hs
      obtain ⟨rfl, rfl, rfl, rfl⟩ := hAK
      exact ⟨⟨a1, Nat.le_refl _, Nat.le_refl _⟩, fun g K Q fx _ _ _ nx => nx_look fx hd a2 hs' nx⟩
    · cases hs
  · next idx =>
    simp only [okJ, Bool.and_eq_true, decide_eq_true_eq] at ok
    obtain ⟨rfl, ok⟩ := ok
    split at hs
    · next h2 =>
      rw [if_pos h2] at ok
      unfold s_copy at hs
      split at hs
      · split at hs
        · next n0 n1 e0 e1 =>
          split at hs
          · next hb =>
            obtain ⟨q1, q2, q3, q4, q5, q6, q7, q8⟩ := hb
            subst q2
            cases hs
            obtain ⟨a1, a2⟩ := AK_pop ak
            obtain ⟨a3, a4⟩ := AK_pop a1
            obtain ⟨a5, a6⟩ := AK_pop a3
            obtain ⟨a7, a8⟩ := AK_pop a5
            exact ⟨⟨AK_F (AK_pop a7).1 (inb_cpF ak.2.2.2), Nat.le_refl _, Nat.le_refl _⟩, fun g K Q fx _ _ _ nx => nx_copy fx ak.1 hd (wAt_in ok) gw.2.2.1.1 gw.2.2.1.2.1 gw.2.2.1.2.2 q1 q3 e0 e1 a2 a8 a4 q4 q5 q6 q7 q8 nx⟩
          · cases hs
        · cases hs
      · cases hs
    · next h2 =>
      rw [if_neg h2] at ok
      split at hs
      · next h4 =>
        rw [if_pos h4] at ok
        unfold s_mm at hs
        split at hs
        · next y x S1 =>
          split at hs
          · next hb =>
            cases hs
            obtain ⟨a1, a2⟩ := AK_pop ak
            obtain ⟨a3, a4⟩ := AK_pop a1
            exact ⟨⟨AK_push a3 (by show inb (if y < x then y else x); split; exact a2; exact a4), Nat.le_refl _, Nat.le_refl _⟩, fun g K Q fx _ _ hr nx => nx_mmin fx ak.1 hd (wAt_in ok) gw.2.1.2.1 gw.2.1.1 gw.2.1.2.2 hb.1 hb.2 a4 a2 hr nx⟩
          · cases hs
        · cases hs
      · cases hs
  · next idx =>
    simp only [okJ, Bool.and_eq_true, decide_eq_true_eq] at ok
    obtain ⟨rfl, ok⟩ := ok
    split at hs
    · next h5 =>
      rw [if_pos h5] at ok
      unfold s_oini at hs
      split at hs
      · split at hs
        · next hb =>
          obtain ⟨q1, q2⟩ := hb
          subst q2
          cases hs
          exact ⟨⟨(AK_pop ak).1, Nat.le_refl _, Nat.le_refl _⟩, fun g K Q fx _ _ _ nx => nx_oini fx ak.1 hd (wAt_in ok) gw.2.2.2.1.1 gw.2.2.2.1.2 q1 nx⟩
        · cases hs
      · cases hs
    · cases hs
  · cases hs
end STP
