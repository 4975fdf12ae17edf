def OKM (pg : Nat → Option ME) (ce : ME) : Prop :=
  plainName (me_y ce).cls = true ∧ ((me_y ce).cls ≠ "java/lang/invoke/MethodHandle" ∧ (me_y ce).cls ≠ "java/lang/invoke/VarHandle") ∧ (parseMethodDescriptor (me_y ce).desc).map (fun d => d.parameters.length) = some (me_na ce) ∧ Jvm.Cond.code (me_y ce) (me_cc ce) (me_ml ce) (me_rt ce) ∈ WL ∧ Jvm.Cond.initialized (me_y ce).cls ∈ WL ∧
  (me_kd ce = 0 → Jvm.Cond.instanceMethod (me_y ce) ∈ WL ∧ Jvm.Cond.selects (me_y ce).cls (me_y ce) (me_y ce) ∈ WL ∧ ∃ r : vw_C, vwCl[me_ix ce]? = some r ∧ r.1 = (me_y ce).cls) ∧ (me_kd ce = 1 → Jvm.Cond.static (me_y ce) ∈ WL) ∧ (me_kd ce = 2 → Jvm.Cond.instanceMethod (me_y ce) ∈ WL ∧ (me_y ce).name = "<init>" ∧ me_rt ce = none) ∧ me_ml ce ≤ 20 ∧ ∀ e ∈ me_ci ce, okI pg ce e = true
def wsm (ce : ME) : List Jvm.Cond := .code (me_y ce) (me_cc ce) (me_ml ce) (me_rt ce) :: WL
def Mth (K : KX) (l : Launch) (ce : ME) (as : List AV) (kd : KL) (F : FM) (P : PM) (d : Nat) (rs : RS) : Prop :=
  Met l (me_y ce) (wsm ce) ({ frames := d, cells := rs.2.1.length - kd.length, slots := ksz rs.2.1 - ksz kd, locals := 39 * d } : Room) (fun a U => a = (as.map (gv K)).toArray ∧ TF K U ∧ WI K kd F P U.heap) (fun _ _ oc t => oc = .returned (rs.1.map (gv K)) ∧ WI K rs.2.1 rs.2.2.1 rs.2.2.2 t.heap) (rs.2.1.length - kd.length) (ksz rs.2.1 - ksz kd) (zA K)
theorem NWs_tab : ∀ w ∈ NWs, w.onTables = true := by decide +kernel
theorem TF_same {K : KX} {u U : State} (h : u.vm = U.vm) (t : TF K u) : TF K U := by
  have hA : u.vm.Alike U.vm := by rw [h]; exact Vm.Alike.refl _
  obtain ⟨t1, t2, t3, t4, t5, t6, t7⟩ := t
  exact ⟨t1, t2.moved hA, fun w hw => (t3 w hw).same (NWs_tab w hw) h, t4.moved hA, fun k hk => (t5 k hk).moved hA, t6.moved hA, t7.moved hA⟩
theorem NW_warm {s U : State} (hW : s.WarmedH U.vm) (h : ∀ w ∈ NWs, va_Nw w s) : ∀ w ∈ NWs, va_Nw w U := by
  simp only [NWs, List.forall_mem_cons] at h ⊢
  obtain ⟨h1, h2, h3, h4, h5, h6, h7, h8, h9⟩ := h
  exact ⟨h1.warmM hW, h2.warmM hW, h3.warmM hW, h4.warmM hW, h5.warmM hW, h6.warmM hW, h7.warmF hW, h8.warmF hW, fun _ h => absurd h List.not_mem_nil⟩
theorem TF_warm {K : KX} {s U : State} (hW : s.WarmedH U.vm) (t : TF K s) : TF K U := by
  obtain ⟨t1, t2, t3, t4, t5, t6, t7⟩ := t
  exact ⟨t1, t2.moved hW.alike, NW_warm hW t3, t4.moved hW.alike, fun k hk => (t5 k hk).moved hW.alike, t6.moved hW.alike, t7.moved hW.alike⟩
theorem spl_spec {n : Nat} {S as S' : List AV} (h : spl n S = some (as, S')) : S = as.reverse ++ S' ∧ as.length = n := by
  unfold spl at h
  split at h
  · next hn =>
    cases h
    exact ⟨by rw [List.reverse_reverse, List.take_append_drop], by rw [List.length_reverse, List.length_take]; omega⟩
  · cases h
theorem ftc_spec {pc : Nat} : ∀ {l : List CI} {e : CI}, ftc pc l = some e → e ∈ l ∧ e.1 = pc
  | [], e, h => by cases h
  | a :: l, e, h => by
    unfold ftc at h
    split at h
    · next hp => cases h; exact ⟨List.mem_cons_self, hp⟩
    · obtain ⟨h1, h2⟩ := ftc_spec h
      exact ⟨List.mem_cons_of_mem _ h1, h2⟩
theorem rcv0 {ce : ME} {kd : KL} {as : List AV} (hk : me_kd ce = 0) (h : rcv ce kd as = true) : ∃ (k : Nat) (as' : List AV) (n : Nat), as = .inr (some k) :: as' ∧ 3 ≤ k ∧ kd[k]? = some (me_ix ce + 2, n) := by
  simp only [rcv, hk] at h
  split at h
  · next k as' =>
    simp only [Bool.and_eq_true, decide_eq_true_eq] at h
    obtain ⟨k3, h⟩ := h
    split at h
    · next c n hk =>
      simp only [decide_eq_true_eq] at h
      subst h
      exact ⟨k, as', n, rfl, k3, hk⟩
    · cases h
  · cases h
theorem rcv2 {ce : ME} {kd : KL} {as : List AV} (hk : me_kd ce = 2) (h : rcv ce kd as = true) : ∃ (k : Nat) (as' : List AV), as = .inr (some k) :: as' := by
  simp only [rcv, hk] at h
  split at h
  · next k as' => exact ⟨k, as', rfl⟩
  · cases h
section CALLS
variable {g : GX} {K : KX} {d : Nat} {me : ME} {Q : State → Prop} {c0 s0 pc : Nat} {L : LV} {S S' : List AV} {kd : KL} {F : FM} {P : PM} {rs : RS} {pg : Nat → Option ME}
theorem nx_run {ls : Array Slot} {H : Heap} {locs : List Loc} {st : List Value} (hL : LI K L ls) (hX : XI K locs) (hc0 : c0 ≤ kd.length) (hs0 : s0 ≤ ksz kd) (hmono : kd.length ≤ rs.2.1.length ∧ ksz kd ≤ ksz rs.2.1)
    (hrun : va_Run g.1 g.2.1 g.2.2.1 g.2.2.2.1 g.2.2.2.2.1 g.2.2.2.2.2.1 g.2.2.2.2.2.2.1 g.2.2.2.2.2.2.2.1 g.2.2.2.2.2.2.2.2.1 g.2.2.2.2.2.2.2.2.2 H locs (kd.length - c0) (ksz kd - s0) (rs.2.1.length - kd.length) (ksz rs.2.1 - ksz kd) (F0 g.2.2.2.2.2.1 pc ls st) (S'.map (gv K)) (fun _ oc t => oc = .returned (rs.1.map (gv K)) ∧ WI K rs.2.1 rs.2.2.1 rs.2.2.2 t.heap) (zA K))
    (nx : NX g K Q c0 s0 (pc + 3) L (psh rs.1 S') rs.2.1 rs.2.2.1 rs.2.2.2) : gW g H locs (kd.length - c0) (ksz kd - s0) Q (F0 g.2.2.2.2.2.1 pc ls st) := by
  intro T hT X
  obtain ⟨v, st₀, t, T', Lc, e1, X', hLc, e2, e3, ⟨e4, e5⟩, hgo⟩ := hrun T hT X
  have e4 : v = rs.1.map (gv K) := by cases e4; rfl
  subst e4
  rw [show kd.length - c0 + (rs.2.1.length - kd.length) = rs.2.1.length - c0 by omega, show ksz kd - s0 + (ksz rs.2.1 - ksz kd) = ksz rs.2.1 - s0 by omega] at X'
  obtain ⟨t', a1, b1⟩ := nx ls T'.heap (locs ++ Lc) hL (by rw [e2]; exact e5) (fun q hq => by
    rcases List.mem_append.mp hq with h | h
    · exact hX q h
    · exact hLc q h) T' rfl X'
  refine ⟨t', hgo t' ?_, b1⟩
  have e6 : (psh rs.1 S').map (gv K) = (rs.1.map (gv K)).toList ++ S'.map (gv K) := by
    cases rs.1 <;> rfl
  rw [e6] at a1
  exact a1
theorem nx_call {ce : ME} {ins : Instr} {ri : RI} {i : Nat} {as : List AV} {d' : Nat} (fx : Fx g K d me) (okc : OKM pg ce) (hd : decode (me_cc me) pc = .ok (ins, 3)) (ok : okJ pg me ins 3 ri = true) (hcal : cal ri ins = some i) (hpg : pg i = some ce) (hspl : spl (nar ce) S = some (as, S')) (h8 : S'.length ≤ 8) (hrcv : rcv ce kd as = true) (hM : Mth K g.2.1 ce as kd F P d' rs) (hdd : d' + 1 = d) (hml : L.length = me_ml me) (hc0 : c0 ≤ kd.length) (hs0 : s0 ≤ ksz kd) (hmono : kd.length ≤ rs.2.1.length ∧ ksz kd ≤ ksz rs.2.1) (hr : rs.2.1.length - c0 ≤ g.2.2.2.1.cells ∧ ksz rs.2.1 - s0 ≤ g.2.2.2.1.slots)
    (nx : NX g K Q c0 s0 (pc + 3) L (psh rs.1 S') rs.2.1 rs.2.2.1 rs.2.2.2) : NX g K Q c0 s0 pc L S kd F P := by
  intro ls H locs hL hW hX
  obtain ⟨q1, q2, q3, q4, q5, q6, q7, q8, q9, -⟩ := okc
  have hts := fx.2.2.2.2.1
  have hfr := fx.2.2.2.2.2.2.2.1
  have hlo := fx.2.2.2.2.2.2.2.2
  have hgood : GoodIn WL (wsm ce) := WL_GoodIn (fun w hw => by
    rcases List.mem_cons.mp hw with h | h
    · rw [h]; exact q4
    · exact h)
  obtain ⟨hS, hlen⟩ := spl_spec hspl
  have hblind : FrameBlind (fun (a : Array Value) (U : State) => a = (as.map (gv K)).toArray ∧ TF K U ∧ WI K kd F P U.heap) := fun a U g' mk h => ⟨h.1, TF_same (u := U) rfl h.2.1, h.2.2⟩
  have hfix : CallFix g.1 g.2.2.2.2.2.1 g.2.2.2.2.2.2.2.2.2 (me_cc me) (me_ml me) g.2.2.2.2.1 g.2.2.2.2.2.2.1 WL (me_y me).cls := ⟨fx.1, fx.2.1, fx.2.2.1, fx.2.2.2.1, hts⟩
  have hroom : kd.length - c0 + (rs.2.1.length - kd.length) ≤ g.2.2.2.1.cells ∧ ksz kd - s0 + (ksz rs.2.1 - ksz kd) ≤ g.2.2.2.1.slots := by omega
  have hW8 : 2 * (F0 g.2.2.2.2.2.1 pc ls (S.map (gv K))).monitorRoom + ((S'.map (gv K)).map fun v => v.category).sum ≤ 8 := lv_room (by rw [gv_cats]; exact h8)
  have hbase : (rs.2.1.length - kd.length = rs.2.1.length - kd.length ∧ ksz rs.2.1 - ksz kd = ksz rs.2.1 - ksz kd ∧ d' + 1 ≤ g.2.2.2.1.frames ∧ 8 + (me_ml ce + 11) + 39 * d' ≤ g.2.2.2.1.locals) := ⟨rfl, rfl, by omega, by omega⟩
  have hpay := pay_in hts hgood
  have hmem : Jvm.Cond.code (me_y ce) (me_cc ce) (me_ml ce) (me_rt ce) ∈ wsm ce := List.mem_cons_self
  have hsig : ∀ sig, parseMethodDescriptor (me_y ce).desc = some sig → me_na ce = sig.parameters.length := fun sig h => by
    rw [h] at q3
    exact (Option.some.inj q3).symm
  have hpost : ∀ U : State, U.heap = H → g.2.2.2.2.1.WarmedH U.vm → TF K U ∧ WI K kd F P U.heap := fun U hU hw => ⟨TF_warm hw fx.2.2.2.2.2.1, by rw [hU]; exact hW⟩
  unfold cal at hcal
  split at hcal
  · next idx =>
    cases hcal
    simp only [okJ, okC, hpg, Bool.and_eq_true, decide_eq_true_eq] at ok
    obtain ⟨-, ok0, okk, ok⟩ := ok
    rw [if_pos ok0] at ok
    obtain ⟨w1, w2, r, w3, w4⟩ := q6 okk
    obtain ⟨k, as', n, rfl, k3, hk⟩ := rcv0 okk hrcv
    have hat0 := hW.2.2.2.1 k _ k3 hk
    rw [cel_ob (ci_of w3)] at hat0
    obtain ⟨r', h1, cell, g1, g2, g3, -⟩ := hat0
    have hre : r' = r := Option.some.inj (h1.symm.trans w3)
    subst hre
    have hn : nar ce = me_na ce + 1 := by unfold nar; rw [okk]; rfl
    refine nx_run hL hX hc0 hs0 hmono (va_runV (C := (me_y ce).cls) (b := ad K k) (As := as'.map (gv K)) (n := me_na ce) hfix hM ⟨⟨hbase.1, hbase.2.1, hbase.2.2.1, hbase.2.2.2, hpay, hmem, hts _ q4, hts _ q5, q2, hsig, hts _ (wAt_in ok)⟩, hts _ w1, hts _ w2⟩ ⟨hblind, ⟨cell, g1, by rw [g3]; rfl, by rw [g2, ← w4]; exact (fx.2.2.2.2.2.1.2.1.1 _ _ w3).2.1⟩, fun U hU hw => ⟨rfl, hpost U hU hw⟩⟩ rfl (by rw [List.length_map]; simp at hlen; omega) (hL.1.trans hml) ?_ hW8 hd hroom) nx
    show S.map (gv K) = _
    rw [hS]
    simp [gv, va_rf]
  · next idx =>
    split at hcal
    · next h2 =>
      cases hcal
      simp only [okJ, Bool.and_eq_true, decide_eq_true_eq] at ok
      obtain ⟨-, ok⟩ := ok
      rw [if_neg (by omega), if_neg (by omega)] at ok
      simp only [okC, hpg, Bool.and_eq_true, decide_eq_true_eq] at ok
      obtain ⟨okk, ok⟩ := ok
      have w1 := q7 okk
      have hn : nar ce = me_na ce := by unfold nar; rw [okk]; rfl
      have hst : S.map (gv K) = (as.map (gv K)).reverse ++ S'.map (gv K) := by rw [hS]; simp
      split at ok
      · exact nx_run hL hX hc0 hs0 hmono (va_runS (As := as.map (gv K)) (n := me_na ce) hfix hM ⟨⟨hbase.1, hbase.2.1, hbase.2.2.1, hbase.2.2.2, hpay, hmem, hts _ q4, hts _ q5, q2, hsig, hts _ (wAt_in ok)⟩, hts _ w1⟩ ⟨hblind, fun U hU hw => ⟨rfl, hpost U hU hw⟩⟩ rfl (by rw [List.length_map]; omega) (hL.1.trans hml) hst hW8 hd hroom) nx
      · simp only [Bool.and_eq_true, decide_eq_true_eq] at ok
        have hN := fx.2.2.2.2.2.1.2.2.1 _ (nAt_in ok.2)
        exact nx_run hL hX hc0 hs0 hmono (va_runSN (As := as.map (gv K)) (n := me_na ce) (host := RNG) hfix hM ⟨⟨⟨hbase.1, hbase.2.1, hbase.2.2.1, hbase.2.2.2, hpay, hmem⟩, hts _ q4, hts _ q5, q2, hsig, va_Nw.use rfl hN⟩, hts _ w1, trivial⟩ ⟨hblind, fun U hU hw => ⟨rfl, hpost U hU hw⟩⟩ rfl (by rw [List.length_map]; omega) (hL.1.trans hml) hst hW8 hd hroom) nx
    · cases hcal
  · next idx =>
    split at hcal
    · next h2 =>
      cases hcal
      simp only [okJ, Bool.and_eq_true, decide_eq_true_eq] at ok
      obtain ⟨-, ok⟩ := ok
      rw [if_neg (by omega)] at ok
      simp only [okC, hpg, Bool.and_eq_true, decide_eq_true_eq] at ok
      obtain ⟨okk, ok⟩ := ok
      obtain ⟨w1, w2, w3⟩ := q8 okk
      have hn : nar ce = me_na ce + 1 := by unfold nar; rw [okk]; rfl
      obtain ⟨k, as', rfl⟩ := rcv2 okk hrcv
      have hst : S.map (gv K) = (as'.map (gv K)).reverse ++ .ref (ad K k) :: S'.map (gv K) := by rw [hS]; simp [gv, va_rf]
      rw [w3] at hmem q4
      split at ok
      · exact nx_run hL hX hc0 hs0 hmono (va_runI (b := ad K k) (As := as'.map (gv K)) (n := me_na ce) hfix hM ⟨⟨hbase.1, hbase.2.1, hbase.2.2.1, hbase.2.2.2, hpay, hmem, hts _ q4, hts _ q5, q2, hsig, hts _ (wAt_in ok)⟩, w2, hts _ w1⟩ ⟨hblind, fun U hU hw => ⟨rfl, hpost U hU hw⟩⟩ rfl (by rw [List.length_map]; simp at hlen; omega) (hL.1.trans hml) hst hW8 hd hroom) nx
      · simp only [Bool.and_eq_true, decide_eq_true_eq] at ok
        have hN := fx.2.2.2.2.2.1.2.2.1 _ (nAt_in ok.2)
        exact nx_run hL hX hc0 hs0 hmono (va_runIN (b := ad K k) (As := as'.map (gv K)) (n := me_na ce) (host := RNG) hfix hM ⟨⟨⟨hbase.1, hbase.2.1, hbase.2.2.1, hbase.2.2.2, hpay, hmem⟩, hts _ q4, hts _ q5, q2, hsig, va_Nw.use rfl hN⟩, w2, hts _ w1⟩ ⟨hblind, fun U hU hw => ⟨rfl, hpost U hU hw⟩⟩ rfl (by rw [List.length_map]; simp at hlen; omega) (hL.1.trans hml) hst hW8 hd hroom) nx
    · cases hcal
  · cases hcal
end CALLS
def OKR (kd : KL) (rs : RS) : Prop := (∀ v, rs.1 = some v → okv v) ∧ (∀ k j, inb (rs.2.2.1 k j)) ∧ kd.length ≤ rs.2.1.length ∧ ksz kd ≤ ksz rs.2.1
def FIN (g : GX) (K : KX) (Q : State → Prop) (c0 s0 : Nat) (me : ME) (rs : RS) : Prop := ∀ (pc : Nat) (ins : Instr) (S : List AV) (ls : Array Slot) (H : Heap) (locs : List Loc), decode (me_cc me) pc = .ok (ins, 1) → isFin ins = true → fin (me_rt me) ins S = some rs.1 → WI K rs.2.1 rs.2.2.1 rs.2.2.2 H → XI K locs → gW g H locs (rs.2.1.length - c0) (ksz rs.2.1 - s0) Q (F0 g.2.2.2.2.2.1 pc ls (S.map (gv K)))
def CFok (pg : Nat → Option ME) (d : Nat) (cf : CF) : Prop := ∀ (i : Nat) (as : List AV) (kd : KL) (F : FM) (P : PM) (rs : RS), cf i as kd F P = some rs → (∀ v ∈ as, okv v) → (∀ k j, inb (F k j)) → OKR kd rs ∧ ∀ ce, pg i = some ce → ∀ (K : KX) (l : Launch), ∃ d', d' + 1 = d ∧ Mth K l ce as kd F P d' rs
theorem fin_ok {rt : Option FieldType} {ins : Instr} {S : List AV} {r : Option AV} (h : fin rt ins S = some r) (hS : ∀ v ∈ S, okv v) : ∀ v, r = some v → okv v := by
  intro v hv
  subst hv
  unfold fin at h
  split at h
  · split at h
    · split at h
      · cases h; exact hS _ List.mem_cons_self
      · cases h
    · cases h
  · split at h
    · split at h
      · cases h; exact trivial
      · cases h
    · cases h
  · split at h
    · split at h <;> cases h
    · cases h
  · cases h
theorem len3_of {pg : Nat → Option ME} {me : ME} {ins : Instr} {len i : Nat} {ri : RI} (ok : okJ pg me ins len ri = true) (hc : cal ri ins = some i) : len = 3 := by
  unfold cal at hc
  split at hc <;> first | (simp only [okJ, Bool.and_eq_true, decide_eq_true_eq] at ok; exact ok.1) | cases hc
theorem len1_of {pg : Nat → Option ME} {me : ME} {ins : Instr} {len : Nat} {ri : RI} (ok : okJ pg me ins len ri = true) (hc : isFin ins = true) : len = 1 := by
  unfold isFin at hc
  split at hc <;> first | (simp only [okJ, decide_eq_true_eq] at ok; exact ok) | cases hc
theorem okJ_cal {pg : Nat → Option ME} {me : ME} {ins : Instr} {len i : Nat} {ri : RI} (ok : okJ pg me ins len ri = true) (hc : cal ri ins = some i) : i = ri.1 := by
  unfold cal at hc
  split at hc
  · cases hc; rfl
  · split at hc <;> cases hc; rfl
  · split at hc <;> cases hc; rfl
  · cases hc
set_option maxHeartbeats 2000000 in
theorem go_sound {pg : Nat → Option ME} {d : Nat} {cf : CF} {me : ME} (gw : GWs) (okall : ∀ i ce, pg i = some ce → OKM pg ce) (okme : ∀ e ∈ me_ci me, okI pg me e = true) (hcf : CFok pg d cf) : ∀ (f pc : Nat) (L : LV) (S : List AV) (kd : KL) (F : FM) (P : PM) (rs : RS), go pg d cf me f pc L S kd F P = some rs → AK me L S F →
    OKR kd rs ∧ ∀ (g : GX) (K : KX) (Q : State → Prop) (c0 s0 : Nat), Fx g K d me → c0 ≤ kd.length → s0 ≤ ksz kd → (rs.2.1.length - c0 ≤ g.2.2.2.1.cells ∧ ksz rs.2.1 - s0 ≤ g.2.2.2.1.slots) → FIN g K Q c0 s0 me rs → NX g K Q c0 s0 pc L S kd F P := by
  intro f
  induction f with
  | zero => intro pc L S kd F P rs h; cases h
  | succ f ih =>
    intro pc L S kd F P rs h ak
    unfold go at h
    split at h
    · cases h
    · next e he =>
      obtain ⟨hmem, hpc⟩ := ftc_spec he
      have hok := okme e hmem
      simp only [okI, Bool.and_eq_true, decide_eq_true_eq] at hok
      obtain ⟨⟨hd, ok⟩, om⟩ := hok
      rw [hpc] at hd h om
      split at h
      · next hf =>
        split at h
        · next r hr =>
          cases h
          refine ⟨⟨fin_ok hr ak.2.1, ak.2.2.2, Nat.le_refl _, Nat.le_refl _⟩, fun g K Q c0 s0 fx _ _ _ hfin => ?_⟩
          rw [len1_of ok hf] at hd
          exact fun ls H locs _ hW hX => hfin pc _ S ls H locs hd hf hr hW hX
        · cases h
      · split at h
        · next i hi =>
          have hl3 := len3_of ok hi
          rw [hl3] at hd ok
          split at h
          · cases h
          · next ce hce =>
            split at h
            · cases h
            · next as S' hspl =>
              split at h
              · next hb =>
                split at h
                · cases h
                · next r kd1 F1 P1 hcall =>
                  obtain ⟨hS, hlen⟩ := spl_spec hspl
                  have has : ∀ v ∈ as, okv v := fun v hv => ak.2.1 v (by rw [hS]; exact List.mem_append_left _ (List.mem_reverse.mpr hv))
                  have hS' : ∀ v ∈ S', okv v := fun v hv => ak.2.1 v (by rw [hS]; exact List.mem_append_right _ hv)
                  obtain ⟨⟨o1, o2, o3, o4⟩, hM⟩ := hcf i as kd F P _ hcall has ak.2.2.2
                  have ak1 : AK me L (psh r S') F1 := by
                    refine ⟨ak.1, ?_, ak.2.2.1, o2⟩
                    unfold psh
                    split
                    · next v => exact List.forall_mem_cons.mpr ⟨o1 v rfl, hS'⟩
                    · exact hS'
                  obtain ⟨⟨p1, p2, p3, p4⟩, hgo⟩ := ih _ _ _ _ _ _ _ h ak1
                  dsimp only at o3 o4
                  refine ⟨⟨p1, p2, by omega, by omega⟩, fun g K Q c0 s0 fx h1 h2 hr hfin => ?_⟩
                  obtain ⟨d', hdd, hM'⟩ := hM ce hce K g.2.1
                  exact nx_call fx (okall i ce hce) hd ok hi hce hspl hb.1 hb.2 hM' hdd ak.1 h1 h2 ⟨o3, o4⟩ (by dsimp only; omega) (hgo g K Q c0 s0 fx (by omega) (by omega) hr hfin)
              · cases h
        · split at h
          · cases h
          · next pc' L' S' kd' F' P' hst =>
            obtain ⟨p1, p2, p3, p4⟩ := (ih _ _ _ _ _ _ _ h (stp_sound (c0 := 0) (s0 := 0) gw hd ok om hst ak).1.1).1
            obtain ⟨hak, hm1, hm2⟩ := (stp_sound (c0 := 0) (s0 := 0) gw hd ok om hst ak).1
            refine ⟨⟨p1, p2, by omega, by omega⟩, fun g K Q c0 s0 fx h1 h2 hr hfin => ?_⟩
            exact (stp_sound gw hd ok om hst ak).2 g K Q fx h1 h2 (by omega) ((ih _ _ _ _ _ _ _ h hak).2 g K Q c0 s0 fx (by omega) (by omega) hr hfin)
theorem lv_args_in {K : KX} : ∀ (as : List AV) (j i : Nat) (v : AV), as[i]? = some v → (j + i, gv K v) ∈ lv_args j (as.map (gv K))
  | [], j, i, v, h => by simp at h
  | a :: as, j, 0, v, h => by
    cases h
    exact List.mem_cons_self
  | a :: as, j, i + 1, v, h => by
    rw [List.getElem?_cons_succ] at h
    have e := lv_args_in (K := K) as (j + 1) i v h
    show _ ∈ (_ :: lv_args (if (gv K a).category = 2 then j + 2 else j + 1) (as.map (gv K)))
    rw [gv_cat, if_neg (by decide), show j + (i + 1) = j + 1 + i by omega]
    exact List.mem_cons_of_mem _ e
theorem lg_len {K : KX} : ∀ (as : List AV), (lg_sl (as.map (gv K))).length = as.length
  | [] => rfl
  | a :: as => by
    have e := lg_len (K := K) as
    unfold lg_sl at e ⊢
    rw [List.map_cons, List.flatMap_cons, gv_cat, if_neg (by decide), List.length_append, e]
    simp; omega
def L0 (as : List AV) (n : Nat) : LV := as.map some ++ List.replicate (n - as.length) none
theorem L0_get {as : List AV} {n i : Nat} {v : AV} (h : (L0 as n)[i]? = some (some v)) : as[i]? = some v := by
  unfold L0 at h
  by_cases hi : i < as.length
  · rw [List.getElem?_append_left (by simp; exact hi), List.getElem?_map] at h
    cases hq : as[i]? with
    | none => rw [hq] at h; cases h
    | some w => rw [hq] at h; cases h; rfl
  · rw [List.getElem?_append_right (by simp; omega), List.getElem?_replicate] at h
    split at h <;> cases h
theorem LI_entry {K : KX} {as : List AV} {n : Nat} (h : as.length ≤ n) : LI K (L0 as n) ((lg_sl (as.map (gv K)) ++ List.replicate (n - (lg_sl (as.map (gv K))).length) Slot.unset).toArray) := by
  have e := lv_entry (as.map (gv K)) (n := n) (by rw [lg_len]; exact h)
  refine ⟨by rw [e.1]; unfold L0; simp; omega, e.2.1, fun i v hi => ?_⟩
  have h1 := lv_args_in (K := K) as 0 i v (L0_get hi)
  rw [Nat.zero_add] at h1
  exact e.2.2 _ h1
theorem Mth_of {pg : Nat → Option ME} {d : Nat} {cf : CF} {me : ME} {K : KX} {l : Launch} {f : Nat} {as : List AV} {kd : KL} {F : FM} {P : PM} {rs : RS} (gw : GWs) (okall : ∀ i ce, pg i = some ce → OKM pg ce) (okm : OKM pg me) (hcf : CFok pg d cf) (hlen : as.length ≤ me_ml me) (has : ∀ v ∈ as, okv v) (hF : ∀ k j, inb (F k j)) (h : go pg d cf me f 0 (L0 as (me_ml me)) [] kd F P = some rs) : OKR kd rs ∧ Mth K l me as kd F P d rs := by
  have ak : AK me (L0 as (me_ml me)) [] F := ⟨by unfold L0; simp; omega, fun v hv => absurd hv List.not_mem_nil, fun i v hi => has v (List.mem_of_getElem? (L0_get hi)), hF⟩
  obtain ⟨h1, h2⟩ := go_sound gw okall okm.2.2.2.2.2.2.2.2.2 hcf f 0 _ _ _ _ _ _ h ak
  refine ⟨h1, ?_⟩
  refine Met.ofW (cc := me_cc me) (maxL := me_ml me) (ret := me_rt me) okm.1 rfl ?_
  intro p e s m args below meth c s₁ B hml hv
  obtain ⟨rfl, hT, hW⟩ := hv
  have hts := atoms_spec (ws := wsm me) B.pre
  have fx : Fx (p, l, e, ({ frames := d, cells := rs.2.1.length - kd.length, slots := ksz rs.2.1 - ksz kd, locals := 39 * d } : Room), s, m, (as.map (gv K)).toArray, below, meth, c) K d me :=
    ⟨B.exec, B.bytes, hml, findClass_of_methodNamed B.named, fun w hw => hts w (List.mem_cons_of_mem _ hw), hT, fun hn => (name_of_methodNamed B.named B.method).1.trans hn, Nat.le_refl _, Nat.le_refl _⟩
  have hr := B.returns
  have hlocks := B.notSynchronized
  have key := h2 _ K (MQ below (fun _ _ oc t => oc = .returned (rs.1.map (gv K)) ∧ WI K rs.2.1 rs.2.2.1 rs.2.2.2 t.heap) (as.map (gv K)).toArray s (rs.2.1.length - kd.length) (ksz rs.2.1 - ksz kd) (zA K)) kd.length (ksz kd) fx (Nat.le_refl _) (Nat.le_refl _) ⟨Nat.le_refl _, Nat.le_refl _⟩ ?_ _ _ [] (LI_entry hlen) hW (fun q hq => absurd hq List.not_mem_nil)
  · rw [Nat.sub_self, Nat.sub_self] at key
    rw [lg_entry_eq]
    exact key
  · intro pc ins S ls H locs hd hf hfin hW1 hX
    unfold fin at hfin
    split at hfin
    · split at hfin
      · next v =>
        split at hfin
        · next hb =>
          have hfin := Option.some.inj hfin
          rcases hb with hb | ⟨hb, hv⟩
          · rw [hb] at hr
            exact W.iret fx.1 fx.2.1 hr (fun t ht _ => ⟨by rw [← hfin]; rfl, by rw [ht]; exact hW1⟩) hX hd hlocks
          · rw [hb] at hr
            refine W.zret (ty := .boolean) fx.1 fx.2.1 hr ?_ (fun t ht _ => ⟨by rw [← hfin]; rfl, by rw [ht]; exact hW1⟩) hX hd hlocks
            rcases hv with hv | hv <;> rw [hv] <;> decide
        · cases hfin
      · cases hfin
    · split at hfin
      · next v =>
        split at hfin
        · next n hb =>
          have hfin := Option.some.inj hfin
          rw [hb] at hr
          refine W.aret fx.1 fx.2.1 hr (Or.inl ⟨_, rfl⟩) ?_ (fun t ht _ => ⟨by rw [← hfin]; rfl, by rw [ht]; exact hW1⟩) hX hd hlocks
          cases v
          · exact Or.inl rfl
          · exact Or.inr ⟨_, rfl⟩
        · cases hfin
      · cases hfin
    · split at hfin
      · split at hfin
        · next hb =>
          have hfin := Option.some.inj hfin
          rw [hb] at hr
          exact W.vret fx.1 fx.2.1 hr (fun t ht _ => ⟨by rw [← hfin]; rfl, by rw [ht]; exact hW1⟩) hX hd hlocks
        · cases hfin
      · cases hfin
    · cases hfin
theorem lvl_sound {pg : Nat → Option ME} (gw : GWs) (okall : ∀ i ce, pg i = some ce → OKM pg ce) (f : Nat) : ∀ d, CFok pg d (lvl pg d f)
  | 0 => fun i as kd F P rs h => by cases h
  | d + 1 => fun i as kd F P rs h has hF => by
    have ih := lvl_sound gw okall f d
    unfold lvl at h
    split at h
    · cases h
    · next me hme =>
      split at h
      · next hb =>
        have h0 := fun (K : KX) (l : Launch) => Mth_of (K := K) (l := l) gw okall (okall i me hme) ih hb.2 has hF h
        refine ⟨?_, fun ce hce K l => ⟨d, rfl, ?_⟩⟩
        · exact (go_sound gw okall (okall i me hme).2.2.2.2.2.2.2.2.2 ih f 0 _ _ _ _ _ _ h ⟨by simp; omega, fun v hv => absurd hv List.not_mem_nil, fun i v hi => has v (List.mem_of_getElem? (L0_get hi)), hF⟩).1
        · cases hme.symm.trans hce
          exact (h0 K l).2
      · cases h
