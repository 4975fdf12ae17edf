/-! THE CLAIM OUT OF ONE WALK OF THE LAW'S BODY. Your part is whole_start (and what it stands on); all else here is the same for every law, but numbers. -/
def R_law : String := "HiddenBidsLaw"
def lw_P (b : Addr) (xs : List Int32) (args : Array Value) (s : State) : Prop := args = #[.ref b] ∧ s.IntsAt b xs ∧ xs.length ≤ 260 ∧ (Jvm.Cond.and given_1 narrow_1).before args s = true
def lw_Q (_ : Array Value) (s : State) (o : Outcome) (t : State) : Prop := o = .returned (some (.int 1)) ∧ Framed s o t [] 600000 7302250
def lw_Z (below : List Frame) (a : Array Value) (s : State) : State → Prop := fun t => ∃ o, t.status = .running ∧ Ended t below o ∧ lw_Q a s o t
/-- the law's own end, with 1 on the stack, nothing written that was there before, its room as the claim has it -/
theorem lw_ret {p : Program} {l : Launch} {e : Env} {s : State} {m : MethodId} {below : List Frame} {meth : Method} {c : Code} {b : Nat} (hx : p.tables.exec = Jvm.exec) (hb : c.code = code) (hr : meth.sig.returnType = ret) (hlocks : meth.locks = false) {pc : Nat} {H : Heap} {ls : Array Slot} (hdg : decode code pc = .ok (.ireturn, 1)) : W p l e room_1 s m #[Value.ref b] below meth c H [] 600000 7302250 (lw_Z below #[Value.ref b] s) (F0 m pc ls [.int 1]) := by
  intro T hT X
  obtain ⟨fs, hret, hrun, hended, hW, hframe⟩ := X.leave (v := some (.int 1)) (hlocks := hlocks) (fun h => by rw [hr] at h; cases h)
  have hmeth' : T.vm.method? m = some meth := X.method'
  refine ⟨T.setFrames fs, ?_, .returned (some (.int 1)), hrun, hended, rfl, ⟨_, rfl⟩, hW, hframe⟩
  jvm_step X.here [X.here.top, hx, hb, hdg, hmeth', hr, ret, narrow_b1]
  (try refine ⟨rfl, ?_⟩); (try refine ⟨rfl, ?_⟩)
  first | (intro acts; rw [hret _ acts rfl rfl rfl]) | rw [hret _ _ rfl rfl rfl]
  exact Steps.refl _
/-- what holds at the law's entry: the machine, the code, the tables' words (any of lw_tbl by 'hts w (by decide +kernel)'), the script of L ints xs at the cell b, what the Statement gives of the start (any of its parts by flat_of_before) -/
def lw_At (p : Program) (s : State) (m : MethodId) (meth : Method) (c : Code) (b L : Nat) (xs : Nat → Int32) : Prop :=
  p.tables.exec = Jvm.exec ∧ c.code = code ∧ meth.sig.returnType = ret ∧ c.maxLocals = 12 ∧ s.vm.findClass R_law = some m.cls ∧ (∀ w ∈ lw_tbl, w.before #[Value.ref b] s = true) ∧ va_X b L xs s s.heap ∧ b < s.heap.size ∧ meth.locks = false ∧ (Jvm.Cond.and given_1 narrow_1).before #[Value.ref b] s = true

/-- the rows that are there before: the script, the two constant rows -/
def F1r (j : Int) : Int := if j = 0 then 1 else if j = 1 then 0 else if j = 2 then 1 else 0
def F2r (j : Int) : Int := if j = 0 then 5 else if j = 1 then 5 else if j = 2 then 1 else 0
def F00 (xf : Int → Int) : FM := fun k j => match k with
  | 0 => xf j
  | 1 => F1r j
  | 2 => F2r j
  | _ => 0
def kd0 (L : Nat) : KL := [(0, L), (0, 3), (0, 3)]
/-- what is left to show of the system: a pure statement about the interpreter -/
def PURE : Prop := ∀ (L : Nat) (xf : Int → Int), L ≤ 260 → (∀ j, inb (xf j)) → ∃ (f : Nat) (rs : RS), go pg 7 (lvl pg 7 f) mL_law f 0 (L0 [.inr (some 0)] 12) [] (kd0 L) (F00 xf) (fun _ _ => none) = some rs ∧ rs.1 = some (.inl 1) ∧ rs.2.1.length - 3 ≤ 600000 ∧ ksz rs.2.1 - (L + 6) ≤ 7302250
theorem u_ex {s : State} {args : Array Value} (hts : ∀ w ∈ lw_tbl, w.before args s = true) (c : Nat) : ∃ q : ClassId × (Nat → Nat), ∀ r, vwCl[c]? = some r → u_Kn s r.1 r.2.1 r.2.2 q.1 q.2 := by
  cases h : vwCl[c]? with
  | none => exact ⟨(0, fun _ => 0), fun r hr => by cases hr⟩
  | some r =>
    obtain ⟨h1, h2, -⟩ := gws.1 c r h
    obtain ⟨cC, iS, hK⟩ := u_known (C := r.1) (T := r.2.1) (N := r.2.2) (n := r.2.2) hts (fun w hw => WL_lw (h1 w hw)) (hts _ (WL_lw h2))
    exact ⟨(cC, iS), fun r' hr' => by cases hr'; exact hK⟩
set_option maxRecDepth 20000 in
theorem st_row {args : Array Value} {s : State} {A : Nat → Prop} {nm : String} {f : Int → Int} (hl : (Jvm.Cond.laysStatic "HiddenBids" nm "[I").before args s = true) (hini : (Jvm.Cond.initialized "HiddenBids").before args s = true) (harr : (Jvm.Cond.arrayOf (.static "HiddenBids" nm "[I") .int).before args s = true) (hlen : (Jvm.Cond.eq (.length (.static "HiddenBids" nm "[I")) (.int 3)).before args s = true) (h0 : (Jvm.Cond.eq (.elem (.static "HiddenBids" nm "[I") (.int 0)) (.int (i32 (f 0)))).before args s = true) (h1 : (Jvm.Cond.eq (.elem (.static "HiddenBids" nm "[I") (.int 1)) (.int (i32 (f 1)))).before args s = true) (h2 : (Jvm.Cond.eq (.elem (.static "HiddenBids" nm "[I") (.int 2)) (.int (i32 (f 2)))).before args s = true) (hA : ∀ a : Nat, a < s.heap.size → ¬ A a) :
    ∃ t : Nat, va_Z "HiddenBids" nm "[I" (.ref t) A s s.heap ∧ va_T .int t 3 (fun j => .int (i32 (f (j : Int)))) A s s.heap := by
  obtain ⟨t, e1, e2⟩ := va_Tof (N := 3) (f := fun j => .int (i32 (f (j : Int)))) (A := A) (by decide) harr (va_eqt hlen) (fun j hj => by
    match j, hj with
    | 0, _ => exact va_eqt h0
    | 1, _ => exact va_eqt h1
    | 2, _ => exact va_eqt h2) hA
  exact ⟨t, va_Zref hl hini e1 hA, e2⟩
set_option maxRecDepth 20000 in
set_option maxHeartbeats 1000000 in
theorem whole_of (hpure : PURE) {p : Program} {e : Env} {s : State} {m : MethodId} {below : List Frame} {meth : Method} {c : Code} (l : Launch) {b L : Nat} {xs : Nat → Int32} (hL : L ≤ 260) (C0 : lw_At p s m meth c b L xs) : W p l e room_1 s m #[Value.ref b] below meth c s.heap [] 0 0 (lw_Z below #[Value.ref b] s) (entryFrame m ([Value.ref b] : List Value).toArray 12) := by
  obtain ⟨hx, hb, hr, hml, hown, hts, hX, hbl, hlocks, hgv⟩ := C0
  have hg := flat_of_before _ hgv
  obtain ⟨f, rs, hgo, hr1, hr2, hr3⟩ := hpure L (fun j => (xs j.toNat).toInt) hL (fun j => inb_toInt _)
  obtain ⟨cI, kI', compI, a1, a2, a3⟩ := Cond.arrayClass_spec (hts _ (WL_lw gws.2.2.2.2.1))
  obtain ⟨cLg, kL', compL, l1, l2, l3⟩ := Cond.arrayClass_spec (hts _ (WL_lw gws.2.2.2.2.2.1))
  obtain ⟨compR, cR, kR, b1, -, b2, b3, b4⟩ := Cond.arrayOver_spec (hts (.arrayOver (.object RX5)) (List.mem_of_getElem? (i := 28) (by decide +kernel)))
  have hAn : ∀ a : Nat, a < s.heap.size → ¬ (fun q => s.heap.size ≤ q) a := fun a h h2 => absurd h (Nat.not_lt.mpr h2)
  obtain ⟨t1, z1, r1⟩ := st_row (nm := "FIRST_SETTINGS") (f := F1r) (A := fun q => s.heap.size ≤ q) (hts _ (List.mem_of_getElem? (i := 75) (by decide +kernel))) (hts _ (List.mem_of_getElem? (i := 3) (by decide +kernel))) (hg _ (by decide +kernel)) (hg _ (by decide +kernel)) (hg _ (by decide +kernel)) (hg _ (by decide +kernel)) (hg _ (by decide +kernel)) hAn
  obtain ⟨t2, z2, r2⟩ := st_row (nm := "GREATEST_SETTINGS") (f := F2r) (A := fun q => s.heap.size ≤ q) (hts _ (List.mem_of_getElem? (i := 433) (by decide +kernel))) (hts _ (List.mem_of_getElem? (i := 3) (by decide +kernel))) (hg _ (by decide +kernel)) (hg _ (by decide +kernel)) (hg _ (by decide +kernel)) (hg _ (by decide +kernel)) (hg _ (by decide +kernel)) hAn
  let K : KX := (s.heap.size, (fun k => if k = 0 then b else if k = 1 then t1 else t2), (fun c => (Classical.choose (u_ex hts c)).1), (fun c => (Classical.choose (u_ex hts c)).2), cI, cR, s.heap, (fun k => if k = 0 then L else 3), F00 (fun j => (xs j.toNat).toInt), cLg)
  have hTF : TF K s := by
    refine ⟨rfl, ⟨fun c q hq => Classical.choose_spec (u_ex hts c) q hq, fun k q hq => ?_⟩, ?_, hts (.arrayOver (.object RX5)) (List.mem_of_getElem? (i := 28) (by decide +kernel)), fun k hk => ?_, z1, z2⟩
    · match k, hq with
      | 0, hq =>
        cases hq
        exact ⟨fun n z => ⟨fun k h => (by cases h), kI', a2, compI, a3⟩, a1⟩
      | 1, hq =>
        cases hq
        exact ⟨fun n z => ⟨fun k h => (by cases h), kR, b2, compR, b3⟩, kR, compR, b2, b3, b1, b4⟩
      | 2, hq =>
        cases hq
        exact ⟨fun n z => ⟨fun k h => (by cases h), kL', l2, compL, l3⟩, l1⟩
      | k + 3, hq => simp at hq
    · have hn : ∀ w ∈ NWs, w ∈ lw_tbl := by
        simp only [NWs, List.forall_mem_cons]
        exact ⟨List.mem_of_getElem? (i := 36) (by decide +kernel), List.mem_of_getElem? (i := 53) (by decide +kernel), List.mem_of_getElem? (i := 167) (by decide +kernel), List.mem_of_getElem? (i := 196) (by decide +kernel), List.mem_of_getElem? (i := 228) (by decide +kernel), List.mem_of_getElem? (i := 233) (by decide +kernel), List.mem_of_getElem? (i := 74) (by decide +kernel), List.mem_of_getElem? (i := 432) (by decide +kernel), fun _ h => absurd h List.not_mem_nil⟩
      exact fun w hw => va_Nw.of (NWs_tab w hw) (hts w (hn w hw))
    · match k, hk with
      | 0, _ =>
        obtain ⟨scr, h1, h2, h3, h4, h5⟩ := hX
        refine ⟨scr, h1, h2, h3, by show L ≤ _; omega, by show scr.slots.size.toInt32 = Int32.ofNat L; rw [h4], fun j hj => ?_, hAn b hbl⟩
        have hj : j < L := hj
        show _ = some (Value.int (i32 (xs ((j : Int).toNat)).toInt))
        rw [i32_of, Int.toNat_natCast]
        exact h5 j hj
      | 1, _ => exact r1
      | 2, _ => exact r2
  have fx : Fx (p, l, e, room_1, s, m, #[Value.ref b], below, meth, c) K 7 mL_law :=
    ⟨hx, hb, hml, hown, fun w hw => hts w (WL_lw hw), hTF, fun h => absurd h (by decide +kernel), (by show 7 ≤ room_1.frames; decide), (by show 273 ≤ room_1.locals; decide)⟩
  have hWI : WI K (kd0 L) (F00 (fun j => (xs j.toNat).toInt)) (fun _ _ => none) s.heap := by
    refine ⟨Nat.le_refl 3, rfl, fun _ _ => rfl, fun k e' h3 hk => ?_, fun k hk => ?_⟩
    · have := (List.getElem?_eq_some_iff.mp hk).1
      simp [kd0] at this
      omega
    · match k, hk with
      | 0, _ => exact ⟨rfl, rfl⟩
      | 1, _ => exact ⟨rfl, rfl⟩
      | 2, _ => exact ⟨rfl, rfl⟩
  have hak : AK mL_law (L0 [.inr (some 0)] 12) [] (F00 (fun j => (xs j.toNat).toInt)) := by
    refine ⟨rfl, fun v hv => absurd hv List.not_mem_nil, fun i v hi => ?_, fun k j => ?_⟩
    · have h := List.mem_of_getElem? (L0_get hi)
      rw [List.mem_singleton] at h
      rw [h]
      trivial
    · unfold F00
      split
      · exact inb_toInt _
      · unfold F1r; split <;> (try split) <;> (try split) <;> (unfold inb; omega)
      · unfold F2r; split <;> (try split) <;> (try split) <;> (unfold inb; omega)
      · exact inb_0
  have key := (go_sound (me := mL_law) gws okall iL_law (lvl_sound gws okall f 7) f 0 _ _ _ _ _ _ hgo hak).2 _ K (lw_Z below #[Value.ref b] s) 3 (L + 6) fx (Nat.le_refl 3) (by simp [ksz, kd0]) ⟨hr2, hr3⟩ ?_ _ _ [] (LI_entry (as := [.inr (some 0)]) (n := 12) (by decide)) hWI (fun q hq => absurd hq List.not_mem_nil)
  · rw [show (kd0 L).length - 3 = 0 from rfl, show ksz (kd0 L) - (L + 6) = 0 by simp [ksz, kd0]] at key
    rw [lg_entry_eq]
    exact key
  · intro pc ins S ls H locs hd hf hfin _ hXI
    rw [hr1] at hfin
    unfold fin at hfin
    split at hfin
    · split at hfin
      · next v =>
        split at hfin
        · have hv : v = 1 := by cases hfin; rfl
          subst hv
          refine va_forget (fun q hq => hXI q hq) ?_
          refine W.widen (k := 600000) (n := 7302250) hr2 hr3 ?_
          exact lw_ret hx hb hr hlocks hd
        · cases hfin
      · cases hfin
    · split at hfin
      · split at hfin <;> cases hfin
      · cases hfin
    · split at hfin
      · split at hfin <;> cases hfin
      · cases hfin
    · cases hfin
