/-! LONG NUMBERS: a row of them, and some instructions at once -/
def l64 (i : Int) : Int64 := Int64.ofInt i
theorem l64_toInt {i : Int} (h0 : -9223372036854775808 ≤ i) (h1 : i < 9223372036854775808) : (l64 i).toInt = i := Int64.toInt_ofInt_of_le (by omega) (by omega)
theorem l64_of32 {r : Int} (h : inb r) : (i32 r).toInt64 = l64 r := by
  unfold inb at h
  rw [← Int64.toInt_inj, Int32.toInt_toInt64, i32_toInt h, l64_toInt (by omega) (by omega)]
theorem l64_to32 (r : Int) : (l64 r).toInt32 = i32 r := Int64.toInt32_ofInt
theorem l64_add (a b : Int) : l64 (a + b) = l64 a + l64 b := Int64.ofInt_add a b
theorem l64_mul (a b : Int) : l64 (a * b) = l64 a * l64 b := Int64.ofInt_mul a b
theorem l64_bits {v : Int} (h0 : 0 ≤ v) (h1 : v < 4294967296) : (l64 v).toBitVec = BitVec.ofNat 64 v.toNat := by
  obtain ⟨n, rfl⟩ : ∃ n : Nat, v = n := ⟨v.toNat, by omega⟩
  rw [Int.toNat_natCast]
  exact BitVec.ofInt_natCast 64 n
theorem l64_and {v : Int} (h0 : 0 ≤ v) (h1 : v < 4294967296) : l64 v &&& 255 = l64 (v % 256) := by
  rw [← Int64.toBitVec_inj, Int64.toBitVec_and, l64_bits h0 h1, l64_bits (by omega) (by omega)]
  apply BitVec.eq_of_toNat_eq
  rw [BitVec.toNat_and, BitVec.toNat_ofNat, BitVec.toNat_ofNat]
  show v.toNat % 2 ^ 64 &&& (255 : Nat) = _
  rw [show (255 : Nat) = 2 ^ 8 - 1 by decide, Nat.and_two_pow_sub_one_eq_mod]
  omega
theorem l64_shr {v : Int} {n : Nat} {y : Int64} (h0 : 0 ≤ v) (h1 : v < 4294967296) (hy : y.toBitVec.smod 64 = BitVec.ofNat 64 n) (hn : n < 64) : l64 v >>> y = l64 (v / ((2 ^ n : Nat) : Int)) := by
  have h3 : (0 : Int) < ((2 ^ n : Nat) : Int) := by exact_mod_cast Nat.two_pow_pos n
  have h4 := Int.ediv_nonneg h0 (Int.le_of_lt h3)
  have h5 : v / ((2 ^ n : Nat) : Int) ≤ v := Int.ediv_le_self _ h0
  rw [← Int64.toInt_inj, l64_toInt (by omega) (by omega)]
  show ((l64 v).toBitVec.sshiftRight' (y.toBitVec.smod 64)).toInt = _
  rw [hy, BitVec.sshiftRight_eq', BitVec.toInt_sshiftRight, BitVec.toNat_ofNat, Nat.mod_eq_of_lt (by omega)]
  show (l64 v).toInt >>> n = _
  rw [l64_toInt (by omega) (by omega), Int.shiftRight_eq_div_pow]
theorem l64_s8 : ((i32 8).toInt64 &&& 63).toBitVec.smod 64 = BitVec.ofNat 64 8 := by decide +kernel
theorem l64_s16 : ((i32 16).toInt64 &&& 63).toBitVec.smod 64 = BitVec.ofNat 64 16 := by decide +kernel
theorem l64_s24 : ((i32 24).toInt64 &&& 63).toBitVec.smod 64 = BitVec.ofNat 64 24 := by decide +kernel
theorem bt_b (v : Int) (sh : Nat) : 0 ≤ bt v sh ∧ bt v sh < 256 := by unfold bt; omega
theorem bt_0 (v : Int) : bt v 0 = v % 256 := by unfold bt; rw [show ((2 ^ 0 : Nat) : Int) = 1 from rfl, Int.ediv_one]
theorem l64_bt {v : Int} {sh : Nat} {y : Int64} (h0 : 0 ≤ v) (h1 : v < 4294967296) (hy : y.toBitVec.smod 64 = BitVec.ofNat 64 sh) (hn : sh < 64) : (l64 v >>> y) &&& 255 = l64 (bt v sh) := by
  have h3 : (0 : Int) < ((2 ^ sh : Nat) : Int) := by exact_mod_cast Nat.two_pow_pos sh
  have h4 := Int.ediv_nonneg h0 (Int.le_of_lt h3)
  have h5 : v / ((2 ^ sh : Nat) : Int) ≤ v := Int.ediv_le_self _ h0
  rw [l64_shr h0 h1 hy hn, l64_and h4 (by omega)]
  rfl
theorem l64_cmp {a b : Int} (a0 : -9223372036854775808 ≤ a) (a1 : a < 9223372036854775808) (b0 : -9223372036854775808 ≤ b) (b1 : b < 9223372036854775808) : lg_cmp (l64 a) (l64 b) = i32 (cmpL a b) := by
  have h1 : (l64 b < l64 a) ↔ b < a := by rw [Int64.lt_iff_toInt_lt, l64_toInt a0 a1, l64_toInt b0 b1]
  have h2 : (l64 a = l64 b) ↔ a = b := by rw [← Int64.toInt_inj, l64_toInt a0 a1, l64_toInt b0 b1]
  unfold lg_cmp cmpL
  by_cases q : b < a
  · rw [if_pos (show l64 a > l64 b from h1.mpr q), if_pos q]
    decide
  · by_cases w : a = b
    · rw [if_neg (show ¬ l64 a > l64 b from fun z => q (h1.mp z)), if_pos (h2.mpr w), if_neg q, if_pos w]
      decide
    · rw [if_neg (show ¬ l64 a > l64 b from fun z => q (h1.mp z)), if_neg (fun z => w (h2.mp z)), if_neg q, if_neg w]
      decide
def dcB (me : ME) (pc : Nat) (ins : Instr) (len : Nat) : Bool := decide (decode (me_cc me) pc = .ok (ins, len))
theorem dcB_of {me : ME} {pc : Nat} {ins : Instr} {len : Nat} (h : dcB me pc ins len = true) : decode (me_cc me) pc = .ok (ins, len) := by
  simp only [dcB, decide_eq_true_eq] at h
  exact h
section LONGS
variable {g : GX} {K : KX} {d : Nat} {me : ME} {Q : State → Prop} {c0 s0 pc : Nat} {L : LV} {S : List AV} {kd : KL} {F : FM} {P : PM}
theorem rowL {H : Heap} (hW : WI K kd F P H) {k n : Nat} (h3 : 3 ≤ k) (hk : kd[k]? = some (30, n)) : H[ad K k]? = some (vp_cell (kcL K) (n, .inr (.inl (fun j => l64 (F k (j : Int)))))) := by
  have h := hW.2.2.2.1 k _ h3 hk
  rw [cel_ln] at h
  exact h
theorem nx_lald {ls : Array Slot} {H : Heap} {locs : List Loc} {cells slots : Nat} {rest : List Value} (fx : Fx g K d me) (hW : WI K kd F P H) {k n : Nat} {i : Int} (hd : decode (me_cc me) pc = .ok (.laload, 1)) (h3 : 3 ≤ k) (hk : kd[k]? = some (30, n)) (hi : inb i) (h0 : 0 ≤ i) (h1 : i < n) (nx : gW g H locs cells slots Q (F0 g.2.2.2.2.2.1 (pc + 1) ls (.long (l64 (F k i)) :: rest))) : gW g H locs cells slots Q (F0 g.2.2.2.2.2.1 pc ls (.int (i32 i) :: .ref (ad K k) :: rest)) := by
  have hr := (fx.2.2.2.2.2.1.2.1.2 2 _ rfl).1 n (fun j => .long (l64 (F k (j : Int))))
  have hin := i32_in hi h0 h1
  unfold vp_in at hin
  refine W.lald fx.1 fx.2.1 (rowL hW h3 hk) hr (fun q => by cases q) (j := i32 i) (v := .long (l64 (F k i))) ?_ ?_ rfl rfl hd nx
  · show ¬ (_ ∨ (arrV _ _ _).slots.size ≤ _)
    rw [arrV_size]
    exact hin
  · show (arrV _ _ _).slots[_]? = _
    rw [i32_n hi, arrV_read _ _ (by omega)]
    show some (Value.long (l64 (F k ((i.toNat : Nat) : Int)))) = _
    rw [Int.toNat_of_nonneg h0]
theorem nx_last {ls : Array Slot} {H : Heap} {locs : List Loc} {cells slots : Nat} {rest : List Value} (fx : Fx g K d me) (hW : WI K kd F P H) (hX : XI K locs) {k n : Nat} {i v : Int} (hd : decode (me_cc me) pc = .ok (.lastore, 1)) (h3 : 3 ≤ k) (hk : kd[k]? = some (30, n)) (hi : inb i) (h0 : 0 ≤ i) (h1 : i < n) (nx : ∀ H' locs', WI K kd (stt F k i v) P H' → XI K locs' → gW g H' locs' cells slots Q (F0 g.2.2.2.2.2.1 (pc + 1) ls rest)) : gW g H locs cells slots Q (F0 g.2.2.2.2.2.1 pc ls (.long (l64 v) :: .int (i32 i) :: .ref (ad K k) :: rest)) := by
  have hr := (fx.2.2.2.2.2.1.2.1.2 2 _ rfl).1 n (fun j => .long (l64 (F k (j : Int))))
  refine W.last fx.1 fx.2.1 (rowL hW h3 hk) hr (fun q => by cases q) (j := i32 i) (x := l64 v) ?_ rfl rfl hd (fun H' f1 f2 f3 => nx H' _ (WI_put hW h3 hk ?_ f2 f3 ?_ (fun _ _ => rfl)) (XI_add hX (ad_lt hW h3 hk).1))
  · have := i32_in hi h0 h1
    unfold vp_in at this
    show ¬ (_ ∨ (arrV _ _ _).slots.size ≤ _)
    rw [arrV_size]
    exact this
  · rw [cel_ln]
    show H'[ad K k]? = some (vp_cell (kcL K) (n, .inr (.inl (fun j => l64 (stt F k i v k (j : Int))))))
    rw [f1]
    rw [vp_cell_l, vp_cell_l, arrV_store]
    congr 2
    funext q
    rw [i32_n hi]
    unfold updV stt
    by_cases hq : q = i.toNat
    · rw [if_pos hq, if_pos ⟨rfl, by omega⟩]
    · rw [if_neg hq, if_neg (fun z => hq (by have := z.2; omega))]
  · intro j hj
    funext q
    unfold stt
    rw [if_neg (fun z => hj z.1)]
theorem nx_newl (fx : Fx g K d me) {n : Int} (hd : decode (me_cc me) pc = .ok (.newarray .long, 2)) (harr : Jvm.Cond.arrayClass .long ∈ WL) (h0 : 0 ≤ n) (h1 : n ≤ 100000) (hc0 : c0 ≤ kd.length) (hs0 : s0 ≤ ksz kd) (hrc : kd.length + 1 - c0 ≤ g.2.2.2.1.cells) (hrs : ksz kd + n.toNat - s0 ≤ g.2.2.2.1.slots)
    (nx : NX g K Q c0 s0 (pc + 2) L (.inr (some kd.length) :: S) (kd ++ [(30, n.toNat)]) (clF F kd.length) P) : NX g K Q c0 s0 pc L (.inl n :: S) kd F P := by
  intro ls H locs hL hW hX
  have hts := fx.2.2.2.2.1
  have ha := ad_new hW
  have hb : inb n := by unfold inb; omega
  refine va_newaK (atype := .long) fx.1 fx.2.1 (hts _ harr) rfl hd rfl (n := i32 n) (N := n.toNat) (fun z => by rw [i32_0] at z; have := (i32_lt hb inb_0).mp z; omega) (i32_n hb) (by show n.toNat * 8 ≤ _; omega) (by omega) (by omega) rfl fun H1 cA e1 z1 o1 hAr hNm => ?_
  have hcA : cA = kcL K := by
    have h2 := (fx.2.2.2.2.2.1.2.1.2 2 _ rfl).2
    exact Option.some.inj (hNm.symm.trans h2)
  subst hcA
  have hW1 : WI K (kd ++ [(30, n.toNat)]) (clF F kd.length) P H1 := by
    refine WI_new hW ?_ z1 o1 (fun j hj => funext fun b => by unfold clF; rw [if_neg hj]) (fun j hj => rfl)
    rw [cel_ln]
    show H1[ad K kd.length]? = some (vp_cell (kcL K) (n.toNat, .inr (.inl (fun j => l64 (clF F kd.length kd.length (j : Int))))))
    rw [ha, e1, vp_cell_l]
    congr 2
    funext j
    unfold clF
    rw [if_pos rfl]
    rfl
  have e := nx ls H1 locs hL hW1 hX
  rw [List.map_cons, show gv K (.inr (some kd.length)) = .ref H.size by show Value.ref (ad K kd.length) = _; rw [ha]] at e
  have e8 : List.length (kd ++ [((30 : Nat), n.toNat)]) - c0 = kd.length - c0 + 1 := by simp; omega
  have e9 : ksz (kd ++ [((30 : Nat), n.toNat)]) - s0 = ksz kd - s0 + n.toNat := by unfold ksz at *; simp at *; omega
  rw [e8, e9] at e
  exact e
/-- laload, ldc2_w 255, land, iload_2, i2l, lcmp -/
theorem nx_lcm1 (fx : Fx g K d me) {q n : Nat} {k r : Int} (hw9 : Jvm.Cond.constantLong RL 9 255 ∈ WL) (hcls : (me_y me).cls = RL) (hd : decode (me_cc me) pc = .ok (.laload, 1)) (hd1 : decode (me_cc me) (pc + 1) = .ok (.ldc2_w 9, 3)) (hd4 : decode (me_cc me) (pc + 4) = .ok (.land, 1)) (hd5 : decode (me_cc me) (pc + 5) = .ok (.iload_n 2, 1)) (hd6 : decode (me_cc me) (pc + 6) = .ok (.i2l, 1)) (hd7 : decode (me_cc me) (pc + 7) = .ok (.lcmp, 1)) (h3 : 3 ≤ q) (hk : kd[q]? = some (30, n)) (hi : inb k) (h0 : 0 ≤ k) (h1 : k < n) (hv : 0 ≤ F q k) (hvb : inb (F q k)) (hl : L[2]? = some (some (.inl r))) (hr : inb r)
    (nx : NX g K Q c0 s0 (pc + 8) L (.inl (cmpL (bt (F q k) 0) r) :: S) kd F P) : NX g K Q c0 s0 pc L (.inl k :: .inr (some q) :: S) kd F P := by
  intro ls H locs hL hW hX
  have e := nx ls H locs hL hW hX
  have hvb' := hvb
  unfold inb at hvb' hr
  have hb := bt_b (F q k) 0
  rw [List.map_cons, show gv K (.inl (cmpL (bt (F q k) 0) r)) = .int (i32 (cmpL (bt (F q k) 0) r)) from rfl, ← l64_cmp (by omega) (by omega) (by omega) (by omega)] at e
  refine nx_lald fx hW hd h3 hk hi h0 h1 ?_
  have hc := fx.2.2.2.2.1 _ hw9
  refine lv_ldc2 fx.1 fx.2.1 (by rw [← hcls]; exact fx.2.2.2.1) hc hd1 ?_
  refine lv_land fx.1 fx.2.1 hd4 ?_
  refine lv_iload_n fx.1 fx.2.1 hd5 rfl (hL.2.2 _ _ hl) ?_
  refine lv_i2l fx.1 fx.2.1 hd6 (l64_of32 (show inb r from hr)) ?_
  refine W.lcmp fx.1 fx.2.1 hd7 ?_
  rw [l64_and hv (by omega), ← bt_0]
  exact e
/-- laload, bipush 8, lshr, ldc2_w 255, land, iload_3, i2l, lcmp -/
theorem nx_lcm2 (fx : Fx g K d me) {q n : Nat} {k r : Int} (hw9 : Jvm.Cond.constantLong RL 9 255 ∈ WL) (hcls : (me_y me).cls = RL) (hd : decode (me_cc me) pc = .ok (.laload, 1)) (hd1 : decode (me_cc me) (pc + 1) = .ok (.bipush 8, 2)) (hd3 : decode (me_cc me) (pc + 3) = .ok (.lshr, 1)) (hd4 : decode (me_cc me) (pc + 4) = .ok (.ldc2_w 9, 3)) (hd7 : decode (me_cc me) (pc + 7) = .ok (.land, 1)) (hd8 : decode (me_cc me) (pc + 8) = .ok (.iload_n 3, 1)) (hd9 : decode (me_cc me) (pc + 9) = .ok (.i2l, 1)) (hd10 : decode (me_cc me) (pc + 10) = .ok (.lcmp, 1)) (h3 : 3 ≤ q) (hk : kd[q]? = some (30, n)) (hi : inb k) (h0 : 0 ≤ k) (h1 : k < n) (hv : 0 ≤ F q k) (hvb : inb (F q k)) (hl : L[3]? = some (some (.inl r))) (hr : inb r)
    (nx : NX g K Q c0 s0 (pc + 11) L (.inl (cmpL (bt (F q k) 8) r) :: S) kd F P) : NX g K Q c0 s0 pc L (.inl k :: .inr (some q) :: S) kd F P := by
  intro ls H locs hL hW hX
  have e := nx ls H locs hL hW hX
  have hvb' := hvb
  unfold inb at hvb' hr
  have hb := bt_b (F q k) 8
  rw [List.map_cons, show gv K (.inl (cmpL (bt (F q k) 8) r)) = .int (i32 (cmpL (bt (F q k) 8) r)) from rfl, ← l64_cmp (by omega) (by omega) (by omega) (by omega)] at e
  refine nx_lald fx hW hd h3 hk hi h0 h1 ?_
  refine lv_bipush fx.1 fx.2.1 hd1 (i32_8 (by omega) (by omega)) ?_
  refine lv_lshr fx.1 fx.2.1 hd3 rfl ?_
  have hc := fx.2.2.2.2.1 _ hw9
  refine lv_ldc2 fx.1 fx.2.1 (by rw [← hcls]; exact fx.2.2.2.1) hc hd4 ?_
  refine lv_land fx.1 fx.2.1 hd7 ?_
  refine lv_iload_n fx.1 fx.2.1 hd8 rfl (hL.2.2 _ _ hl) ?_
  refine lv_i2l fx.1 fx.2.1 hd9 (l64_of32 (show inb r from hr)) ?_
  refine W.lcmp fx.1 fx.2.1 hd10 ?_
  rw [l64_bt hv (by omega) l64_s8 (by omega)]
  exact e
/-- laload, bipush 16, lshr, ldc2_w 255, land, l2i -/
theorem nx_lbt (fx : Fx g K d me) {q n : Nat} {k : Int} (hw9 : Jvm.Cond.constantLong RL 9 255 ∈ WL) (hcls : (me_y me).cls = RL) (hd : decode (me_cc me) pc = .ok (.laload, 1)) (hd1 : decode (me_cc me) (pc + 1) = .ok (.bipush 16, 2)) (hd3 : decode (me_cc me) (pc + 3) = .ok (.lshr, 1)) (hd4 : decode (me_cc me) (pc + 4) = .ok (.ldc2_w 9, 3)) (hd7 : decode (me_cc me) (pc + 7) = .ok (.land, 1)) (hd8 : decode (me_cc me) (pc + 8) = .ok (.l2i, 1)) (h3 : 3 ≤ q) (hk : kd[q]? = some (30, n)) (hi : inb k) (h0 : 0 ≤ k) (h1 : k < n) (hv : 0 ≤ F q k) (hvb : inb (F q k))
    (nx : NX g K Q c0 s0 (pc + 9) L (.inl (bt (F q k) 16) :: S) kd F P) : NX g K Q c0 s0 pc L (.inl k :: .inr (some q) :: S) kd F P := by
  intro ls H locs hL hW hX
  have e := nx ls H locs hL hW hX
  have hvb' := hvb
  unfold inb at hvb'
  rw [List.map_cons, show gv K (.inl (bt (F q k) 16)) = .int (i32 (bt (F q k) 16)) from rfl] at e
  refine nx_lald fx hW hd h3 hk hi h0 h1 ?_
  refine lv_bipush fx.1 fx.2.1 hd1 (i32_8 (by omega) (by omega)) ?_
  refine lv_lshr fx.1 fx.2.1 hd3 rfl ?_
  have hc := fx.2.2.2.2.1 _ hw9
  refine lv_ldc2 fx.1 fx.2.1 (by rw [← hcls]; exact fx.2.2.2.1) hc hd4 ?_
  refine lv_land fx.1 fx.2.1 hd7 ?_
  refine lv_l2i fx.1 fx.2.1 hd8 (v := i32 (bt (F q k) 16)) ?_ e
  rw [l64_bt hv (by omega) l64_s16 (by omega)]
  exact l64_to32 _
/-- i2l, aload 4, iload 7, laload, ldc2_w 255, land, lcmp -/
theorem nx_lcr4 (fx : Fx g K d me) {q n : Nat} {k r : Int} (hw9 : Jvm.Cond.constantLong RL 9 255 ∈ WL) (hcls : (me_y me).cls = RL) (hd : decode (me_cc me) pc = .ok (.i2l, 1)) (hd1 : decode (me_cc me) (pc + 1) = .ok (.aload 4, 2)) (hd3 : decode (me_cc me) (pc + 3) = .ok (.iload 7, 2)) (hd5 : decode (me_cc me) (pc + 5) = .ok (.laload, 1)) (hd6 : decode (me_cc me) (pc + 6) = .ok (.ldc2_w 9, 3)) (hd9 : decode (me_cc me) (pc + 9) = .ok (.land, 1)) (hd10 : decode (me_cc me) (pc + 10) = .ok (.lcmp, 1)) (h3 : 3 ≤ q) (hk : kd[q]? = some (30, n)) (hi : inb k) (h0 : 0 ≤ k) (h1 : k < n) (hv : 0 ≤ F q k) (hvb : inb (F q k)) (hlq : L[4]? = some (some (.inr (some q)))) (hlk : L[7]? = some (some (.inl k))) (hr : inb r)
    (nx : NX g K Q c0 s0 (pc + 11) L (.inl (cmpL r (bt (F q k) 0)) :: S) kd F P) : NX g K Q c0 s0 pc L (.inl r :: S) kd F P := by
  intro ls H locs hL hW hX
  have e := nx ls H locs hL hW hX
  have hvb' := hvb
  unfold inb at hvb' hr
  have hb := bt_b (F q k) 0
  rw [List.map_cons, show gv K (.inl (cmpL r (bt (F q k) 0))) = .int (i32 (cmpL r (bt (F q k) 0))) from rfl, ← l64_cmp (by omega) (by omega) (by omega) (by omega)] at e
  refine lv_i2l fx.1 fx.2.1 hd (l64_of32 (show inb r from hr)) ?_
  refine lv_aload fx.1 fx.2.1 hd1 (hL.2.2 _ _ hlq) ?_
  refine lv_iload fx.1 fx.2.1 hd3 (hL.2.2 _ _ hlk) ?_
  refine nx_lald fx hW hd5 h3 hk hi h0 h1 ?_
  have hc := fx.2.2.2.2.1 _ hw9
  refine lv_ldc2 fx.1 fx.2.1 (by rw [← hcls]; exact fx.2.2.2.1) hc hd6 ?_
  refine lv_land fx.1 fx.2.1 hd9 ?_
  refine W.lcmp fx.1 fx.2.1 hd10 ?_
  rw [l64_and hv (by omega), ← bt_0]
  exact e
/-- i2l, aload 4, iload 7, laload, bipush sh, lshr, ldc2_w 255, land, lcmp -/
theorem nx_lcr5 (fx : Fx g K d me) {q n sh : Nat} {k r : Int} (hw9 : Jvm.Cond.constantLong RL 9 255 ∈ WL) (hcls : (me_y me).cls = RL) (hsh : sh = 8 ∨ sh = 16 ∨ sh = 24) (hd : decode (me_cc me) pc = .ok (.i2l, 1)) (hd1 : decode (me_cc me) (pc + 1) = .ok (.aload 4, 2)) (hd3 : decode (me_cc me) (pc + 3) = .ok (.iload 7, 2)) (hd5 : decode (me_cc me) (pc + 5) = .ok (.laload, 1)) (hd6 : decode (me_cc me) (pc + 6) = .ok (.bipush (sh : Int), 2)) (hd8 : decode (me_cc me) (pc + 8) = .ok (.lshr, 1)) (hd9 : decode (me_cc me) (pc + 9) = .ok (.ldc2_w 9, 3)) (hd12 : decode (me_cc me) (pc + 12) = .ok (.land, 1)) (hd13 : decode (me_cc me) (pc + 13) = .ok (.lcmp, 1)) (h3 : 3 ≤ q) (hk : kd[q]? = some (30, n)) (hi : inb k) (h0 : 0 ≤ k) (h1 : k < n) (hv : 0 ≤ F q k) (hvb : inb (F q k)) (hlq : L[4]? = some (some (.inr (some q)))) (hlk : L[7]? = some (some (.inl k))) (hr : inb r)
    (nx : NX g K Q c0 s0 (pc + 14) L (.inl (cmpL r (bt (F q k) sh)) :: S) kd F P) : NX g K Q c0 s0 pc L (.inl r :: S) kd F P := by
  intro ls H locs hL hW hX
  have e := nx ls H locs hL hW hX
  have hvb' := hvb
  unfold inb at hvb' hr
  have hb := bt_b (F q k) sh
  rw [List.map_cons, show gv K (.inl (cmpL r (bt (F q k) sh))) = .int (i32 (cmpL r (bt (F q k) sh))) from rfl, ← l64_cmp (by omega) (by omega) (by omega) (by omega)] at e
  refine lv_i2l fx.1 fx.2.1 hd (l64_of32 (show inb r from hr)) ?_
  refine lv_aload fx.1 fx.2.1 hd1 (hL.2.2 _ _ hlq) ?_
  refine lv_iload fx.1 fx.2.1 hd3 (hL.2.2 _ _ hlk) ?_
  refine nx_lald fx hW hd5 h3 hk hi h0 h1 ?_
  refine lv_bipush fx.1 fx.2.1 hd6 (i32_8 (by omega) (by omega)) ?_
  refine lv_lshr fx.1 fx.2.1 hd8 rfl ?_
  have hc := fx.2.2.2.2.1 _ hw9
  refine lv_ldc2 fx.1 fx.2.1 (by rw [← hcls]; exact fx.2.2.2.1) hc hd9 ?_
  refine lv_land fx.1 fx.2.1 hd12 ?_
  refine W.lcmp fx.1 fx.2.1 hd13 ?_
  rw [l64_bt (sh := sh) hv (by omega) (by rcases hsh with z | z | z <;> subst z; exact l64_s8; exact l64_s16; exact l64_s24) (by omega)]
  exact e
/-- i2l, ldc2_w 256, iload_3, i2l, lmul, ladd, lastore -/
theorem nx_lst (fx : Fx g K d me) {q n : Nat} {k p b : Int} (hw11 : Jvm.Cond.constantLong RL 11 256 ∈ WL) (hcls : (me_y me).cls = RL) (hd : decode (me_cc me) pc = .ok (.i2l, 1)) (hd1 : decode (me_cc me) (pc + 1) = .ok (.ldc2_w 11, 3)) (hd4 : decode (me_cc me) (pc + 4) = .ok (.iload_n 3, 1)) (hd5 : decode (me_cc me) (pc + 5) = .ok (.i2l, 1)) (hd6 : decode (me_cc me) (pc + 6) = .ok (.lmul, 1)) (hd7 : decode (me_cc me) (pc + 7) = .ok (.ladd, 1)) (hd8 : decode (me_cc me) (pc + 8) = .ok (.lastore, 1)) (h3 : 3 ≤ q) (hk : kd[q]? = some (30, n)) (hi : inb k) (h0 : 0 ≤ k) (h1 : k < n) (hp : inb p) (hlb : L[3]? = some (some (.inl b))) (hb : inb b)
    (nx : NX g K Q c0 s0 (pc + 9) L S kd (stt F q k (p + 256 * b)) P) : NX g K Q c0 s0 pc L (.inl p :: .inl k :: .inr (some q) :: S) kd F P := by
  intro ls H locs hL hW hX
  refine lv_i2l fx.1 fx.2.1 hd (l64_of32 hp) ?_
  have hc := fx.2.2.2.2.1 _ hw11
  refine lv_ldc2 fx.1 fx.2.1 (by rw [← hcls]; exact fx.2.2.2.1) hc hd1 ?_
  refine lv_iload_n fx.1 fx.2.1 hd4 rfl (hL.2.2 _ _ hlb) ?_
  refine lv_i2l fx.1 fx.2.1 hd5 (l64_of32 hb) ?_
  refine lv_lmul fx.1 fx.2.1 hd6 ?_
  refine lv_ladd fx.1 fx.2.1 hd7 ?_
  rw [show (256 : Int64) = l64 256 by decide, ← l64_mul, ← l64_add]
  exact nx_last fx hW hX hd8 h3 hk hi h0 h1 (fun H' locs' hW' hX' => nx ls H' locs' hL hW' hX')
/-- dup2, laload, ldc2_w 65536, iload 4, ifeq, ldc2_w 16777216, goto, lconst_0, ladd, ladd, lastore -/
theorem nx_ladd (fx : Fx g K d me) {q n : Nat} {k w : Int} (hw13 : Jvm.Cond.constantLong RL 13 65536 ∈ WL) (hw15 : Jvm.Cond.constantLong RL 15 16777216 ∈ WL) (hcls : (me_y me).cls = RL) (hd : decode (me_cc me) pc = .ok (.dup2, 1)) (hd1 : decode (me_cc me) (pc + 1) = .ok (.laload, 1)) (hd2 : decode (me_cc me) (pc + 2) = .ok (.ldc2_w 13, 3)) (hd5 : decode (me_cc me) (pc + 5) = .ok (.iload 4, 2)) (hd7 : decode (me_cc me) (pc + 7) = .ok (.ifCond .eq 9, 3)) (hd10 : decode (me_cc me) (pc + 10) = .ok (.ldc2_w 15, 3)) (hd13 : decode (me_cc me) (pc + 13) = .ok (.goto 4, 3)) (hd16 : decode (me_cc me) (pc + 16) = .ok (.lconst 0, 1)) (hd17 : decode (me_cc me) (pc + 17) = .ok (.ladd, 1)) (hd18 : decode (me_cc me) (pc + 18) = .ok (.ladd, 1)) (hd19 : decode (me_cc me) (pc + 19) = .ok (.lastore, 1)) (h3 : 3 ≤ q) (hk : kd[q]? = some (30, n)) (hi : inb k) (h0 : 0 ≤ k) (h1 : k < n) (hlw : L[4]? = some (some (.inl w))) (hw : inb w)
    (nx : NX g K Q c0 s0 (pc + 20) L S kd (stt F q k (F q k + (65536 + if w = 0 then 0 else 16777216))) P) : NX g K Q c0 s0 pc L (.inl k :: .inr (some q) :: S) kd F P := by
  intro ls H locs hL hW hX
  refine lv_dup2_11 fx.1 fx.2.1 hd (gv_cat K (.inl k)) (gv_cat K (.inr (some q))) ?_
  refine nx_lald fx hW hd1 h3 hk hi h0 h1 ?_
  have hc := fx.2.2.2.2.1 _ hw13
  have hc5 := fx.2.2.2.2.1 _ hw15
  refine lv_ldc2 fx.1 fx.2.1 (by rw [← hcls]; exact fx.2.2.2.1) hc hd2 ?_
  refine lv_iload fx.1 fx.2.1 hd5 (hL.2.2 _ _ hlw) ?_
  have fin : ∀ z : Int, z = (if w = 0 then 0 else 16777216) → gW g H locs (kd.length - c0) (ksz kd - s0) Q (F0 g.2.2.2.2.2.1 (pc + 17) ls (.long (l64 z) :: .long 65536 :: .long (l64 (F q k)) :: .int (i32 k) :: .ref (ad K q) :: S.map (gv K))) := fun z hz => by
    refine lv_ladd fx.1 fx.2.1 hd17 ?_
    refine lv_ladd fx.1 fx.2.1 hd18 ?_
    rw [show (65536 : Int64) = l64 65536 by decide, ← l64_add, ← l64_add, hz]
    exact nx_last fx hW hX hd19 h3 hk hi h0 h1 (fun H' locs' hW' hX' => nx ls H' locs' hL hW' hX')
  refine lv_if_eq fx.1 fx.2.1 hd7 (show ((pc + 7 : Nat) : Int) + 9 = ((pc + 16 : Nat) : Int) by omega) (fun z => ?_) (fun z => ?_)
  · have hz : w = 0 := (i32_eq hw inb_0).mp (z.trans i32_0)
    exact lv_lconst fx.1 fx.2.1 hd16 (v := l64 0) (by decide) (fin 0 (by rw [if_pos hz]))
  · have hz : w ≠ 0 := fun y => z (((i32_eq hw inb_0).mpr y).trans i32_0.symm)
    refine lv_ldc2 fx.1 fx.2.1 (by rw [← hcls]; exact fx.2.2.2.1) hc5 hd10 ?_
    refine lv_goto fx.1 fx.2.1 hd13 (show ((pc + 13 : Nat) : Int) + 4 = ((pc + 17 : Nat) : Int) by omega) ?_
    rw [show (16777216 : Int64) = l64 16777216 by decide]
    exact fin _ (by rw [if_neg hz])
end LONGS
