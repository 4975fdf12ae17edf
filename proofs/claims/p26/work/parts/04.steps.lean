section STEPS
variable {g : GX} {K : KX} {d : Nat} {me : ME} {Q : State → Prop} {c0 s0 pc : Nat} {L : LV} {S : List AV} {kd : KL} {F : FM} {P : PM}
abbrev fx_x (h : Fx g K d me) := h.1
theorem nx_const (fx : Fx g K d me) {ins : Instr} {len : Nat} {v : Int} (h : ∀ (H : Heap) (locs : List Loc) (cells slots : Nat) (ls : Array Slot) (rest : List Value), gW g H locs cells slots Q (F0 g.2.2.2.2.2.1 (pc + len) ls (.int (i32 v) :: rest)) → gW g H locs cells slots Q (F0 g.2.2.2.2.2.1 pc ls rest)) (nx : NX g K Q c0 s0 (pc + len) L (.inl v :: S) kd F P) : NX g K Q c0 s0 pc L S kd F P :=
  fun ls H locs hL hW hX => h H locs _ _ ls _ (nx ls H locs hL hW hX)
theorem nx_iconst (fx : Fx g K d me) {v : Int} (hd : decode (me_cc me) pc = .ok (.iconst v, 1)) (nx : NX g K Q c0 s0 (pc + 1) L (.inl v :: S) kd F P) : NX g K Q c0 s0 pc L S kd F P :=
  fun ls H locs hL hW hX => lv_iconst fx.1 fx.2.1 hd rfl (nx ls H locs hL hW hX)
theorem nx_bipush (fx : Fx g K d me) {v : Int} (hd : decode (me_cc me) pc = .ok (.bipush v, 2)) (h0 : -128 ≤ v) (h1 : v < 128) (nx : NX g K Q c0 s0 (pc + 2) L (.inl v :: S) kd F P) : NX g K Q c0 s0 pc L S kd F P :=
  fun ls H locs hL hW hX => lv_bipush fx.1 fx.2.1 hd (i32_8 h0 h1) (nx ls H locs hL hW hX)
theorem nx_sipush (fx : Fx g K d me) {v : Int} (hd : decode (me_cc me) pc = .ok (.sipush v, 3)) (h0 : -32768 ≤ v) (h1 : v < 32768) (nx : NX g K Q c0 s0 (pc + 3) L (.inl v :: S) kd F P) : NX g K Q c0 s0 pc L S kd F P :=
  fun ls H locs hL hW hX => lv_sipush fx.1 fx.2.1 hd (i32_16 h0 h1) (nx ls H locs hL hW hX)
theorem nx_ldc (fx : Fx g K d me) {v : Int} {idx : Nat} (hd : decode (me_cc me) pc = .ok (.ldc idx, 2)) (hw : Jvm.Cond.constant (me_y me).cls idx (i32 v) ∈ WL) (nx : NX g K Q c0 s0 (pc + 2) L (.inl v :: S) kd F P) : NX g K Q c0 s0 pc L S kd F P :=
  fun ls H locs hL hW hX => lv_ldc fx.1 fx.2.1 fx.2.2.2.1 (fx.2.2.2.2.1 _ hw) hd (nx ls H locs hL hW hX)
theorem ldI_spec {i : Nat} {v : AV} (h : ldI L i = some v) : ∃ x, v = .inl x ∧ L[i]? = some (some (.inl x)) := by
  unfold ldI at h
  split at h
  · next x hx => cases h; exact ⟨x, rfl, hx⟩
  · cases h
theorem ldA_spec {i : Nat} {v : AV} (h : ldA L i = some v) : ∃ x, v = .inr (some x) ∧ L[i]? = some (some (.inr (some x))) := by
  unfold ldA at h
  split at h
  · next x hx => cases h; exact ⟨x, rfl, hx⟩
  · cases h
theorem nx_iload (fx : Fx g K d me) {i : Nat} {v : AV} (hd : decode (me_cc me) pc = .ok (.iload i, 2)) (hl : ldI L i = some v) (nx : NX g K Q c0 s0 (pc + 2) L (v :: S) kd F P) : NX g K Q c0 s0 pc L S kd F P := by
  obtain ⟨x, rfl, hx⟩ := ldI_spec hl
  exact fun ls H locs hL hW hX => lv_iload fx.1 fx.2.1 hd (hL.2.2 _ _ hx) (nx ls H locs hL hW hX)
theorem nx_iload_n (fx : Fx g K d me) {i : Fin 4} {v : AV} (hd : decode (me_cc me) pc = .ok (.iload_n i, 1)) (hl : ldI L i.val = some v) (nx : NX g K Q c0 s0 (pc + 1) L (v :: S) kd F P) : NX g K Q c0 s0 pc L S kd F P := by
  obtain ⟨x, rfl, hx⟩ := ldI_spec hl
  exact fun ls H locs hL hW hX => lv_iload_n fx.1 fx.2.1 hd rfl (hL.2.2 _ _ hx) (nx ls H locs hL hW hX)
theorem nx_aload (fx : Fx g K d me) {i : Nat} {v : AV} (hd : decode (me_cc me) pc = .ok (.aload i, 2)) (hl : ldA L i = some v) (nx : NX g K Q c0 s0 (pc + 2) L (v :: S) kd F P) : NX g K Q c0 s0 pc L S kd F P := by
  obtain ⟨x, rfl, hx⟩ := ldA_spec hl
  exact fun ls H locs hL hW hX => lv_aload fx.1 fx.2.1 hd (hL.2.2 _ _ hx) (nx ls H locs hL hW hX)
theorem nx_aload_n (fx : Fx g K d me) {i : Fin 4} {v : AV} (hd : decode (me_cc me) pc = .ok (.aload_n i, 1)) (hl : ldA L i.val = some v) (nx : NX g K Q c0 s0 (pc + 1) L (v :: S) kd F P) : NX g K Q c0 s0 pc L S kd F P := by
  obtain ⟨x, rfl, hx⟩ := ldA_spec hl
  exact fun ls H locs hL hW hX => lv_aload_n fx.1 fx.2.1 hd rfl (hL.2.2 _ _ hx) (nx ls H locs hL hW hX)
theorem nx_istore (fx : Fx g K d me) {i : Nat} {x : Int} (hd : decode (me_cc me) pc = .ok (.istore i, 2)) (hi : i < L.length) (nx : NX g K Q c0 s0 (pc + 2) (L.set i (some (.inl x))) S kd F P) : NX g K Q c0 s0 pc L (.inl x :: S) kd F P :=
  fun ls H locs hL hW hX => lv_istore fx.1 fx.2.1 hd (LI_has hL) hi rfl (fun ls' hl' => nx ls' H locs (LI_set (v := .inl x) (fun _ h => h) hl') hW hX)
theorem nx_istore_n (fx : Fx g K d me) {i : Fin 4} {x : Int} (hd : decode (me_cc me) pc = .ok (.istore_n i, 1)) (hi : i.val < L.length) (nx : NX g K Q c0 s0 (pc + 1) (L.set i.val (some (.inl x))) S kd F P) : NX g K Q c0 s0 pc L (.inl x :: S) kd F P :=
  fun ls H locs hL hW hX => lv_istore_n fx.1 fx.2.1 hd rfl (LI_has hL) hi rfl (fun ls' hl' => nx ls' H locs (LI_set (v := .inl x) (fun _ h => h) hl') hW hX)
theorem nx_astore (fx : Fx g K d me) {i : Nat} {x : Nat} (hd : decode (me_cc me) pc = .ok (.astore i, 2)) (hi : i < L.length) (nx : NX g K Q c0 s0 (pc + 2) (L.set i (some (.inr (some x)))) S kd F P) : NX g K Q c0 s0 pc L (.inr (some x) :: S) kd F P :=
  fun ls H locs hL hW hX => lv_astore fx.1 fx.2.1 hd (LI_has hL) hi rfl (fun ls' hl' => nx ls' H locs (LI_set (v := .inr (some x)) (fun _ h => h) hl') hW hX)
theorem nx_astore_n (fx : Fx g K d me) {i : Fin 4} {x : Nat} (hd : decode (me_cc me) pc = .ok (.astore_n i, 1)) (hi : i.val < L.length) (nx : NX g K Q c0 s0 (pc + 1) (L.set i.val (some (.inr (some x)))) S kd F P) : NX g K Q c0 s0 pc L (.inr (some x) :: S) kd F P :=
  fun ls H locs hL hW hX => lv_astore_n fx.1 fx.2.1 hd rfl (LI_has hL) hi rfl (fun ls' hl' => nx ls' H locs (LI_set (v := .inr (some x)) (fun _ h => h) hl') hW hX)
theorem nx_iinc (fx : Fx g K d me) {i : Nat} {n x : Int} (hd : decode (me_cc me) pc = .ok (.iinc i n, 3)) (hi : L[i]? = some (some (.inl x))) (nx : NX g K Q c0 s0 (pc + 3) (L.set i (some (.inl (wr (x + n))))) S kd F P) : NX g K Q c0 s0 pc L S kd F P :=
  fun ls H locs hL hW hX => lv_iinc (lv := (i, gv K (.inl x)) :: lvk K L) (k := 0) fx.1 fx.2.1 hd ⟨hL.1, hL.2.1, fun q hq => by
    rcases List.mem_cons.mp hq with h | h
    · rw [h]; exact hL.2.2 _ _ hi
    · exact (LI_has hL).2.2 q h⟩ rfl (i32_add x n).symm (List.getElem?_eq_some_iff.mp hi).1 rfl (fun ls' hl' => nx ls' H locs (LI_set (v := .inl (wr (x + n))) (fun q h => List.mem_cons_of_mem _ h) hl') hW hX)
theorem nx_iadd (fx : Fx g K d me) {x y : Int} (hd : decode (me_cc me) pc = .ok (.iadd, 1)) (nx : NX g K Q c0 s0 (pc + 1) L (.inl (wr (x + y)) :: S) kd F P) : NX g K Q c0 s0 pc L (.inl y :: .inl x :: S) kd F P :=
  fun ls H locs hL hW hX => lv_iadd fx.1 fx.2.1 hd (by have := nx ls H locs hL hW hX; simp only [List.map_cons, gv, i32_add] at this; exact this)
theorem nx_isub (fx : Fx g K d me) {x y : Int} (hd : decode (me_cc me) pc = .ok (.isub, 1)) (nx : NX g K Q c0 s0 (pc + 1) L (.inl (wr (x - y)) :: S) kd F P) : NX g K Q c0 s0 pc L (.inl y :: .inl x :: S) kd F P :=
  fun ls H locs hL hW hX => lv_isub fx.1 fx.2.1 hd (by have := nx ls H locs hL hW hX; simp only [List.map_cons, gv, i32_sub] at this; exact this)
theorem nx_imul (fx : Fx g K d me) {x y : Int} (hd : decode (me_cc me) pc = .ok (.imul, 1)) (nx : NX g K Q c0 s0 (pc + 1) L (.inl (wr (x * y)) :: S) kd F P) : NX g K Q c0 s0 pc L (.inl y :: .inl x :: S) kd F P :=
  fun ls H locs hL hW hX => lv_imul fx.1 fx.2.1 hd (by have := nx ls H locs hL hW hX; simp only [List.map_cons, gv, i32_mul] at this; exact this)
theorem nx_iand (fx : Fx g K d me) {x y : Int} (hd : decode (me_cc me) pc = .ok (.iand, 1)) (nx : NX g K Q c0 s0 (pc + 1) L (.inl (i32 x &&& i32 y).toInt :: S) kd F P) : NX g K Q c0 s0 pc L (.inl y :: .inl x :: S) kd F P :=
  fun ls H locs hL hW hX => lv_iand fx.1 fx.2.1 hd (by have := nx ls H locs hL hW hX; simp only [List.map_cons, gv, i32_of] at this; exact this)
theorem nx_ishr (fx : Fx g K d me) {x y : Int} (hd : decode (me_cc me) pc = .ok (.ishr, 1)) (nx : NX g K Q c0 s0 (pc + 1) L (.inl (i32 x >>> (i32 y &&& 31)).toInt :: S) kd F P) : NX g K Q c0 s0 pc L (.inl y :: .inl x :: S) kd F P :=
  fun ls H locs hL hW hX => lv_ishr fx.1 fx.2.1 hd (by have := nx ls H locs hL hW hX; simp only [List.map_cons, gv, i32_of] at this; exact this)
theorem nx_ixor (fx : Fx g K d me) {x y : Int} (hd : decode (me_cc me) pc = .ok (.ixor, 1)) (nx : NX g K Q c0 s0 (pc + 1) L (.inl (i32 x ^^^ i32 y).toInt :: S) kd F P) : NX g K Q c0 s0 pc L (.inl y :: .inl x :: S) kd F P :=
  fun ls H locs hL hW hX => lv_ixor fx.1 fx.2.1 hd (by have := nx ls H locs hL hW hX; simp only [List.map_cons, gv, i32_of] at this; exact this)
theorem nx_ineg (fx : Fx g K d me) {x : Int} (hd : decode (me_cc me) pc = .ok (.ineg, 1)) (nx : NX g K Q c0 s0 (pc + 1) L (.inl (wr (-x)) :: S) kd F P) : NX g K Q c0 s0 pc L (.inl x :: S) kd F P :=
  fun ls H locs hL hW hX => lv_ineg fx.1 fx.2.1 hd (by have := nx ls H locs hL hW hX; simp only [List.map_cons, gv, i32_neg] at this; exact this)
theorem nx_idiv (fx : Fx g K d me) {x y : Int} (hd : decode (me_cc me) pc = .ok (.idiv, 1)) (hx : inb x) (hy : inb y) (h0 : y ≠ 0) (nx : NX g K Q c0 s0 (pc + 1) L (.inl (wr (Int.tdiv x y)) :: S) kd F P) : NX g K Q c0 s0 pc L (.inl y :: .inl x :: S) kd F P :=
  fun ls H locs hL hW hX => lv_idiv fx.1 fx.2.1 hd (fun h => h0 ((i32_eq hy inb_0).mp (h.trans i32_0))) (by have := nx ls H locs hL hW hX; simp only [List.map_cons, gv, i32_div hx hy] at this; exact this)
theorem nx_irem (fx : Fx g K d me) {x y : Int} (hd : decode (me_cc me) pc = .ok (.irem, 1)) (hx : inb x) (hy : inb y) (h0 : y ≠ 0) (nx : NX g K Q c0 s0 (pc + 1) L (.inl (wr (x - Int.tdiv x y * y)) :: S) kd F P) : NX g K Q c0 s0 pc L (.inl y :: .inl x :: S) kd F P :=
  fun ls H locs hL hW hX => lv_irem fx.1 fx.2.1 hd (fun h => h0 ((i32_eq hy inb_0).mp (h.trans i32_0))) (by have := nx ls H locs hL hW hX; simp only [List.map_cons, gv, i32_rem hx hy] at this; exact this)
theorem nx_dup (fx : Fx g K d me) {v : AV} (hd : decode (me_cc me) pc = .ok (.dup, 1)) (nx : NX g K Q c0 s0 (pc + 1) L (v :: v :: S) kd F P) : NX g K Q c0 s0 pc L (v :: S) kd F P :=
  fun ls H locs hL hW hX => lv_dup fx.1 fx.2.1 hd (gv_cat K v) (nx ls H locs hL hW hX)
theorem nx_dup2 (fx : Fx g K d me) {v w : AV} (hd : decode (me_cc me) pc = .ok (.dup2, 1)) (nx : NX g K Q c0 s0 (pc + 1) L (v :: w :: v :: w :: S) kd F P) : NX g K Q c0 s0 pc L (v :: w :: S) kd F P :=
  fun ls H locs hL hW hX => lv_dup2_11 fx.1 fx.2.1 hd (gv_cat K v) (gv_cat K w) (nx ls H locs hL hW hX)
theorem nx_pop (fx : Fx g K d me) {v : AV} (hd : decode (me_cc me) pc = .ok (.pop, 1)) (nx : NX g K Q c0 s0 (pc + 1) L S kd F P) : NX g K Q c0 s0 pc L (v :: S) kd F P :=
  fun ls H locs hL hW hX => lv_pop fx.1 fx.2.1 hd (gv_cat K v) (nx ls H locs hL hW hX)
theorem brn_spec {off : Int} {t : Nat} (h : brn pc off = some t) : (pc : Int) + off = (t : Int) := by
  unfold brn at h
  split at h
  · cases h; omega
  · cases h
theorem nx_goto (fx : Fx g K d me) {off : Int} {t : Nat} (hd : decode (me_cc me) pc = .ok (.goto off, 3)) (ht : brn pc off = some t) (nx : NX g K Q c0 s0 t L S kd F P) : NX g K Q c0 s0 pc L S kd F P :=
  fun ls H locs hL hW hX => lv_goto fx.1 fx.2.1 hd (brn_spec ht) (nx ls H locs hL hW hX)
theorem nx_icmp (fx : Fx g K d me) {c : Jvm.ClassFile.Cond} {off : Int} {t : Nat} {x y : Int} (hd : decode (me_cc me) pc = .ok (.if_icmp c off, 3)) (ht : brn pc off = some t) (hx : inb x) (hy : inb y) (nx : NX g K Q c0 s0 (if cmpc c x y = true then t else pc + 3) L S kd F P) : NX g K Q c0 s0 pc L (.inl y :: .inl x :: S) kd F P := by
  intro ls H locs hL hW hX
  have h := nx ls H locs hL hW hX
  cases c <;> simp only [cmpc, decide_eq_true_eq] at h
  · exact lv_icmp_eq fx.1 fx.2.1 hd (brn_spec ht) (fun q => by rw [if_pos ((i32_eq hx hy).mp q)] at h; exact h) (fun q => by rw [if_neg (fun z => q ((i32_eq hx hy).mpr z))] at h; exact h)
  · exact lv_icmp_ne fx.1 fx.2.1 hd (brn_spec ht) (fun q => by rw [if_pos (fun z => q ((i32_eq hx hy).mpr z))] at h; exact h) (fun q => by rw [if_neg (fun z => z ((i32_eq hx hy).mp q))] at h; exact h)
  · exact lv_icmp_lt fx.1 fx.2.1 hd (brn_spec ht) (fun q => by rw [if_pos ((i32_lt hx hy).mp q)] at h; exact h) (fun q => by rw [if_neg (fun z => q ((i32_lt hx hy).mpr z))] at h; exact h)
  · exact lv_icmp_ge fx.1 fx.2.1 hd (brn_spec ht) (fun q => by rw [if_pos ((i32_le hy hx).mp q)] at h; exact h) (fun q => by rw [if_neg (fun z => q ((i32_le hy hx).mpr z))] at h; exact h)
  · exact lv_icmp_gt fx.1 fx.2.1 hd (brn_spec ht) (fun q => by rw [if_pos ((i32_lt hy hx).mp q)] at h; exact h) (fun q => by rw [if_neg (fun z => q ((i32_lt hy hx).mpr z))] at h; exact h)
  · exact lv_icmp_le fx.1 fx.2.1 hd (brn_spec ht) (fun q => by rw [if_pos ((i32_le hx hy).mp q)] at h; exact h) (fun q => by rw [if_neg (fun z => q ((i32_le hx hy).mpr z))] at h; exact h)
theorem nx_ifc (fx : Fx g K d me) {c : Jvm.ClassFile.Cond} {off : Int} {t : Nat} {x : Int} (hd : decode (me_cc me) pc = .ok (.ifCond c off, 3)) (ht : brn pc off = some t) (hx : inb x) (nx : NX g K Q c0 s0 (if cmpc c x 0 = true then t else pc + 3) L S kd F P) : NX g K Q c0 s0 pc L (.inl x :: S) kd F P := by
  intro ls H locs hL hW hX
  have h := nx ls H locs hL hW hX
  have hy := inb_0
  cases c <;> simp only [cmpc, decide_eq_true_eq] at h
  · exact lv_if_eq fx.1 fx.2.1 hd (brn_spec ht) (fun q => by rw [if_pos ((i32_eq hx hy).mp (q.trans i32_0))] at h; exact h) (fun q => by rw [if_neg (fun z => q (((i32_eq hx hy).mpr z).trans i32_0.symm))] at h; exact h)
  · exact lv_if_ne fx.1 fx.2.1 hd (brn_spec ht) (fun q => by rw [if_pos (fun z => q (((i32_eq hx hy).mpr z).trans i32_0.symm))] at h; exact h) (fun q => by rw [if_neg (fun z => z ((i32_eq hx hy).mp (q.trans i32_0)))] at h; exact h)
  · exact lv_if_lt fx.1 fx.2.1 hd (brn_spec ht) (fun q => by rw [if_pos ((i32_lt hx hy).mp (by rw [← i32_0]; exact q))] at h; exact h) (fun q => by rw [if_neg (fun z => q (by rw [i32_0]; exact (i32_lt hx hy).mpr z))] at h; exact h)
  · exact lv_if_ge fx.1 fx.2.1 hd (brn_spec ht) (fun q => by rw [if_pos ((i32_le hy hx).mp (by rw [← i32_0]; exact q))] at h; exact h) (fun q => by rw [if_neg (fun z => q (by rw [i32_0]; exact (i32_le hy hx).mpr z))] at h; exact h)
  · exact lv_if_gt fx.1 fx.2.1 hd (brn_spec ht) (fun q => by rw [if_pos ((i32_lt hy hx).mp (by rw [← i32_0]; exact q))] at h; exact h) (fun q => by rw [if_neg (fun z => q (by rw [i32_0]; exact (i32_lt hy hx).mpr z))] at h; exact h)
  · exact lv_if_le fx.1 fx.2.1 hd (brn_spec ht) (fun q => by rw [if_pos ((i32_le hx hy).mp (by rw [← i32_0]; exact q))] at h; exact h) (fun q => by rw [if_neg (fun z => q (by rw [i32_0]; exact (i32_le hx hy).mpr z))] at h; exact h)
theorem nx_tab (fx : Fx g K d me) {dflt lo hi : Int} {offs : Array Int} {len : Nat} {x : Int} {st : AS} (hd : decode (me_cc me) pc = .ok (.tableswitch dflt lo hi offs, len)) (hx : inb x) (hs : s_tab pc dflt lo hi offs L (.inl x :: S) kd F P = some st) (nx : NX g K Q c0 s0 st.1 st.2.1 st.2.2.1 st.2.2.2.1 st.2.2.2.2.1 st.2.2.2.2.2) : NX g K Q c0 s0 pc L (.inl x :: S) kd F P := by
  simp only [s_tab] at hs
  split at hs
  · next h =>
    split at hs
    · next off ho =>
      unfold s_goto at hs
      split at hs
      · next t ht =>
        cases hs
        exact fun ls H locs hL hW hX => lv_tableIn fx.1 fx.2.1 hd (by rw [i32_toInt hx]; omega) (by rw [i32_toInt hx]; omega) (by rw [i32_toInt hx]; exact ho) (brn_spec ht) (nx ls H locs hL hW hX)
      · cases hs
    · cases hs
  · next h =>
    unfold s_goto at hs
    split at hs
    · next t ht =>
      cases hs
      exact fun ls H locs hL hW hX => lv_tableOut fx.1 fx.2.1 hd (by rw [i32_toInt hx]; omega) (brn_spec ht) (nx ls H locs hL hW hX)
    · cases hs
theorem nx_look (fx : Fx g K d me) {dflt : Int} {ps : Array (Int × Int)} {len : Nat} {x : Int} {st : AS} (hd : decode (me_cc me) pc = .ok (.lookupswitch dflt ps, len)) (hx : inb x) (hs : s_look pc dflt ps L (.inl x :: S) kd F P = some st) (nx : NX g K Q c0 s0 st.1 st.2.1 st.2.2.1 st.2.2.2.1 st.2.2.2.2.1 st.2.2.2.2.2) : NX g K Q c0 s0 pc L (.inl x :: S) kd F P := by
  simp only [s_look] at hs
  split at hs
  · next h =>
    unfold s_goto at hs
    split at hs
    · next t ht =>
      cases hs
      exact fun ls H locs hL hW hX => lv_lookup fx.1 fx.2.1 hd h (by rw [i32_toInt hx]) (brn_spec ht) (nx ls H locs hL hW hX)
    · cases hs
  · cases hs
theorem nx_mmin (fx : Fx g K d me) {idx : Nat} {x y : Int} (hml : L.length = me_ml me) (hd : decode (me_cc me) pc = .ok (.invokestatic idx, 3)) (hl : Jvm.Cond.methodLink (me_y me).cls idx Lib.Math.min.name ∈ WL) (hst : Jvm.Cond.static Lib.Math.min.name ∈ WL) (hin : Jvm.Cond.initialized "java/lang/Math" ∈ WL) (hco : Jvm.Cond.code Lib.Math.min.name Lib.Math.min.code 2 (some .int) ∈ WL) (h2 : 2 ≤ d) (h4 : S.length ≤ 4) (hx : inb x) (hy : inb y) (hc : kd.length - c0 ≤ g.2.2.2.1.cells ∧ ksz kd - s0 ≤ g.2.2.2.1.slots) (nx : NX g K Q c0 s0 (pc + 3) L (.inl (if y < x then y else x) :: S) kd F P) : NX g K Q c0 s0 pc L (.inl y :: .inl x :: S) kd F P :=
  fun ls H locs hL hW hX => va_mmin fx.1 fx.2.1 (by rw [fx.2.2.1, hL.1, hml]) fx.2.2.2.1 (fx.2.2.2.2.1 _ hl) (fx.2.2.2.2.1 _ hst) (fx.2.2.2.2.1 _ hin) (fx.2.2.2.2.1 _ hco) (by have := fx.2.2.2.2.2.2.2.1; omega) (by have := fx.2.2.2.2.2.2.2.2; rw [gv_cats]; omega) hc.1 hc.2 hd (by
    have e := nx ls H locs hL hW hX
    simp only [List.map_cons, gv] at e
    have e2 : i32 (if y < x then y else x) = if i32 y < i32 x then i32 y else i32 x := by
      by_cases q : y < x
      · rw [if_pos q, if_pos ((i32_lt hy hx).mpr q)]
      · rw [if_neg q, if_neg (fun z => q ((i32_lt hy hx).mp z))]
    rw [e2] at e
    exact e)
theorem nx_oini (fx : Fx g K d me) {idx k : Nat} (hml : L.length = me_ml me) (hd : decode (me_cc me) pc = .ok (.invokespecial idx, 3)) (hl : Jvm.Cond.methodLink (me_y me).cls idx objectInit ∈ WL) (hst : Jvm.Cond.instanceMethod objectInit ∈ WL) (hco : Jvm.Cond.code objectInit ⟨#[0xb1]⟩ 1 none ∈ WL) (h1 : 1 ≤ d) (nx : NX g K Q c0 s0 (pc + 3) L [] kd F P) : NX g K Q c0 s0 pc L [.inr (some k)] kd F P :=
  fun ls H locs hL hW hX => W.objInit fx.1 fx.2.1 fx.2.2.2.1 (fx.2.2.2.2.1 _ hl) (fx.2.2.2.2.1 _ hst) (fx.2.2.2.2.1 _ hco) rfl (by show ls.size = _; rw [fx.2.2.1, hL.1, hml]) rfl hd (by have := fx.2.2.2.2.2.2.2.1; omega) (by have := fx.2.2.2.2.2.2.2.2; show 2 * 0 + 0 + 12 ≤ _; omega) (nx ls H locs hL hW hX)
end STEPS
