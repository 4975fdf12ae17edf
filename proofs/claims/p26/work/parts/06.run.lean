def wAt (p : Nat) (w : Jvm.Cond) : Bool := decide (lw_tbl[p]? = some w) && goodWord w
def nAt (p : Nat) (w : Jvm.Cond) : Bool := decide (NWs[p]? = some w)
theorem wAt_in {p : Nat} {w : Jvm.Cond} (h : wAt p w = true) : w ∈ WL := by
  simp only [wAt, Bool.and_eq_true, decide_eq_true_eq] at h
  exact WL_of h.1 h.2
theorem nAt_in {p : Nat} {w : Jvm.Cond} (h : nAt p w = true) : w ∈ NWs := by
  simp only [nAt, decide_eq_true_eq] at h
  exact List.mem_of_getElem? h
def okG (me : ME) (idx : Nat) (ri : RI) (put : Bool) : Bool := match vwCl[ri.1]? with
  | some r => decide (ri.2.1 < r.2.2) && wAt ri.2.2.1 (.fieldLink (me_y me).cls idx (r.2.1 ri.2.1).1 (r.2.1 ri.2.1).2.1 (r.2.1 ri.2.1).2.2.1) && (!put || !(r.2.1 ri.2.1).2.2.2 || (decide ((me_y me).name = "<init>") && decide ((r.2.1 ri.2.1).1 = (me_y me).cls)))
  | none => false
def okC (pg : Nat → Option ME) (me : ME) (kd idx : Nat) (ri : RI) : Bool := match pg ri.1 with
  | some ce => decide (me_kd ce = kd) && (if ri.2.1 = 0 then wAt ri.2.2.1 (.methodLink (me_y me).cls idx (me_y ce)) else decide (ri.2.1 = 1) && decide (kd ≠ 0) && nAt ri.2.2.1 (.methodLinkNest (me_y me).cls idx (me_y ce) RNG))
  | none => false
def okJ (pg : Nat → Option ME) (me : ME) (ins : Instr) (len : Nat) (ri : RI) : Bool := match ins with
  | .iconst n => decide (len = 1) && inbB n
  | .bipush n => decide (len = 2) && (decide (-128 ≤ n) && decide (n < 128))
  | .sipush n => decide (len = 3) && (decide (-32768 ≤ n) && decide (n < 32768))
  | .ldc idx => decide (len = 2) && (inbB ri.2.2.2 && wAt ri.1 (.constant (me_y me).cls idx (i32 ri.2.2.2)))
  | .iload _ => decide (len = 2)
  | .aload _ => decide (len = 2)
  | .istore _ => decide (len = 2)
  | .astore _ => decide (len = 2)
  | .iload_n _ => decide (len = 1)
  | .aload_n _ => decide (len = 1)
  | .istore_n _ => decide (len = 1)
  | .astore_n _ => decide (len = 1)
  | .iinc _ _ => decide (len = 3)
  | .iadd => decide (len = 1)
  | .isub => decide (len = 1)
  | .imul => decide (len = 1)
  | .iand => decide (len = 1)
  | .idiv => decide (len = 1)
  | .irem => decide (len = 1)
  | .ineg => decide (len = 1)
  | .dup => decide (len = 1)
  | .dup2 => decide (len = 1)
  | .laload => decide (len = 1)
  | .i2l => decide (len = 1)
  | .ishr => decide (len = 1)
  | .ixor => decide (len = 1)
  | .pop => decide (len = 1)
  | .iaload => decide (len = 1)
  | .aaload => decide (len = 1)
  | .iastore => decide (len = 1)
  | .aastore => decide (len = 1)
  | .arraylength => decide (len = 1)
  | .ireturn => decide (len = 1)
  | .areturn => decide (len = 1)
  | .return_ => decide (len = 1)
  | .goto _ => decide (len = 3)
  | .if_icmp _ _ => decide (len = 3)
  | .ifCond _ _ => decide (len = 3)
  | .getfield idx => decide (len = 3) && okG me idx ri false
  | .putfield idx => decide (len = 3) && okG me idx ri true
  | .new idx => decide (len = 3) && (match vwCl[ri.1]? with
    | some r => decide (ri.2.1 = r.2.2) && wAt ri.2.2.1 (.classLink (me_y me).cls idx r.1)
    | none => false)
  | .newarray _ => decide (len = 2)
  | .anewarray idx => decide (len = 3) && wAt ri.1 (.classLink (me_y me).cls idx RX5)
  | .getstatic idx => decide (len = 3) && (decide (ri.1 = 1) && nAt ri.2.1 (.fieldLinkNest (me_y me).cls idx RNG "FIRST_SETTINGS" "[I" RNG) || decide (ri.1 = 2) && nAt ri.2.1 (.fieldLinkNest (me_y me).cls idx RNG "GREATEST_SETTINGS" "[I" RNG))
  | .tableswitch _ _ _ _ => true
  | .lookupswitch _ _ => true
  | .invokevirtual idx => decide (len = 3) && (decide (ri.2.1 = 0) && okC pg me 0 idx ri)
  | .invokestatic idx => decide (len = 3) && (if ri.2.1 = 2 then wAt ri.1 (.methodLink (me_y me).cls idx arraycopyName) else if ri.2.1 = 4 then wAt ri.1 (.methodLink (me_y me).cls idx Lib.Math.min.name) else okC pg me 1 idx ri)
  | .invokespecial idx => decide (len = 3) && (if ri.2.1 = 5 then wAt ri.1 (.methodLink (me_y me).cls idx objectInit) else okC pg me 2 idx ri)
  | _ => false
/-- what stands behind an instruction that is taken together with others -/
def okM (me : ME) (pc : Nat) (ins : Instr) (ri : RI) : Bool := match ins with
  | .laload => if ri.1 = 1 then decide ((me_y me).cls = RL) && (dcB me (pc + 1) (.ldc2_w 9) 3 && (dcB me (pc + 4) .land 1 && (dcB me (pc + 5) (.iload_n 2) 1 && (dcB me (pc + 6) .i2l 1 && dcB me (pc + 7) .lcmp 1))))
    else if ri.1 = 2 then decide ((me_y me).cls = RL) && (dcB me (pc + 1) (.bipush 8) 2 && (dcB me (pc + 3) .lshr 1 && (dcB me (pc + 4) (.ldc2_w 9) 3 && (dcB me (pc + 7) .land 1 && (dcB me (pc + 8) (.iload_n 3) 1 && (dcB me (pc + 9) .i2l 1 && dcB me (pc + 10) .lcmp 1))))))
    else decide ((me_y me).cls = RL) && (dcB me (pc + 1) (.bipush 16) 2 && (dcB me (pc + 3) .lshr 1 && (dcB me (pc + 4) (.ldc2_w 9) 3 && (dcB me (pc + 7) .land 1 && dcB me (pc + 8) .l2i 1))))
  | .i2l => if ri.1 = 4 then decide ((me_y me).cls = RL) && (dcB me (pc + 1) (.aload 4) 2 && (dcB me (pc + 3) (.iload 7) 2 && (dcB me (pc + 5) .laload 1 && (dcB me (pc + 6) (.ldc2_w 9) 3 && (dcB me (pc + 9) .land 1 && dcB me (pc + 10) .lcmp 1)))))
    else if ri.1 = 5 then (decide ((me_y me).cls = RL) && (decide (ri.2.1 = 8) || (decide (ri.2.1 = 16) || decide (ri.2.1 = 24)))) && (dcB me (pc + 1) (.aload 4) 2 && (dcB me (pc + 3) (.iload 7) 2 && (dcB me (pc + 5) .laload 1 && (dcB me (pc + 6) (.bipush (ri.2.1 : Int)) 2 && (dcB me (pc + 8) .lshr 1 && (dcB me (pc + 9) (.ldc2_w 9) 3 && (dcB me (pc + 12) .land 1 && dcB me (pc + 13) .lcmp 1)))))))
    else decide ((me_y me).cls = RL) && (dcB me (pc + 1) (.ldc2_w 11) 3 && (dcB me (pc + 4) (.iload_n 3) 1 && (dcB me (pc + 5) .i2l 1 && (dcB me (pc + 6) .lmul 1 && (dcB me (pc + 7) .ladd 1 && dcB me (pc + 8) .lastore 1)))))
  | .dup2 => !decide (ri.1 = 7) || (decide ((me_y me).cls = RL) && (dcB me (pc + 1) .laload 1 && (dcB me (pc + 2) (.ldc2_w 13) 3 && (dcB me (pc + 5) (.iload 4) 2 && (dcB me (pc + 7) (.ifCond .eq 9) 3 && (dcB me (pc + 10) (.ldc2_w 15) 3 && (dcB me (pc + 13) (.goto 4) 3 && (dcB me (pc + 16) (.lconst 0) 1 && (dcB me (pc + 17) .ladd 1 && (dcB me (pc + 18) .ladd 1 && dcB me (pc + 19) .lastore 1))))))))))
  | _ => true
def okI (pg : Nat → Option ME) (me : ME) (e : CI) : Bool := (decide (decode (me_cc me) e.1 = .ok (e.2.1, e.2.2.1)) && okJ pg me e.2.1 e.2.2.1 e.2.2.2) && okM me e.1 e.2.1 e.2.2.2
def GWs : Prop := (∀ (c : Nat) (r : vw_C), vwCl[c]? = some r → (∀ w ∈ u_ws r.1 r.2.1 r.2.2, w ∈ WL) ∧ Jvm.Cond.instantiable r.1 r.2.2 ∈ WL ∧ Jvm.Cond.initialized r.1 ∈ WL) ∧
  (Jvm.Cond.initialized "java/lang/Math" ∈ WL ∧ Jvm.Cond.static Lib.Math.min.name ∈ WL ∧ Jvm.Cond.code Lib.Math.min.name Lib.Math.min.code 2 (some .int) ∈ WL) ∧
  (Jvm.Cond.native arraycopyName ∈ WL ∧ Jvm.Cond.static arraycopyName ∈ WL ∧ Jvm.Cond.initialized "java/lang/System" ∈ WL) ∧
  (Jvm.Cond.instanceMethod objectInit ∈ WL ∧ Jvm.Cond.code objectInit ⟨#[0xb1]⟩ 1 none ∈ WL) ∧ Jvm.Cond.arrayClass .int ∈ WL ∧ (Jvm.Cond.arrayClass .long ∈ WL ∧ Jvm.Cond.constantLong RL 9 255 ∈ WL ∧ Jvm.Cond.constantLong RL 11 256 ∈ WL ∧ Jvm.Cond.constantLong RL 13 65536 ∈ WL ∧ Jvm.Cond.constantLong RL 15 16777216 ∈ WL)
def AK (me : ME) (L : LV) (S : List AV) (F : FM) : Prop := L.length = me_ml me ∧ (∀ v ∈ S, okv v) ∧ (∀ (i : Nat) (v : AV), L[i]? = some (some v) → okv v) ∧ ∀ k j, inb (F k j)
theorem AK_push {me : ME} {L : LV} {S : List AV} {F : FM} {v : AV} (h : AK me L S F) (hv : okv v) : AK me L (v :: S) F := ⟨h.1, List.forall_mem_cons.mpr ⟨hv, h.2.1⟩, h.2.2⟩
theorem AK_pop {me : ME} {L : LV} {S : List AV} {F : FM} {v : AV} (h : AK me L (v :: S) F) : AK me L S F ∧ okv v := ⟨⟨h.1, (List.forall_mem_cons.mp h.2.1).2, h.2.2⟩, (List.forall_mem_cons.mp h.2.1).1⟩
theorem AK_set {me : ME} {L : LV} {S : List AV} {F : FM} {v : AV} {i : Nat} (h : AK me L S F) (hv : okv v) : AK me (L.set i (some v)) S F := by
  refine ⟨by rw [List.length_set]; exact h.1, h.2.1, fun j w hj => ?_, h.2.2.2⟩
  rw [List.getElem?_set] at hj
  split at hj
  · split at hj
    · cases hj; exact hv
    · cases hj
  · exact h.2.2.1 j w hj
theorem AK_F {me : ME} {L : LV} {S : List AV} {F F' : FM} (h : AK me L S F) (hF : ∀ k j, inb (F' k j)) : AK me L S F' := ⟨h.1, h.2.1, h.2.2.1, hF⟩
theorem inb_stt {F : FM} {k : Nat} {j v : Int} (h : ∀ k j, inb (F k j)) (hv : inb v) : ∀ a b, inb (stt F k j v a b) := by
  intro a b
  unfold stt
  split
  · exact hv
  · exact h a b
theorem inb_clF {F : FM} {k : Nat} (h : ∀ k j, inb (F k j)) : ∀ a b, inb (clF F k a b) := by
  intro a b
  unfold clF
  split
  · exact inb_0
  · exact h a b
theorem inb_cpF {F : FM} {s t : Nat} {sp dp n : Int} (h : ∀ k j, inb (F k j)) : ∀ a b, inb (cpF F s sp t dp n a b) := by
  intro a b
  unfold cpF
  split
  · exact h _ _
  · exact h a b
theorem ptr_fit {t : FieldType} (h : defaultValue t = .null) (r : Option Nat) : narrow t (va_rf r) = va_rf r ∧ fits t (va_rf r) = true := by
  cases t <;> first | (simp [defaultValue] at h; done) | (cases r <;> exact ⟨rfl, rfl⟩)
