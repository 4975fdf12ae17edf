/-! THE INTERPRETER IS SOUND, an instruction a row. K: where the cells stand (base, the three rows that were there before, kinds' numbers, the heap at the start). -/
abbrev GX : Type := Program × Launch × Env × Room × State × MethodId × Array Value × List Frame × Method × Code
abbrev KX : Type := Nat × (Nat → Nat) × (Nat → ClassId) × (Nat → Nat → Nat) × ClassId × ClassId × Heap × (Nat → Nat) × FM × ClassId
def kz (K : KX) : Nat := K.1
def kx (K : KX) : Nat → Nat := K.2.1
def kC (K : KX) : Nat → ClassId := K.2.2.1
def kI (K : KX) : Nat → Nat → Nat := K.2.2.2.1
def kcI (K : KX) : ClassId := K.2.2.2.2.1
def kcR (K : KX) : ClassId := K.2.2.2.2.2.1
def kH (K : KX) : Heap := K.2.2.2.2.2.2.1
def kn (K : KX) : Nat → Nat := K.2.2.2.2.2.2.2.1
def kf (K : KX) : FM := K.2.2.2.2.2.2.2.2.1
def kcL (K : KX) : ClassId := K.2.2.2.2.2.2.2.2.2
abbrev kD (K : KX) : va_G := (kC K, kI K)
def ad (K : KX) (k : Nat) : Nat := if k < 3 then kx K k else kz K + (k - 3)
def gv (K : KX) (v : AV) : Value := match v with
  | .inl i => .int (i32 i)
  | .inr r => va_rf (r.map (ad K))
def okv (v : AV) : Prop := match v with
  | .inl i => inb i
  | .inr _ => True
def sval (K : KX) (c j : Nat) (i : Int) (r : Option Nat) : Value := if isN (tyOf c j) = true then .int (i32 i) else va_rf (r.map (ad K))
def ob (K : KX) (c n : Nat) (f : Int → Int) (q : Int → Option Nat) : List Value := (List.range n).map (fun j => sval K c j (f (j : Int)) (q (j : Int)))
def cel (K : KX) (e : Nat × Nat) (f : Int → Int) (q : Int → Option Nat) : va_E := match e with
  | (0, n) => .inl (kcI K, (n, .inl (fun j => i32 (f (j : Int)))))
  | (1, n) => .inl (kcR K, (n, .inr (.inr (.inr (.inr (fun j => (q (j : Int)).map (ad K)))))))
  | (c + 2, n) => if c = 28 then .inl (kcL K, (n, .inr (.inl (fun j => Int64.ofInt (f (j : Int)))))) else .inr (c, ob K c n f q)
theorem cel_ob {K : KX} {ci n : Nat} {f : Int → Int} {q : Int → Option Nat} (h : ci ≠ 28) : cel K (ci + 2, n) f q = .inr (ci, ob K ci n f q) := if_neg h
theorem cel_ln {K : KX} {n : Nat} {f : Int → Int} {q : Int → Option Nat} : cel K (30, n) f q = .inl (kcL K, (n, .inr (.inl (fun j => Int64.ofInt (f (j : Int)))))) := by
  show (if (28 : Nat) = 28 then (Sum.inl (kcL K, (n, .inr (.inl (fun j => Int64.ofInt (f (j : Int)))))) : va_E) else .inr (28, ob K 28 n f q)) = _
  exact if_pos rfl
theorem ci_of {ci : Nat} {r : vw_C} (h : vwCl[ci]? = some r) : ci ≠ 28 := by
  intro z
  subst z
  simp [vwCl] at h
def WI (K : KX) (kd : KL) (F : FM) (P : PM) (H : Heap) : Prop :=
  3 ≤ kd.length ∧ H.size + 3 = kz K + kd.length ∧ (∀ q, q < kz K → H[q]? = (kH K)[q]?) ∧ (∀ k e, 3 ≤ k → kd[k]? = some e → va_at (kD K) vwCl (ad K k, cel K e (F k) (P k)) H) ∧ (∀ k, k < 3 → kd[k]? = some (0, kn K k) ∧ F k = kf K k)
def zA (K : KX) : Nat → Prop := fun q => kz K ≤ q
abbrev RNG : String := "HiddenBids"
def NWs : List Jvm.Cond := [.methodLinkNest RX5 38 yX4_init RNG, .methodLinkNest RX5 45 yX3_init RNG, .methodLinkNest RX7 25 yX6_init RNG, .methodLinkNest RX7 32 yX2_init RNG, .methodLinkNest RX7 39 yX0_init RNG, .methodLinkNest RX0 11 yX2_init RNG, .fieldLinkNest RX5 50 RNG "FIRST_SETTINGS" "[I" RNG, .fieldLinkNest RX5 114 RNG "GREATEST_SETTINGS" "[I" RNG]
def TF (K : KX) (U : State) : Prop :=
  (kH K).size = kz K ∧ va_K (kD K) vwCl [(kcI K, .int), (kcR K, .object RX5), (kcL K, .long)] U ∧ (∀ w ∈ NWs, va_Nw w U) ∧ va_AO RX5 U ∧ (∀ k, k < 3 → va_T .int (kx K k) (kn K k) (fun j => .int (i32 (kf K k (j : Int)))) (zA K) U (kH K)) ∧ va_Z RNG "FIRST_SETTINGS" "[I" (.ref (kx K 1)) (zA K) U (kH K) ∧ va_Z RNG "GREATEST_SETTINGS" "[I" (.ref (kx K 2)) (zA K) U (kH K)
def WL : List Jvm.Cond := lw_tbl.filter goodWord
def LI (K : KX) (L : LV) (ls : Array Slot) : Prop := ls.size = L.length ∧ lv_wf ls ∧ ∀ (i : Nat) (v : AV), L[i]? = some (some v) → ls[i]? = some (Slot.val (gv K v))
def XI (K : KX) (locs : List Loc) : Prop := ∀ q ∈ locs, kz K ≤ q.base
def ksz (kd : KL) : Nat := (kd.map Prod.snd).sum
def gW (g : GX) (H : Heap) (locs : List Loc) (cells slots : Nat) (Q : State → Prop) (fr : JFrame) : Prop :=
  W g.1 g.2.1 g.2.2.1 g.2.2.2.1 g.2.2.2.2.1 g.2.2.2.2.2.1 g.2.2.2.2.2.2.1 g.2.2.2.2.2.2.2.1 g.2.2.2.2.2.2.2.2.1 g.2.2.2.2.2.2.2.2.2 H locs cells slots Q fr
def NX (g : GX) (K : KX) (Q : State → Prop) (c0 s0 pc : Nat) (L : LV) (S : List AV) (kd : KL) (F : FM) (P : PM) : Prop :=
  ∀ ls H locs, LI K L ls → WI K kd F P H → XI K locs → gW g H locs (kd.length - c0) (ksz kd - s0) Q (F0 g.2.2.2.2.2.1 pc ls (S.map (gv K)))
def Fx (g : GX) (K : KX) (d : Nat) (me : ME) : Prop :=
  g.1.tables.exec = Jvm.exec ∧ g.2.2.2.2.2.2.2.2.2.code = me_cc me ∧ g.2.2.2.2.2.2.2.2.2.maxLocals = me_ml me ∧ g.2.2.2.2.1.vm.findClass (me_y me).cls = some g.2.2.2.2.2.1.cls ∧ (∀ w ∈ WL, w.before g.2.2.2.2.2.2.1 g.2.2.2.2.1 = true) ∧ TF K g.2.2.2.2.1 ∧ ((me_y me).name = "<init>" → g.2.2.2.2.2.2.2.2.1.name = "<init>") ∧ d ≤ g.2.2.2.1.frames ∧ 39 * d ≤ g.2.2.2.1.locals
theorem i32_toInt {i : Int} (h : inb i) : (i32 i).toInt = i := Int32.toInt_ofInt_of_le (by have := h.1; omega) (by have := h.2; omega)
theorem i32_wr (i : Int) : i32 (wr i) = i32 i := by
  unfold i32
  rw [Int32.ofInt_eq_iff_bmod_eq_toInt, Int32.toInt_ofInt]
  unfold wr
  show Int.bmod _ _ = Int.bmod _ 4294967296
  simp only [Int.bmod]
  omega
theorem inb_wr (i : Int) : inb (wr i) := by unfold inb wr; omega
theorem inb_toInt (x : Int32) : inb x.toInt := ⟨by have := x.le_toInt; omega, by have := x.toInt_lt; omega⟩
theorem i32_of (x : Int32) : i32 x.toInt = x := Int32.ofInt_toInt x
theorem wr_id {i : Int} (h : inb i) : wr i = i := by unfold wr; unfold inb at h; omega
theorem i32_add (a b : Int) : i32 (wr (a + b)) = i32 a + i32 b := by rw [i32_wr]; exact Int32.ofInt_add a b
theorem i32_sub (a b : Int) : i32 (wr (a - b)) = i32 a - i32 b := by rw [i32_wr]; exact Int32.ofInt_sub a b
theorem i32_mul (a b : Int) : i32 (wr (a * b)) = i32 a * i32 b := by rw [i32_wr]; exact Int32.ofInt_mul a b
theorem i32_neg (a : Int) : i32 (wr (-a)) = -i32 a := by rw [i32_wr]; exact Int32.ofInt_neg a
theorem i32_div {a b : Int} (ha : inb a) (hb : inb b) : i32 (wr (Int.tdiv a b)) = i32 a / i32 b := by
  rw [i32_wr, ← Int32.toInt_inj, Int32.toInt_div, i32_toInt ha, i32_toInt hb]
  exact Int32.toInt_ofInt
theorem i32_rem {a b : Int} (ha : inb a) (hb : inb b) : i32 (wr (a - Int.tdiv a b * b)) = i32 a - i32 a / i32 b * i32 b := by
  rw [i32_sub, ← i32_div ha hb, i32_wr (Int.tdiv a b), ← i32_mul, i32_wr]
theorem i32_le {a b : Int} (ha : inb a) (hb : inb b) : i32 a ≤ i32 b ↔ a ≤ b := by rw [Int32.le_iff_toInt_le, i32_toInt ha, i32_toInt hb]
theorem i32_lt {a b : Int} (ha : inb a) (hb : inb b) : i32 a < i32 b ↔ a < b := by rw [Int32.lt_iff_toInt_lt, i32_toInt ha, i32_toInt hb]
theorem i32_eq {a b : Int} (ha : inb a) (hb : inb b) : i32 a = i32 b ↔ a = b := by rw [← Int32.toInt_inj, i32_toInt ha, i32_toInt hb]
theorem i32_0 : (0 : Int32) = i32 0 := by decide
theorem inb_0 : inb 0 := by unfold inb; omega
theorem i32_n {a : Int} (h : inb a) : (i32 a).toNatClampNeg = a.toNat := by show (i32 a).toInt.toNat = _; rw [i32_toInt h]
theorem i32_in {a : Int} {n : Nat} (h : inb a) (h0 : 0 ≤ a) (h1 : a < n) : vp_in (i32 a) n := vp_in_iff.mpr (by rw [i32_toInt h]; exact ⟨h0, h1⟩)
theorem i32_8 {n : Int} (h0 : -128 ≤ n) (h1 : n < 128) : (Int8.ofInt n).toInt32 = i32 n := by
  rw [← Int32.toInt_inj, Int8.toInt_toInt32, i32_toInt (by unfold inb; omega)]
  exact Int8.toInt_ofInt_of_le (by omega) (by omega)
theorem i32_16 {n : Int} (h0 : -32768 ≤ n) (h1 : n < 32768) : (Int16.ofInt n).toInt32 = i32 n := by
  rw [← Int32.toInt_inj, Int16.toInt_toInt32, i32_toInt (by unfold inb; omega)]
  exact Int16.toInt_ofInt_of_le (by omega) (by omega)
theorem inbB_spec {i : Int} (h : inbB i = true) : inb i := by
  simp only [inbB, Bool.and_eq_true, decide_eq_true_eq] at h
  exact h
theorem gv_cat (K : KX) (v : AV) : (gv K v).category = 1 := by
  rcases v with i | r
  · rfl
  · cases r <;> rfl
theorem gv_cats (K : KX) (S : List AV) : ((S.map (gv K)).map fun v => v.category).sum = S.length := by
  induction S with
  | nil => rfl
  | cons v S ih => simp only [List.map_cons, List.sum_cons, List.length_cons, ih, gv_cat]; omega
theorem WL_lw {w : Jvm.Cond} (h : w ∈ WL) : w ∈ lw_tbl := (List.mem_filter.mp h).1
theorem WL_good {w : Jvm.Cond} (h : w ∈ WL) : goodWord w = true := (List.mem_filter.mp h).2
theorem WL_of {p : Nat} {w : Jvm.Cond} (h : lw_tbl[p]? = some w) (hg : goodWord w = true) : w ∈ WL := List.mem_filter.mpr ⟨List.mem_of_getElem? h, hg⟩
theorem WL_GoodIn {ws : List Jvm.Cond} (h : ∀ w ∈ ws, w ∈ WL) : GoodIn WL ws := fun w hw => ⟨h w hw, good_of_word (WL_good (h w hw))⟩
/-! ## locals -/
def lvk (K : KX) (L : LV) : List (Nat × Value) := (List.range L.length).filterMap (fun i => match L[i]? with
  | some (some v) => some (i, gv K v)
  | _ => none)
theorem lvk_mem {K : KX} {L : LV} {q : Nat × Value} (h : q ∈ lvk K L) : ∃ v, L[q.1]? = some (some v) ∧ q.2 = gv K v := by
  unfold lvk at h
  obtain ⟨i, -, hi⟩ := List.mem_filterMap.mp h
  split at hi
  · next v hv => cases hi; exact ⟨v, hv, rfl⟩
  · cases hi
theorem lvk_in {K : KX} {L : LV} {i : Nat} {v : AV} (h : L[i]? = some (some v)) : (i, gv K v) ∈ lvk K L := by
  unfold lvk
  refine List.mem_filterMap.mpr ⟨i, List.mem_range.mpr (List.getElem?_eq_some_iff.mp h).1, ?_⟩
  rw [h]
theorem LI_has {K : KX} {L : LV} {ls : Array Slot} (h : LI K L ls) : lv_has ls L.length (lvk K L) := ⟨h.1, h.2.1, fun q hq => by
  obtain ⟨v, h1, h2⟩ := lvk_mem hq
  rw [h2]
  exact h.2.2 _ _ h1⟩
theorem LI_set {K : KX} {L : LV} {ls : Array Slot} {i : Nat} {v : AV} {lv : List (Nat × Value)} (hsub : ∀ q ∈ lvk K L, q ∈ lv) (h : lv_has ls L.length ((i, gv K v) :: lv.filter (fun q => !(q.1 == i) && !(q.1 + 1 == i && q.2.category == 2)))) : LI K (L.set i (some v)) ls := by
  refine ⟨by rw [List.length_set]; exact h.1, h.2.1, fun j w hj => ?_⟩
  rw [List.getElem?_set] at hj
  by_cases hij : i = j
  · subst hij
    rw [if_pos rfl] at hj
    split at hj
    · cases hj
      exact h.2.2 (i, gv K v) List.mem_cons_self
    · cases hj
  · rw [if_neg hij] at hj
    refine h.2.2 (j, gv K w) (List.mem_cons_of_mem _ (List.mem_filter.mpr ⟨hsub _ (lvk_in hj), ?_⟩))
    have : (j == i) = false := by simp; omega
    simp [this, gv_cat]
/-! ## the world -/
theorem WI_at {K : KX} {kd : KL} {F : FM} {P : PM} {H : Heap} (h : WI K kd F P H) {k : Nat} {e : Nat × Nat} (h3 : 3 ≤ k) (hk : kd[k]? = some e) : va_P (kD K) vwCl [(ad K k, cel K e (F k) (P k))] H := by
  intro i q hi
  have h1 : i < 1 := (List.getElem?_eq_some_iff.mp hi).1
  rw [show i = 0 by omega] at hi
  cases hi
  exact h.2.2.2.1 k e h3 hk
theorem ad_lt {K : KX} {kd : KL} {F : FM} {P : PM} {H : Heap} (h : WI K kd F P H) {k : Nat} {e : Nat × Nat} (h3 : 3 ≤ k) (hk : kd[k]? = some e) : kz K ≤ ad K k ∧ ad K k < H.size := by
  have hl := (List.getElem?_eq_some_iff.mp hk).1
  have h2 := h.2.1
  unfold ad
  rw [if_neg (by omega)]
  omega
theorem ad_inj {K : KX} {k j : Nat} (h3 : 3 ≤ k) (j3 : 3 ≤ j) (h : ad K k = ad K j) : k = j := by
  unfold ad at h
  rw [if_neg (by omega), if_neg (by omega)] at h
  omega
/-- one cell is written anew -/
theorem WI_put {K : KX} {kd : KL} {F F' : FM} {P P' : PM} {H H' : Heap} (h : WI K kd F P H) {k : Nat} {e : Nat × Nat} (h3 : 3 ≤ k) (hk : kd[k]? = some e) (hat : va_at (kD K) vwCl (ad K k, cel K e (F' k) (P' k)) H') (hz : H'.size = H.size) (ho : ∀ q, q ≠ ad K k → H'[q]? = H[q]?) (hF : ∀ j, j ≠ k → F' j = F j) (hP : ∀ j, j ≠ k → P' j = P j) : WI K kd F' P' H' := by
  obtain ⟨a0, a1, a2, a3, a4⟩ := id h
  have hlt := ad_lt h h3 hk
  refine ⟨a0, by rw [hz]; exact a1, fun q hq => (ho q (by omega)).trans (a2 q hq), fun j e' j3 hj => ?_, fun j j3 => ⟨(a4 j j3).1, by rw [hF j (by omega)]; exact (a4 j j3).2⟩⟩
  by_cases hjk : j = k
  · subst hjk
    cases hk.symm.trans hj
    exact hat
  · rw [hF j hjk, hP j hjk]
    exact (a3 j e' j3 hj).kept (ho _ (fun z => hjk (ad_inj j3 h3 z)))
/-- a new cell comes -/
theorem WI_new {K : KX} {kd : KL} {F F' : FM} {P P' : PM} {H H' : Heap} (h : WI K kd F P H) {e : Nat × Nat} (hat : va_at (kD K) vwCl (ad K kd.length, cel K e (F' kd.length) (P' kd.length)) H') (hz : H'.size = H.size + 1) (ho : ∀ q, q < H.size → H'[q]? = H[q]?) (hF : ∀ j, j ≠ kd.length → F' j = F j) (hP : ∀ j, j ≠ kd.length → P' j = P j) : WI K (kd ++ [e]) F' P' H' := by
  obtain ⟨a0, a1, a2, a3, a4⟩ := id h
  refine ⟨by simp; omega, by rw [hz, List.length_append]; simp; omega, fun q hq => (ho q (by omega)).trans (a2 q hq), fun j e' j3 hj => ?_, fun j j3 => ⟨by rw [List.getElem?_append_left (by omega)]; exact (a4 j j3).1, by rw [hF j (by omega)]; exact (a4 j j3).2⟩⟩
  by_cases hl : j < kd.length
  · rw [List.getElem?_append_left hl] at hj
    rw [hF j (by omega), hP j (by omega)]
    exact (a3 j e' j3 hj).kept (ho _ (ad_lt h j3 hj).2)
  · rw [List.getElem?_append_right (by omega)] at hj
    have hz : j - kd.length < 1 := (List.getElem?_eq_some_iff.mp hj).1
    have hjl : j = kd.length := by omega
    subst hjl
    rw [Nat.sub_self] at hj
    cases hj
    exact hat
theorem ad_new {K : KX} {kd : KL} {F : FM} {P : PM} {H : Heap} (h : WI K kd F P H) : ad K kd.length = H.size := by
  have h0 := h.1
  have h2 := h.2.1
  unfold ad
  rw [if_neg (by omega)]
  omega
