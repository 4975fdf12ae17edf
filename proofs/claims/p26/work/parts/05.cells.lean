section CELLS
variable {g : GX} {K : KX} {d : Nat} {me : ME} {Q : State → Prop} {c0 s0 pc : Nat} {L : LV} {S : List AV} {kd : KL} {F : FM} {P : PM}
theorem clOk : ∀ (c : Nat) (r : vw_C), vwCl[c]? = some r → (∀ k, k < r.2.2 → parseFieldDescriptor (r.2.1 k).2.2.1 = some (tyOf c k)) ∧ (∀ a, a < r.2.2 → ∀ b, b < r.2.2 → a ≠ b → (r.2.1 a).2.1 ≠ (r.2.1 b).2.1) := by
  intro c r h
  match c, h with
  | 0, h => cases h; exact ⟨tyX0_ok, nmX0⟩
  | 1, h => cases h; exact ⟨tyX1_ok, nmX1⟩
  | 2, h => cases h; exact ⟨tyX2_ok, nmX2⟩
  | 3, h => cases h; exact ⟨tyX3_ok, nmX3⟩
  | 4, h => cases h; exact ⟨tyX4_ok, nmX4⟩
  | 5, h => cases h; exact ⟨tyX5_ok, nmX5⟩
  | 6, h => cases h; exact ⟨tyX6_ok, nmX6⟩
  | 7, h => cases h; exact ⟨tyX7_ok, nmX7⟩
  | c + 8, h => simp [vwCl] at h
theorem clDef : ∀ (c : Nat) (r : vw_C), vwCl[c]? = some r → ∀ k, k < r.2.2 → defaultValue (tyOf c k) = if isN (tyOf c k) = true then .int 0 else .null := by
  intro c r h
  match c, h with
  | 0, h => cases h; decide +kernel
  | 1, h => cases h; decide +kernel
  | 2, h => cases h; decide +kernel
  | 3, h => cases h; decide +kernel
  | 4, h => cases h; decide +kernel
  | 5, h => cases h; decide +kernel
  | 6, h => cases h; decide +kernel
  | 7, h => cases h; decide +kernel
  | c + 8, h => simp [vwCl] at h
/-- a row of numbers, one of the three that were there before or one of the system's own -/
theorem rowAt {H : Heap} (fx : Fx g K d me) (hW : WI K kd F P H) {k n : Nat} (hk : kd[k]? = some (0, n)) : ∃ cell : Cell, H[ad K k]? = some cell ∧ g.2.2.2.2.1.isArrayOf cell .int ∧ cell.vm ≠ .unknown ∧ n ≤ cell.slots.size ∧ cell.slots.size.toInt32 = Int32.ofNat n ∧ ∀ j : Nat, j < n → cell.slots[j]? = some (.int (i32 (F k (j : Int)))) := by
  by_cases h3 : 3 ≤ k
  · have h := hW.2.2.2.1 k _ h3 hk
    have h : H[ad K k]? = some (vp_cell (kcI K) (n, .inl (fun j => i32 (F k (j : Int))))) := h
    have hr := (fx.2.2.2.2.2.1.2.1.2 0 _ rfl).1 n (fun j => .int (i32 (F k (j : Int))))
    refine ⟨_, h, hr, (fun q => by cases q), ?_, ?_, fun j hj => ?_⟩
    · show n ≤ (arrV _ _ _).slots.size; rw [arrV_size]; exact Nat.le_refl n
    · show (arrV _ _ _).slots.size.toInt32 = _; rw [arrV_size]
    · show (arrV _ _ _).slots[j]? = _; rw [arrV_read _ _ hj]
  · have h3 : k < 3 := by omega
    obtain ⟨e1, e2⟩ := hW.2.2.2.2 k h3
    cases hk.symm.trans e1
    obtain ⟨cell, h1, h2, h4, h5, h6, h7, h8⟩ := fx.2.2.2.2.2.1.2.2.2.2.1 k h3
    have hz := fx.2.2.2.2.2.1.1
    have hlt := (Array.getElem?_eq_some_iff.mp h1).1
    refine ⟨cell, ?_, h2, h4, h5, h6, fun j hj => ?_⟩
    · unfold ad
      rw [if_pos h3, hW.2.2.1 _ (by omega)]
      exact h1
    · rw [e2]; exact h7 j hj
theorem nx_iald (fx : Fx g K d me) {k n : Nat} {i : Int} (hd : decode (me_cc me) pc = .ok (.iaload, 1)) (hk : kd[k]? = some (0, n)) (hi : inb i) (h0 : 0 ≤ i) (h1 : i < n) (nx : NX g K Q c0 s0 (pc + 1) L (.inl (F k i) :: S) kd F P) : NX g K Q c0 s0 pc L (.inl i :: .inr (some k) :: S) kd F P := by
  intro ls H locs hL hW hX
  obtain ⟨cell, e1, e2, e3, e4, e5, e6⟩ := rowAt fx hW hk
  refine W.iald fx.1 fx.2.1 e1 e2 e3 (j := i32 i) (v := .int (i32 (F k i))) ?_ (by rw [i32_n hi]; have e7 := e6 i.toNat (by omega); rw [Int.toNat_of_nonneg h0] at e7; exact e7) rfl rfl hd (nx ls H locs hL hW hX)
  have h9 := i32_in hi h0 h1
  unfold vp_in at h9
  intro z
  rcases z with z | z
  · exact h9 (Or.inl z)
  · exact h9 (Or.inr (Nat.le_trans e4 z))
theorem nx_alen (fx : Fx g K d me) {k n : Nat} (hd : decode (me_cc me) pc = .ok (.arraylength, 1)) (hk : kd[k]? = some (0, n)) (nx : NX g K Q c0 s0 (pc + 1) L (.inl (n : Int) :: S) kd F P) : NX g K Q c0 s0 pc L (.inr (some k) :: S) kd F P := by
  intro ls H locs hL hW hX
  obtain ⟨cell, e1, e2, e3, e4, e5, e6⟩ := rowAt fx hW hk
  exact W.alen fx.1 fx.2.1 e1 e2 (e5.trans Int32.ofInt_eq_ofNat.symm) rfl rfl hd (nx ls H locs hL hW hX)
theorem nx_aald (fx : Fx g K d me) {k n : Nat} {i : Int} (hd : decode (me_cc me) pc = .ok (.aaload, 1)) (h3 : 3 ≤ k) (hk : kd[k]? = some (1, n)) (hi : inb i) (h0 : 0 ≤ i) (h1 : i < n) (nx : NX g K Q c0 s0 (pc + 1) L (.inr (P k i) :: S) kd F P) : NX g K Q c0 s0 pc L (.inl i :: .inr (some k) :: S) kd F P := by
  intro ls H locs hL hW hX
  have e := nx ls H locs hL hW hX
  refine va_aldq (D := kD K) (cl := vwCl) fx.1 fx.2.1 fx.2.2.2.2.2.1.2.1 (WI_at hW h3 hk) 0 1 (C := RX5) (n := n) (f := fun j => (P k (j : Int)).map (ad K)) rfl rfl (i32_in hi h0 h1) hd ?_
  rw [i32_n hi, Int.toNat_of_nonneg h0]
  exact e
theorem XI_add {locs : List Loc} {a : Addr} {i : Nat} (hX : XI K locs) (h : kz K ≤ a) : XI K (locs ++ [⟨a, i⟩]) := by
  intro q hq
  rcases List.mem_append.mp hq with h1 | h1
  · exact hX q h1
  · rw [List.mem_singleton.mp h1]; exact h
theorem nx_iast (fx : Fx g K d me) {k n : Nat} {i v : Int} (hd : decode (me_cc me) pc = .ok (.iastore, 1)) (h3 : 3 ≤ k) (hk : kd[k]? = some (0, n)) (hi : inb i) (h0 : 0 ≤ i) (h1 : i < n) (nx : NX g K Q c0 s0 (pc + 1) L S kd (stt F k i v) P) : NX g K Q c0 s0 pc L (.inl v :: .inl i :: .inr (some k) :: S) kd F P := by
  intro ls H locs hL hW hX
  have h : H[ad K k]? = some (vp_cell (kcI K) (n, .inl (fun j => i32 (F k (j : Int))))) := hW.2.2.2.1 k _ h3 hk
  have hr := (fx.2.2.2.2.2.1.2.1.2 0 _ rfl).1 n (fun j => .int (i32 (F k (j : Int))))
  refine W.iast fx.1 fx.2.1 h hr (fun q => by cases q) (j := i32 i) (x := i32 v) ?_ rfl rfl hd (fun H' f1 f2 f3 => nx ls H' _ hL (WI_put hW h3 hk ?_ f2 f3 ?_ (fun _ _ => rfl)) (XI_add hX (ad_lt hW h3 hk).1))
  · have := i32_in hi h0 h1
    unfold vp_in at this
    show ¬ (_ ∨ (arrV _ _ _).slots.size ≤ _)
    rw [arrV_size]
    exact this
  · show H'[ad K k]? = some (vp_cell (kcI K) (n, .inl (fun j => i32 (stt F k i v k (j : Int)))))
    rw [f1]
    rw [vp_cell_i, vp_cell_i, arrV_store]
    congr 2
    funext q
    rw [i32_n hi]
    unfold updV stt
    by_cases hq : q = i.toNat
    · rw [if_pos hq, if_pos ⟨rfl, by omega⟩]
    · rw [if_neg hq, if_neg (fun z => hq (by have := z.2; omega))]
  · intro j hj
    funext q
    unfold stt
    rw [if_neg (fun z => hj z.1)]
theorem nx_aast (fx : Fx g K d me) {k n v : Nat} {i : Int} (hd : decode (me_cc me) pc = .ok (.aastore, 1)) (h3 : 3 ≤ k) (hk : kd[k]? = some (1, n)) (hi : inb i) (h0 : 0 ≤ i) (h1 : i < n) (v3 : 3 ≤ v) (hv : kd[v]? = some (7, 17)) (nx : NX g K Q c0 s0 (pc + 1) L S kd F (stp_ P k i (some v))) : NX g K Q c0 s0 pc L (.inr (some v) :: .inl i :: .inr (some k) :: S) kd F P := by
  intro ls H locs hL hW hX
  have h : H[ad K k]? = some (vp_cell (kcR K) (n, .inr (.inr (.inr (.inr (fun j => (P k (j : Int)).map (ad K))))))) := hW.2.2.2.1 k _ h3 hk
  have hvv : va_at (kD K) vwCl (ad K v, .inr (5, ob K 5 17 (F v) (P v))) H := by
    have h := hW.2.2.2.1 v _ v3 hv
    rw [show ((7 : Nat), (17 : Nat)) = (5 + 2, 17) from rfl, cel_ob (by decide)] at h
    exact h
  obtain ⟨r', hr', cellV, g1, g2, g3, -⟩ := hvv
  have hr : r' = (RX5, TX5, 17) := (Option.some.inj hr').symm
  subst hr
  have hcls := (fx.2.2.2.2.2.1.2.1.1 5 _ rfl).2
  obtain ⟨kA, comp, k1, k2, k3, -⟩ := (fx.2.2.2.2.2.1.2.1.2 1 _ rfl).2
  have hcomp : comp = (kD K).1 5 := Option.some.inj (k3.symm.trans hcls.1)
  subst hcomp
  obtain ⟨kC', hkC, -⟩ := hcls.2
  have hin := i32_in hi h0 h1
  unfold vp_in at hin
  refine W.aast fx.1 fx.2.1 h (fun q z => by cases z) (fun z => by cases z) k1 k2 rfl hkC (j := i32 i) ⟨fun z => hin (Or.inl z), ?_⟩ g1 (fun q z => by rw [g3] at z; cases z) (by rw [g2]; exact hkC) (by rw [g2]; exact va_assign hcls) rfl rfl hd (fun H' f1 f2 f3 => nx ls H' _ hL (WI_put hW h3 hk ?_ f2 f3 (fun _ _ => rfl) ?_) (XI_add hX (ad_lt hW h3 hk).1))
  · show _ < (arrV _ _ _).slots.size
    rw [arrV_size]
    omega
  · show H'[ad K k]? = some (vp_cell (kcR K) (n, .inr (.inr (.inr (.inr (fun j => (stp_ P k i (some v) k (j : Int)).map (ad K)))))))
    rw [f1]
    rw [vp_cell_q, vp_cell_q, arrV_store]
    congr 2
    funext q
    rw [i32_n hi]
    unfold updV stp_
    by_cases hq : q = i.toNat
    · rw [if_pos hq, if_pos ⟨rfl, by omega⟩]; rfl
    · rw [if_neg hq, if_neg (fun z => hq (by have := z.2; omega))]
  · intro j hj
    funext q
    unfold stp_
    rw [if_neg (fun z => hj z.1)]
theorem ob_get {c n j : Nat} {f : Int → Int} {q : Int → Option Nat} (hj : j < n) : (ob K c n f q)[j]? = some (sval K c j (f (j : Int)) (q (j : Int))) := by
  unfold ob
  rw [List.getElem?_map, List.getElem?_range hj]
  rfl
theorem nx_getf (fx : Fx g K d me) {k n ci j idx : Nat} {r : vw_C} (hd : decode (me_cc me) pc = .ok (.getfield idx, 3)) (h3 : 3 ≤ k) (hk : kd[k]? = some (ci + 2, n)) (hj : j < n) (hr : vwCl[ci]? = some r) (hjr : j < r.2.2) (hu : ∀ w ∈ u_ws r.1 r.2.1 r.2.2, w ∈ WL) (hl : Jvm.Cond.fieldLink (me_y me).cls idx (r.2.1 j).1 (r.2.1 j).2.1 (r.2.1 j).2.2.1 ∈ WL) (nx : NX g K Q c0 s0 (pc + 3) L ((if isN (tyOf ci j) = true then .inl (F k (j : Int)) else .inr (P k (j : Int))) :: S) kd F P) : NX g K Q c0 s0 pc L (.inr (some k) :: S) kd F P := by
  intro ls H locs hL hW hX
  have e := nx ls H locs hL hW hX
  have e2 : gv K (if isN (tyOf ci j) = true then .inl (F k (j : Int)) else .inr (P k (j : Int))) = sval K ci j (F k (j : Int)) (P k (j : Int)) := by
    unfold sval
    split <;> rfl
  rw [List.map_cons, e2] at e
  have hP' := WI_at hW h3 hk
  rw [cel_ob (ci_of hr)] at hP'
  exact va_get (D := kD K) (cl := vwCl) (T := r.2.1) (C := r.1) (N := r.2.2) (ci := ci) fx.1 fx.2.1 fx.2.2.2.2.1 hu fx.2.2.2.1 fx.2.2.2.2.2.1.2.1 hP' 0 rfl hr j hjr (fx.2.2.2.2.1 _ hl) (fun _ z => z) (ob_get hj) hd e
theorem ob_set {c n j : Nat} {f : Int → Int} {q : Int → Option Nat} {f' : Int → Int} {q' : Int → Option Nat} (hf : ∀ i : Nat, i ≠ j → f' (i : Int) = f (i : Int)) (hq : ∀ i : Nat, i ≠ j → q' (i : Int) = q (i : Int)) : (ob K c n f q).set j (sval K c j (f' (j : Int)) (q' (j : Int))) = ob K c n f' q' := by
  apply List.ext_getElem?
  intro i
  rw [List.getElem?_set]
  unfold ob
  by_cases hij : j = i
  · subst hij
    rw [if_pos rfl]
    by_cases hn : j < n
    · rw [if_pos (by simp; exact hn), List.getElem?_map, List.getElem?_range hn]; rfl
    · rw [if_neg (by simp; omega), List.getElem?_map, List.getElem?_eq_none (by simp; omega)]; rfl
  · rw [if_neg hij, List.getElem?_map, List.getElem?_map]
    by_cases hn : i < n
    · rw [List.getElem?_range hn]
      show some (sval K c i (f (i : Int)) (q (i : Int))) = some (sval K c i (f' (i : Int)) (q' (i : Int)))
      rw [hf i (fun z => hij z.symm), hq i (fun z => hij z.symm)]
    · rw [List.getElem?_eq_none (by simp; omega)]
      rfl
theorem nx_putV (fx : Fx g K d me) {k n ci j idx : Nat} {r : vw_C} {f' : FM} {p' : PM} {v : AV} (hd : decode (me_cc me) pc = .ok (.putfield idx, 3)) (h3 : 3 ≤ k) (hk : kd[k]? = some (ci + 2, n)) (hj : j < n) (hr : vwCl[ci]? = some r) (hjr : j < r.2.2) (hu : ∀ w ∈ u_ws r.1 r.2.1 r.2.2, w ∈ WL) (hl : Jvm.Cond.fieldLink (me_y me).cls idx (r.2.1 j).1 (r.2.1 j).2.1 (r.2.1 j).2.2.1 ∈ WL) (hfin : (r.2.1 j).2.2.2 = false ∨ ((me_y me).name = "<init>" ∧ (r.2.1 j).1 = (me_y me).cls))
    (hn : narrow (tyOf ci j) (gv K v) = gv K v) (hfit : fits (tyOf ci j) (gv K v) = true) (hv : gv K v = sval K ci j (f' k (j : Int)) (p' k (j : Int))) (hF : ∀ (a : Nat) (b : Int), ¬ (a = k ∧ b = (j : Int)) → f' a b = F a b) (hP : ∀ (a : Nat) (b : Int), ¬ (a = k ∧ b = (j : Int)) → p' a b = P a b) (nx : NX g K Q c0 s0 (pc + 3) L S kd f' p') : NX g K Q c0 s0 pc L (v :: .inr (some k) :: S) kd F P := by
  intro ls H locs hL hW hX
  obtain ⟨C, T, N⟩ := r
  dsimp only at hjr hu hl hfin hr
  have hts := fx.2.2.2.2.1
  have hKc := fx.2.2.2.2.2.1.2.1
  obtain ⟨hty, hnm⟩ := clOk ci _ hr
  have hap := va_apart (own := (me_y me).cls) (D := kD K) hts hu (tyOf ci) hty hnm hKc hr
  have hat0 := hW.2.2.2.1 k _ h3 hk
  rw [cel_ob (ci_of hr)] at hat0
  obtain ⟨r', h1, cell, q1, q2, q3, q4⟩ := hat0
  have hre : r' = (C, T, N) := Option.some.inj (h1.symm.trans hr)
  subst hre
  obtain ⟨hS, hfc, kC', hkC, hkind⟩ := hKc.1 ci _ hr
  obtain ⟨cf, kf', fi, f, hi, hsl⟩ := hS j hjr
  have hlays := u_lays hts hu hjr
  have hst := (u_facts hfc hkC hlays hi).1
  have hat : ∀ H' : Heap, H'[ad K k]? = some (cell.setSlot ((kD K).2 ci j) (gv K v)) → va_at (kD K) vwCl (ad K k, cel K (ci + 2, n) (f' k) (p' k)) H' := by
    intro H' e1
    rw [cel_ob (ci_of hr)]
    refine ⟨_, hr, t_OB.to (V := updV (vp_V (ob K ci n (F k) (P k))) j (gv K v)) ⟨_, e1, q2, q3, t_set q4 hap hjr (gv K v)⟩ (fun i _ => ?_)⟩
    have hlen : j < (ob K ci n (F k) (P k)).length := by unfold ob; simp; exact hj
    rw [vp_updV_set hlen, hv, ob_set (fun i hi => hF k i (fun z => hi (by have := z.2; omega))) (fun i hi => hP k i (fun z => hi (by have := z.2; omega)))]
  have hgo : ∀ (H' : Heap) (i : Nat), H'[ad K k]? = some (cell.setSlot ((kD K).2 ci j) (gv K v)) → H'.size = H.size → (∀ q, q ≠ ad K k → H'[q]? = H[q]?) → gW g H' (locs ++ [⟨ad K k, i⟩]) (kd.length - c0) (ksz kd - s0) Q (F0 g.2.2.2.2.2.1 (pc + 3) ls (S.map (gv K))) :=
    fun H' i e1 e2 e3 => nx ls H' _ hL (WI_put hW h3 hk (hat H' e1) e2 e3 (fun a ha => funext fun b => hF a b (fun z => ha z.1)) (fun a ha => funext fun b => hP a b (fun z => ha z.1))) (XI_add hX (ad_lt hW h3 hk).1)
  by_cases hff : (T j).2.2.2 = false
  · have hlay := hts _ (hu _ (u_in_lay hjr))
    unfold u_lay at hlay
    rw [if_neg (by rw [hff]; decide)] at hlay
    have h6 := u_store hfc hkC hkind hlay hi (hty j hjr) hn hfit
    refine W.putK fx.1 fx.2.1 (f := f) ⟨fx.2.2.2.1, hts _ hl, ⟨_, _, _, hi⟩, hst⟩ (by rw [q2]; exact h6) q1 q3 (by rw [hsl]; exact k2_hasslot (q4 j hjr)) rfl rfl hd fun H' e1 e2 e3 => ?_
    rw [hsl] at e1 ⊢
    exact hgo H' _ e1 e2 e3
  · rcases hfin with h | ⟨hini, hdecl⟩
    · exact absurd h hff
    · have hft : (T j).2.2.2 = true := by cases hb : (T j).2.2.2 <;> simp_all
      have hlay := hts _ (hu _ (u_in_lay hjr))
      unfold u_lay at hlay
      rw [if_pos hft] at hlay
      have hcf : g.2.2.2.2.2.1.cls = cf := by
        obtain ⟨_, _, c', _, _, _, -, -, hf', -, -, -, hown2, -⟩ := Cond.laysFinal_spec hlay
        have e1 : c' = cf := by have := hi.symm.trans hf'; simp at this; exact this.1.symm
        rw [hdecl] at hown2
        rw [← e1]; exact Option.some.inj (fx.2.2.2.1.symm.trans hown2)
      have h6 := u_fits hfc hkC hkind (Or.inr hlay) hi (hty j hjr) hn hfit
      refine W.putFinK fx.1 fx.2.1 fx.2.2.2.1 (hts _ hl) hi hst hcf (fx.2.2.2.2.2.2.1 hini) (by rw [q2]; exact h6) q1 q3 (by rw [hsl]; exact k2_hasslot (q4 j hjr)) rfl rfl hd fun H' e1 e2 e3 => ?_
      rw [hsl] at e1 ⊢
      exact hgo H' _ e1 e2 e3
theorem nx_new (fx : Fx g K d me) {ci n idx : Nat} {r : vw_C} (hd : decode (me_cc me) pc = .ok (.new idx, 3)) (hr : vwCl[ci]? = some r) (hn : n = r.2.2) (hu : ∀ w ∈ u_ws r.1 r.2.1 r.2.2, w ∈ WL) (hcl : Jvm.Cond.classLink (me_y me).cls idx r.1 ∈ WL) (hins : Jvm.Cond.instantiable r.1 r.2.2 ∈ WL) (hini : Jvm.Cond.initialized r.1 ∈ WL) (hc0 : c0 ≤ kd.length) (hs0 : s0 ≤ ksz kd) (hrc : kd.length + 1 - c0 ≤ g.2.2.2.1.cells) (hrs : ksz kd + n - s0 ≤ g.2.2.2.1.slots)
    (nx : NX g K Q c0 s0 (pc + 3) L (.inr (some kd.length) :: S) (kd ++ [(ci + 2, n)]) (clF F kd.length) (clP P kd.length)) : NX g K Q c0 s0 pc L S kd F P := by
  intro ls H locs hL hW hX
  obtain ⟨C, T, N⟩ := r
  dsimp only at hn hu hcl hins hini hr
  subst hn
  have hts := fx.2.2.2.2.1
  have hKn := fx.2.2.2.2.2.1.2.1.1 ci _ hr
  obtain ⟨hty, -⟩ := clOk ci _ hr
  have ha := ad_new hW
  refine W.newcK fx.1 fx.2.1 fx.2.2.2.1 (hts _ hcl) (hts _ hins) (hts _ hini) rfl hd (by omega) (by omega) hKn.2.1 rfl fun H1 kC' hkC e1 z1 o1 => ?_
  have hW1 : WI K (kd ++ [(ci + 2, n)]) (clF F kd.length) (clP P kd.length) H1 := by
    refine WI_new hW ?_ z1 o1 (fun j hj => funext fun b => by unfold clF; rw [if_neg hj]) (fun j hj => funext fun b => by unfold clP; rw [if_neg hj])
    rw [cel_ob (ci_of hr)]
    refine ⟨_, hr, t_OB.to (V := fun k => defaultValue (tyOf ci k)) (by rw [ha]; exact u_born (tyOf ci) hts hu hKn hkC e1 hty) (fun j hj => ?_)⟩
    have hj : j < n := hj
    unfold vp_V
    rw [List.getD_eq_getElem?_getD, ob_get hj]
    show defaultValue _ = sval K ci j _ _
    unfold sval clF clP
    rw [if_pos rfl, if_pos rfl, clDef ci _ hr j hj]
    split <;> rfl
  have e := nx ls H1 locs hL hW1 hX
  rw [List.map_cons, show gv K (.inr (some kd.length)) = .ref H.size by show Value.ref (ad K kd.length) = _; rw [ha]] at e
  rw [show (kd ++ [(ci + 2, n)]).length - c0 = kd.length - c0 + 1 by simp; omega, show ksz (kd ++ [(ci + 2, n)]) - s0 = ksz kd - s0 + n by unfold ksz at *; simp at *; omega] at e
  exact e
theorem nx_newa (fx : Fx g K d me) {n : Int} (hd : decode (me_cc me) pc = .ok (.newarray .int, 2)) (harr : Jvm.Cond.arrayClass .int ∈ WL) (h0 : 0 ≤ n) (h1 : n ≤ 100000) (hc0 : c0 ≤ kd.length) (hs0 : s0 ≤ ksz kd) (hrc : kd.length + 1 - c0 ≤ g.2.2.2.1.cells) (hrs : ksz kd + n.toNat - s0 ≤ g.2.2.2.1.slots)
    (nx : NX g K Q c0 s0 (pc + 2) L (.inr (some kd.length) :: S) (kd ++ [(0, n.toNat)]) (clF F kd.length) P) : NX g K Q c0 s0 pc L (.inl n :: S) kd F P := by
  intro ls H locs hL hW hX
  have hts := fx.2.2.2.2.1
  have ha := ad_new hW
  have hb : inb n := by unfold inb; omega
  refine va_newaK (atype := .int) fx.1 fx.2.1 (hts _ harr) rfl hd rfl (n := i32 n) (N := n.toNat) (fun z => by rw [i32_0] at z; have := (i32_lt hb inb_0).mp z; omega) (i32_n hb) (by show n.toNat * 4 ≤ _; omega) (by omega) (by omega) rfl fun H1 cA e1 z1 o1 hAr hNm => ?_
  have hcA : cA = kcI K := by
    have h2 := (fx.2.2.2.2.2.1.2.1.2 0 _ rfl).2
    exact Option.some.inj (hNm.symm.trans h2)
  subst hcA
  have hW1 : WI K (kd ++ [(0, n.toNat)]) (clF F kd.length) P H1 := by
    refine WI_new hW ?_ z1 o1 (fun j hj => funext fun b => by unfold clF; rw [if_neg hj]) (fun j hj => rfl)
    show H1[ad K kd.length]? = some (vp_cell (kcI K) (n.toNat, .inl (fun j => i32 (clF F kd.length kd.length (j : Int)))))
    rw [ha, e1, vp_cell_i]
    congr 2
    funext j
    unfold clF
    rw [if_pos rfl]
    rfl
  have e := nx ls H1 locs hL hW1 hX
  rw [List.map_cons, show gv K (.inr (some kd.length)) = .ref H.size by show Value.ref (ad K kd.length) = _; rw [ha]] at e
  have e8 : List.length (kd ++ [((0 : Nat), n.toNat)]) - c0 = kd.length - c0 + 1 := by simp; omega
  have e9 : ksz (kd ++ [((0 : Nat), n.toNat)]) - s0 = ksz kd - s0 + n.toNat := by unfold ksz at *; simp at *; omega
  rw [e8, e9] at e
  exact e
theorem nx_anew (fx : Fx g K d me) {n : Int} {idx : Nat} (hd : decode (me_cc me) pc = .ok (.anewarray idx, 3)) (hcl : Jvm.Cond.classLink (me_y me).cls idx RX5 ∈ WL) (h0 : 0 ≤ n) (h1 : n ≤ 100000) (hc0 : c0 ≤ kd.length) (hs0 : s0 ≤ ksz kd) (hrc : kd.length + 1 - c0 ≤ g.2.2.2.1.cells) (hrs : ksz kd + n.toNat - s0 ≤ g.2.2.2.1.slots)
    (nx : NX g K Q c0 s0 (pc + 3) L (.inr (some kd.length) :: S) (kd ++ [(1, n.toNat)]) F (clP P kd.length)) : NX g K Q c0 s0 pc L (.inl n :: S) kd F P := by
  intro ls H locs hL hW hX
  have hts := fx.2.2.2.2.1
  have ha := ad_new hW
  have hb : inb n := by unfold inb; omega
  have hbn : (i32 n).toNatClampNeg = n.toNat := i32_n hb
  refine W.anew fx.1 fx.2.1 fx.2.2.2.1 (hts _ hcl) (va_AO.use fx.2.2.2.2.2.1.2.2.2.1) rfl hd (n := i32 n) rfl (fun z => by rw [i32_0] at z; have := (i32_lt hb inb_0).mp z; omega) (by rw [hbn]; omega) (by omega) (by rw [hbn]; omega) fun cA kA comp f1 f2 f3 f4 => ?_
  rw [hbn]
  generalize hH1 : H.push ({ cls := cA, slots := Array.replicate n.toNat .null, vm := .none } : Cell) = H1
  have z1 : H1.size = H.size + 1 := by rw [← hH1, Array.size_push]
  have e1 : H1[H.size]? = some (arrV cA n.toNat (fun _ => .null)) := by rw [← hH1, Array.getElem?_push_size, ← arrV_new]
  have o1 : ∀ q : Nat, q < H.size → H1[q]? = H[q]? := fun q hq => by rw [← hH1, Array.getElem?_push, if_neg (Nat.ne_of_lt hq)]
  have hcA : cA = kcR K := by
    obtain ⟨kA', comp', -, -, -, h4⟩ := (fx.2.2.2.2.2.1.2.1.2 1 _ rfl).2
    exact Option.some.inj (f1.symm.trans h4)
  subst hcA
  have hW1 : WI K (kd ++ [(1, n.toNat)]) F (clP P kd.length) H1 := by
    refine WI_new hW ?_ z1 o1 (fun j hj => rfl) (fun j hj => funext fun b => by unfold clP; rw [if_neg hj])
    show H1[ad K kd.length]? = some (vp_cell (kcR K) (n.toNat, .inr (.inr (.inr (.inr (fun j => (clP P kd.length kd.length (j : Int)).map (ad K)))))))
    rw [ha, e1, vp_cell_q]
    congr 2
    funext j
    unfold clP
    rw [if_pos rfl]
    rfl
  have e := nx ls H1 locs hL hW1 hX
  rw [List.map_cons, show gv K (.inr (some kd.length)) = .ref H.size by show Value.ref (ad K kd.length) = _; rw [ha]] at e
  have e8 : List.length (kd ++ [((1 : Nat), n.toNat)]) - c0 = kd.length - c0 + 1 := by simp; omega
  have e9 : ksz (kd ++ [((1 : Nat), n.toNat)]) - s0 = ksz kd - s0 + n.toNat := by unfold ksz at *; simp at *; omega
  rw [e8, e9] at e
  exact e
theorem nx_gets (fx : Fx g K d me) {idx i : Nat} {nm : String} (hd : decode (me_cc me) pc = .ok (.getstatic idx, 3)) (hw : Jvm.Cond.fieldLinkNest (me_y me).cls idx RNG nm "[I" RNG ∈ NWs) (hZ : va_Z RNG nm "[I" (.ref (kx K i)) (zA K) g.2.2.2.2.1 (kH K)) (hi : i < 3) (nx : NX g K Q c0 s0 (pc + 3) L (.inr (some i) :: S) kd F P) : NX g K Q c0 s0 pc L S kd F P := by
  intro ls H locs hL hW hX
  have hN := fx.2.2.2.2.2.1.2.2.1 _ hw
  have hHz := fx.2.2.2.2.2.1.1
  have e := nx ls H locs hL hW hX
  rw [List.map_cons, show gv K (.inr (some i)) = .ref (kx K i) by show Value.ref (ad K i) = _; unfold ad; rw [if_pos hi]] at e
  obtain ⟨cf, kf', fi, f, a, cell, h1, h2, h3, h4, h5, h6, h7, h8⟩ := hZ
  exact va_WgetsN fx.1 fx.2.1 fx.2.2.2.1 (va_Nw.use rfl hN) h1 h2 h3 h4 (by rw [hW.2.2.1 a (by have := (Array.getElem?_eq_some_iff.mp h5).1; omega)]; exact h5) (fun z => by rw [z] at h6; cases h6) h7 rfl hd e
theorem nx_copy (fx : Fx g K d me) {idx k0 k1 n0 n1 : Nat} {n sp dp : Int} (hml : L.length = me_ml me) (hd : decode (me_cc me) pc = .ok (.invokestatic idx, 3)) (hl : Jvm.Cond.methodLink (me_y me).cls idx arraycopyName ∈ WL) (hna : Jvm.Cond.native arraycopyName ∈ WL) (hst : Jvm.Cond.static arraycopyName ∈ WL) (hini : Jvm.Cond.initialized "java/lang/System" ∈ WL) (h2 : 2 ≤ d) (h3 : 3 ≤ k1) (hk0 : kd[k0]? = some (0, n0)) (hk1 : kd[k1]? = some (0, n1)) (bn : inb n) (bs : inb sp) (bd : inb dp) (p1 : 0 ≤ n) (p2 : 0 ≤ sp) (p3 : 0 ≤ dp) (p4 : sp + n ≤ n0) (p5 : dp + n ≤ n1)
    (nx : NX g K Q c0 s0 (pc + 3) L [] kd (cpF F k0 sp k1 dp n) P) : NX g K Q c0 s0 pc L [.inl n, .inl dp, .inr (some k1), .inl sp, .inr (some k0)] kd F P := by
  intro ls H locs hL hW hX
  have hts := fx.2.2.2.2.1
  obtain ⟨cs, e1, e2, e3, e4, e5, e6⟩ := rowAt fx hW hk0
  have hc1 : H[ad K k1]? = some (vp_cell (kcI K) (n1, .inl (fun j => i32 (F k1 (j : Int))))) := hW.2.2.2.1 k1 _ h3 hk1
  have hr1 := (fx.2.2.2.2.2.1.2.1.2 0 _ rfl).1 n1 (fun j => .int (i32 (F k1 (j : Int))))
  obtain ⟨hob0, c0', hk0', cm0, hkk0⟩ := e2
  obtain ⟨hob1, c1', hk1', cm1, hkk1⟩ := hr1
  have nn : ∀ z : Int, inb z → 0 ≤ z → ¬ i32 z < 0 := fun z hb hz q => by rw [i32_0] at q; have := (i32_lt hb inb_0).mp q; omega
  intro T hT X
  obtain ⟨vm', X', step⟩ := X.arraycopy fx.1 fx.2.2.2.1 (hts _ hl) (hts _ hna) (hts _ hst) (hts _ hini) (src := ad K k0) (dst := ad K k1) (cs := cs) (cd := vp_cell (kcI K) (n1, .inl (fun j => i32 (F k1 (j : Int))))) (srcPos := i32 sp) (destPos := i32 dp) (n := i32 n) (by rw [hT]; exact e1) (by rw [hT]; exact hc1)
    hob0 (fun _ h => by cases h) e3 (fun h => by cases h) hk0' hk1' hkk0 hkk1 (by simp [refKind]) (nn _ bs p2) (nn _ bd p3) (nn _ bn p1)
    (by rw [i32_toInt bs, i32_toInt bn]; omega)
    (by rw [i32_toInt bd, i32_toInt bn]; show ¬ _ > ((arrV _ _ _).slots.size : Int); rw [arrV_size]; omega)
    (fun vm₁ _ i hi => by
      have hi : i < (i32 n).toNatClampNeg := hi
      have e : cs.slots.getD ((i32 sp).toNatClampNeg + i) .null = .int (i32 (F k0 ((sp.toNat + i : Nat) : Int))) := by
        rw [i32_n bs, Array.getD_eq_getD_getElem?, e6 _ (by rw [i32_n bn] at hi; omega)]
        rfl
      refine ⟨?_, ?_⟩
      · rw [e]; rfl
      · rw [e]; exact trivial)
    (g := F0 g.2.2.2.2.2.1 pc ls (.int (i32 n) :: .int (i32 dp) :: .ref (ad K k1) :: .int (i32 sp) :: .ref (ad K k0) :: [])) rfl (by rw [fx.2.2.1]; exact hL.1.trans hml) (rest := []) rfl (by rw [fx.2.1]; exact hd) (by have := fx.2.2.2.2.2.2.2.1; omega) (by
      have h9 := fx.2.2.2.2.2.2.2.2
      have h8 : nativeFrameWords "java/lang/System" "arraycopy" 5 ≤ 60 := by decide +kernel
      show 2 * 0 + 0 + _ ≤ _
      omega)
  have e1' : copied cs (vp_cell (kcI K) (n1, .inl (fun j => i32 (F k1 (j : Int))))) (i32 sp) (i32 dp) (i32 n) = vp_cell (kcI K) (n1, .inl (va_cpy (fun j => i32 (F k0 (j : Int))) (fun j => i32 (F k1 (j : Int))) (i32 sp).toNatClampNeg (i32 dp).toNatClampNeg (i32 n).toNatClampNeg)) := va_copiedX (n1 := n1) (sp := (i32 sp).toNatClampNeg) (dp := (i32 dp).toNatClampNeg) (n := (i32 n).toNatClampNeg) (fun z => .int z) cs (kcI K) (fun j => i32 (F k0 (j : Int))) (fun j => i32 (F k1 (j : Int))) e6 (by rw [i32_n bs, i32_n bn]; omega)
  rw [e1', i32_n bs, i32_n bd, i32_n bn] at X' step
  have hlt : ad K k1 < H.size := (ad_lt hW h3 hk1).2
  generalize hcc : vp_cell (kcI K) (n1, .inl (va_cpy (fun j => i32 (F k0 (j : Int))) (fun j => i32 (F k1 (j : Int))) sp.toNat dp.toNat n.toNat)) = cc' at X' step
  have hheap : ((T.setVm vm').setCell (ad K k1) cc').heap = H.setIfInBounds (ad K k1) cc' := by rw [← hT]; rfl
  have hW1 : WI K kd (cpF F k0 sp k1 dp n) P (H.setIfInBounds (ad K k1) cc') := by
    refine WI_put hW h3 hk1 ?_ (by simp) (fun q hq => by simp [Array.getElem?_setIfInBounds, Ne.symm hq]) (fun j hj => funext fun b => by unfold cpF; rw [if_neg (fun z => hj z.1)]) (fun _ _ => rfl)
    show (H.setIfInBounds (ad K k1) cc')[ad K k1]? = some (vp_cell (kcI K) (n1, .inl (fun j => i32 (cpF F k0 sp k1 dp n k1 (j : Int)))))
    rw [Array.getElem?_setIfInBounds, if_pos rfl, if_pos hlt, ← hcc]
    congr 4
    funext j
    unfold va_cpy cpF
    by_cases hq : dp.toNat ≤ j ∧ j < dp.toNat + n.toNat
    · rw [if_pos hq, if_pos ⟨rfl, by omega, by omega⟩]
      show i32 (F k0 ((sp.toNat + (j - dp.toNat) : Nat) : Int)) = _
      rw [show ((sp.toNat + (j - dp.toNat) : Nat) : Int) = sp + ((j : Int) - dp) by omega]
    · rw [if_neg hq, if_neg (fun z => hq (by have := z.2; omega))]
  obtain ⟨t, a1, b1⟩ := nx ls _ _ hL hW1 (fun q hq => by
    rcases List.mem_append.mp hq with h | h
    · exact hX q h
    · obtain ⟨z, -, hz⟩ := List.mem_map.mp h
      rw [← hz]
      exact (ad_lt hW h3 hk1).1) _ hheap X'
  exact ⟨t, step t a1, b1⟩
end CELLS
