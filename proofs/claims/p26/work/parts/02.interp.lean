/-! AN INTERPRETER of the bytecode that the system uses: a pure function over rows of numbers and of pointers.
Values: a number, or a pointer (none: null; some k: the k-th cell). Cells: (0, n) a row of n numbers, (1, n) a row of n pointers, (c + 2, n) an object of the c-th kind with n slots.
Numbers of all cells stand in one function F, pointers in another, P. -/
abbrev AV : Type := Int ⊕ Option Nat
abbrev FM : Type := Nat → Int → Int
abbrev PM : Type := Nat → Int → Option Nat
abbrev KL : Type := List (Nat × Nat)
abbrev LV : Type := List (Option AV)
abbrev AS : Type := Nat × LV × List AV × KL × FM × PM
abbrev RI : Type := Nat × Nat × Nat × Int
abbrev CI : Type := Nat × Instr × Nat × RI
abbrev ME : Type := MethodName × ByteArray × Nat × Option FieldType × Nat × Nat × Nat × List CI
def me_y (e : ME) : MethodName := e.1
def me_cc (e : ME) : ByteArray := e.2.1
def me_ml (e : ME) : Nat := e.2.2.1
def me_rt (e : ME) : Option FieldType := e.2.2.2.1
def me_kd (e : ME) : Nat := e.2.2.2.2.1
def me_na (e : ME) : Nat := e.2.2.2.2.2.1
def me_ix (e : ME) : Nat := e.2.2.2.2.2.2.1
def me_ci (e : ME) : List CI := e.2.2.2.2.2.2.2
def wr (i : Int) : Int := (i + 2147483648) % 4294967296 - 2147483648
def i32 (i : Int) : Int32 := Int32.ofInt i
def inb (i : Int) : Prop := -2147483648 ≤ i ∧ i < 2147483648
def inbB (i : Int) : Bool := decide (-2147483648 ≤ i) && decide (i < 2147483648)
/-- a row or slot written -/
def stt (F : FM) (k : Nat) (j v : Int) : FM := fun a b => if a = k ∧ b = j then v else F a b
def stp_ (P : PM) (k : Nat) (j : Int) (v : Option Nat) : PM := fun a b => if a = k ∧ b = j then v else P a b
def clF (F : FM) (k : Nat) : FM := fun a b => if a = k then 0 else F a b
def clP (P : PM) (k : Nat) : PM := fun a b => if a = k then none else P a b
def cpF (F : FM) (src : Nat) (sp : Int) (dst : Nat) (dp n : Int) : FM := fun a b => if a = dst ∧ dp ≤ b ∧ b < dp + n then F src (sp + (b - dp)) else F a b
def isN (t : FieldType) : Bool := match t with
  | .int => true
  | .boolean => true
  | _ => false
/-- the type of a slot -/
def tyOf (c k : Nat) : FieldType := match c with
  | 0 => tyX0 k
  | 1 => tyX1 k
  | 2 => tyX2 k
  | 3 => tyX3 k
  | 4 => tyX4 k
  | 5 => tyX5 k
  | 6 => tyX6 k
  | _ => tyX7 k
def brn (pc : Nat) (off : Int) : Option Nat := if 0 ≤ (pc : Int) + off then some ((pc : Int) + off).toNat else none
def cmpc (c : Jvm.ClassFile.Cond) (x y : Int) : Bool := match c with
  | .eq => decide (x = y)
  | .ne => decide (x ≠ y)
  | .lt => decide (x < y)
  | .ge => decide (y ≤ x)
  | .gt => decide (y < x)
  | .le => decide (x ≤ y)
def ldI (L : LV) (i : Nat) : Option AV := match L[i]? with
  | some (some (.inl v)) => some (.inl v)
  | _ => none
def ldA (L : LV) (i : Nat) : Option AV := match L[i]? with
  | some (some (.inr (some k))) => some (.inr (some k))
  | _ => none
def s_load (pc len : Nat) (o : Option AV) (L : LV) (S : List AV) (kd : KL) (F : FM) (P : PM) : Option AS := match o with
  | some v => some (pc + len, L, v :: S, kd, F, P)
  | none => none
def s_storeI (pc len i : Nat) (L : LV) (S : List AV) (kd : KL) (F : FM) (P : PM) : Option AS := match S with
  | .inl v :: S' => if i < L.length then some (pc + len, L.set i (some (.inl v)), S', kd, F, P) else none
  | _ => none
def s_storeA (pc len i : Nat) (L : LV) (S : List AV) (kd : KL) (F : FM) (P : PM) : Option AS := match S with
  | .inr (some v) :: S' => if i < L.length then some (pc + len, L.set i (some (.inr (some v))), S', kd, F, P) else none
  | _ => none
def s_iinc (pc len i : Nat) (n : Int) (L : LV) (S : List AV) (kd : KL) (F : FM) (P : PM) : Option AS := match L[i]? with
  | some (some (.inl v)) => some (pc + len, L.set i (some (.inl (wr (v + n)))), S, kd, F, P)
  | _ => none
def s_bin (pc len : Nat) (f : Int → Int → Int) (L : LV) (S : List AV) (kd : KL) (F : FM) (P : PM) : Option AS := match S with
  | .inl y :: .inl x :: S' => some (pc + len, L, .inl (f x y) :: S', kd, F, P)
  | _ => none
def s_binD (pc len : Nat) (f : Int → Int → Int) (L : LV) (S : List AV) (kd : KL) (F : FM) (P : PM) : Option AS := match S with
  | .inl y :: .inl x :: S' => if y = 0 then none else some (pc + len, L, .inl (f x y) :: S', kd, F, P)
  | _ => none
def s_neg (pc len : Nat) (L : LV) (S : List AV) (kd : KL) (F : FM) (P : PM) : Option AS := match S with
  | .inl x :: S' => some (pc + len, L, .inl (wr (-x)) :: S', kd, F, P)
  | _ => none
def s_dup (pc len : Nat) (L : LV) (S : List AV) (kd : KL) (F : FM) (P : PM) : Option AS := match S with
  | v :: S' => some (pc + len, L, v :: v :: S', kd, F, P)
  | _ => none
def s_dup2 (pc len : Nat) (L : LV) (S : List AV) (kd : KL) (F : FM) (P : PM) : Option AS := match S with
  | v :: w :: S' => some (pc + len, L, v :: w :: v :: w :: S', kd, F, P)
  | _ => none
def s_pop (pc len : Nat) (L : LV) (S : List AV) (kd : KL) (F : FM) (P : PM) : Option AS := match S with
  | _ :: S' => some (pc + len, L, S', kd, F, P)
  | _ => none
def s_goto (o : Option Nat) (L : LV) (S : List AV) (kd : KL) (F : FM) (P : PM) : Option AS := match o with
  | some t => some (t, L, S, kd, F, P)
  | none => none
def s_icmp (pc : Nat) (c : Jvm.ClassFile.Cond) (o : Option Nat) (L : LV) (S : List AV) (kd : KL) (F : FM) (P : PM) : Option AS := match o, S with
  | some t, .inl y :: .inl x :: S' => some (if cmpc c x y = true then t else pc + 3, L, S', kd, F, P)
  | _, _ => none
def s_ifc (pc : Nat) (c : Jvm.ClassFile.Cond) (o : Option Nat) (L : LV) (S : List AV) (kd : KL) (F : FM) (P : PM) : Option AS := match o, S with
  | some t, .inl x :: S' => some (if cmpc c x 0 = true then t else pc + 3, L, S', kd, F, P)
  | _, _ => none
def s_iald (pc : Nat) (L : LV) (S : List AV) (kd : KL) (F : FM) (P : PM) : Option AS := match S with
  | .inl i :: .inr (some k) :: S' => match kd[k]? with
    | some (0, n) => if 0 ≤ i ∧ i < n then some (pc + 1, L, .inl (F k i) :: S', kd, F, P) else none
    | _ => none
  | _ => none
def s_aald (pc : Nat) (L : LV) (S : List AV) (kd : KL) (F : FM) (P : PM) : Option AS := match S with
  | .inl i :: .inr (some k) :: S' => match kd[k]? with
    | some (1, n) => if 3 ≤ k ∧ 0 ≤ i ∧ i < n then some (pc + 1, L, .inr (P k i) :: S', kd, F, P) else none
    | _ => none
  | _ => none
def s_iast (pc : Nat) (L : LV) (S : List AV) (kd : KL) (F : FM) (P : PM) : Option AS := match S with
  | .inl v :: .inl i :: .inr (some k) :: S' => match kd[k]? with
    | some (0, n) => if 3 ≤ k ∧ 0 ≤ i ∧ i < n then some (pc + 1, L, S', kd, stt F k i v, P) else none
    | _ => none
  | _ => none
def s_aast (pc : Nat) (L : LV) (S : List AV) (kd : KL) (F : FM) (P : PM) : Option AS := match S with
  | .inr (some v) :: .inl i :: .inr (some k) :: S' => match kd[k]? with
    | some (1, n) => if 3 ≤ k ∧ 0 ≤ i ∧ i < n ∧ 3 ≤ v ∧ kd[v]? = some (7, 17) then some (pc + 1, L, S', kd, F, stp_ P k i (some v)) else none
    | _ => none
  | _ => none
def s_alen (pc : Nat) (L : LV) (S : List AV) (kd : KL) (F : FM) (P : PM) : Option AS := match S with
  | .inr (some k) :: S' => match kd[k]? with
    | some (0, n) => if n < 2147483648 then some (pc + 1, L, .inl (n : Int) :: S', kd, F, P) else none
    | _ => none
  | _ => none
def s_getf (pc ci j : Nat) (L : LV) (S : List AV) (kd : KL) (F : FM) (P : PM) : Option AS := match S with
  | .inr (some k) :: S' => match kd[k]? with
    | some (c, n) => if c = ci + 2 ∧ j < n ∧ 3 ≤ k then some (pc + 3, L, (if isN (tyOf ci j) = true then .inl (F k j) else .inr (P k j)) :: S', kd, F, P) else none
    | _ => none
  | _ => none
def s_putf (pc ci j : Nat) (L : LV) (S : List AV) (kd : KL) (F : FM) (P : PM) : Option AS := match S with
  | .inl v :: .inr (some k) :: S' => match kd[k]? with
    | some (c, n) => if c = ci + 2 ∧ j < n ∧ 3 ≤ k ∧ (tyOf ci j = .int ∨ tyOf ci j = .boolean ∧ (v = 0 ∨ v = 1)) then some (pc + 3, L, S', kd, stt F k j v, P) else none
    | _ => none
  | .inr v :: .inr (some k) :: S' => match kd[k]? with
    | some (c, n) => if c = ci + 2 ∧ j < n ∧ 3 ≤ k ∧ isN (tyOf ci j) = false then some (pc + 3, L, S', kd, F, stp_ P k j v) else none
    | _ => none
  | _ => none
def s_new (pc ci n : Nat) (L : LV) (S : List AV) (kd : KL) (F : FM) (P : PM) : Option AS :=
  some (pc + 3, L, .inr (some kd.length) :: S, kd ++ [(ci + 2, n)], clF F kd.length, clP P kd.length)
def s_newa (pc : Nat) (L : LV) (S : List AV) (kd : KL) (F : FM) (P : PM) : Option AS := match S with
  | .inl n :: S' => if 0 ≤ n ∧ n ≤ 100000 then some (pc + 2, L, .inr (some kd.length) :: S', kd ++ [(0, n.toNat)], clF F kd.length, P) else none
  | _ => none
def s_newl (pc : Nat) (L : LV) (S : List AV) (kd : KL) (F : FM) (P : PM) : Option AS := match S with
  | .inl n :: S' => if 0 ≤ n ∧ n ≤ 100000 then some (pc + 2, L, .inr (some kd.length) :: S', kd ++ [(30, n.toNat)], clF F kd.length, P) else none
  | _ => none
/-- how two whole numbers stand -/
def cmpL (a b : Int) : Int := if b < a then 1 else if a = b then 0 else -1
/-- eight bits of a number from a place on -/
def bt (v : Int) (sh : Nat) : Int := v / ((2 ^ sh : Nat) : Int) % 256
/-- the row q of long numbers at k: its bits, against an int (several instructions at once) -/
def s_lcm (pc len sh : Nat) (x : Option AV) (L : LV) (S : List AV) (kd : KL) (F : FM) (P : PM) : Option AS := match S with
  | .inl k :: .inr (some q) :: S' => match kd[q]? with
    | some (30, n) => if 3 ≤ q ∧ 0 ≤ k ∧ k < n ∧ 0 ≤ F q k then (match x with
      | some (.inl r) => some (pc + len, L, .inl (cmpL (bt (F q k) sh) r) :: S', kd, F, P)
      | _ => none) else none
    | _ => none
  | _ => none
def s_lbt (pc len sh : Nat) (L : LV) (S : List AV) (kd : KL) (F : FM) (P : PM) : Option AS := match S with
  | .inl k :: .inr (some q) :: S' => match kd[q]? with
    | some (30, n) => if 3 ≤ q ∧ 0 ≤ k ∧ k < n ∧ 0 ≤ F q k then some (pc + len, L, .inl (bt (F q k) sh) :: S', kd, F, P) else none
    | _ => none
  | _ => none
def s_lcr (pc len sh : Nat) (xq xk : Option AV) (L : LV) (S : List AV) (kd : KL) (F : FM) (P : PM) : Option AS := match S, xq, xk with
  | .inl r :: S', some (.inr (some q)), some (.inl k) => match kd[q]? with
    | some (30, n) => if 3 ≤ q ∧ 0 ≤ k ∧ k < n ∧ 0 ≤ F q k then some (pc + len, L, .inl (cmpL r (bt (F q k) sh)) :: S', kd, F, P) else none
    | _ => none
  | _, _, _ => none
def s_lst (pc : Nat) (x : Option AV) (L : LV) (S : List AV) (kd : KL) (F : FM) (P : PM) : Option AS := match S, x with
  | .inl p :: .inl k :: .inr (some q) :: S', some (.inl b) => match kd[q]? with
    | some (30, n) => if 3 ≤ q ∧ 0 ≤ k ∧ k < n ∧ 0 ≤ p ∧ p < 256 ∧ 0 ≤ b ∧ b < 256 then some (pc + 9, L, S', kd, stt F q k (p + 256 * b), P) else none
    | _ => none
  | _, _ => none
def s_ladd (pc : Nat) (x : Option AV) (L : LV) (S : List AV) (kd : KL) (F : FM) (P : PM) : Option AS := match S, x with
  | .inl k :: .inr (some q) :: S', some (.inl w) => match kd[q]? with
    | some (30, n) => if 3 ≤ q ∧ 0 ≤ k ∧ k < n ∧ 0 ≤ F q k ∧ F q k < 2000000000 then some (pc + 20, L, S', kd, stt F q k (F q k + (65536 + if w = 0 then 0 else 16777216)), P) else none
    | _ => none
  | _, _ => none
def s_anew (pc : Nat) (L : LV) (S : List AV) (kd : KL) (F : FM) (P : PM) : Option AS := match S with
  | .inl n :: S' => if 0 ≤ n ∧ n ≤ 100000 then some (pc + 3, L, .inr (some kd.length) :: S', kd ++ [(1, n.toNat)], F, clP P kd.length) else none
  | _ => none
def s_gets (pc i : Nat) (L : LV) (S : List AV) (kd : KL) (F : FM) (P : PM) : Option AS :=
  some (pc + 3, L, .inr (some i) :: S, kd, F, P)
def s_tab (pc : Nat) (dflt lo hi : Int) (offs : Array Int) (L : LV) (S : List AV) (kd : KL) (F : FM) (P : PM) : Option AS := match S with
  | .inl x :: S' => if lo ≤ x ∧ x ≤ hi then (match offs[(x - lo).toNat]? with
    | some off => s_goto (brn pc off) L S' kd F P
    | none => none) else s_goto (brn pc dflt) L S' kd F P
  | _ => none
def s_look (pc : Nat) (dflt : Int) (ps : Array (Int × Int)) (L : LV) (S : List AV) (kd : KL) (F : FM) (P : PM) : Option AS := match S with
  | .inl x :: S' => if (ps.toList.zip (ps.toList.drop 1)).all (fun (a, next) => a.1 < next.1) = true then s_goto (brn pc (Op.lookupswitch.offset ps.toList dflt x)) L S' kd F P else none
  | _ => none
def s_copy (d pc : Nat) (L : LV) (S : List AV) (kd : KL) (F : FM) (P : PM) : Option AS := match S with
  | .inl n :: .inl dp :: .inr (some k1) :: .inl sp :: .inr (some k0) :: S' => match kd[k0]?, kd[k1]? with
    | some (0, n0), some (0, n1) => if 2 ≤ d ∧ S' = [] ∧ 3 ≤ k1 ∧ 0 ≤ n ∧ 0 ≤ sp ∧ 0 ≤ dp ∧ sp + n ≤ n0 ∧ dp + n ≤ n1 then some (pc + 3, L, S', kd, cpF F k0 sp k1 dp n, P) else none
    | _, _ => none
  | _ => none
def s_mm (d pc : Nat) (f : Int → Int → Int) (L : LV) (S : List AV) (kd : KL) (F : FM) (P : PM) : Option AS := match S with
  | .inl y :: .inl x :: S' => if 2 ≤ d ∧ S'.length ≤ 4 then some (pc + 3, L, .inl (f x y) :: S', kd, F, P) else none
  | _ => none
def s_oini (d pc : Nat) (L : LV) (S : List AV) (kd : KL) (F : FM) (P : PM) : Option AS := match S with
  | .inr (some _) :: S' => if 1 ≤ d ∧ S' = [] then some (pc + 3, L, S', kd, F, P) else none
  | _ => none
/-- one instruction that is no call of the system's own and no return -/
def stp (d pc len : Nat) (ri : RI) (ins : Instr) (L : LV) (S : List AV) (kd : KL) (F : FM) (P : PM) : Option AS := match ins with
  | .iconst n => s_load pc len (some (.inl n)) L S kd F P
  | .bipush n => s_load pc len (some (.inl n)) L S kd F P
  | .sipush n => s_load pc len (some (.inl n)) L S kd F P
  | .ldc _ => s_load pc len (some (.inl ri.2.2.2)) L S kd F P
  | .iload i => s_load pc len (ldI L i) L S kd F P
  | .iload_n i => s_load pc len (ldI L i.val) L S kd F P
  | .aload i => s_load pc len (ldA L i) L S kd F P
  | .aload_n i => s_load pc len (ldA L i.val) L S kd F P
  | .istore i => s_storeI pc len i L S kd F P
  | .istore_n i => s_storeI pc len i.val L S kd F P
  | .astore i => s_storeA pc len i L S kd F P
  | .astore_n i => s_storeA pc len i.val L S kd F P
  | .iinc i n => s_iinc pc len i n L S kd F P
  | .iadd => s_bin pc len (fun x y => wr (x + y)) L S kd F P
  | .isub => s_bin pc len (fun x y => wr (x - y)) L S kd F P
  | .imul => s_bin pc len (fun x y => wr (x * y)) L S kd F P
  | .iand => s_bin pc len (fun x y => (i32 x &&& i32 y).toInt) L S kd F P
  | .idiv => s_binD pc len (fun x y => wr (Int.tdiv x y)) L S kd F P
  | .irem => s_binD pc len (fun x y => wr (x - Int.tdiv x y * y)) L S kd F P
  | .ineg => s_neg pc len L S kd F P
  | .dup => s_dup pc len L S kd F P
  | .dup2 => if ri.1 = 7 then s_ladd pc (ldI L 4) L S kd F P else s_dup2 pc len L S kd F P
  | .laload => if ri.1 = 1 then s_lcm pc 8 0 (ldI L 2) L S kd F P else if ri.1 = 2 then s_lcm pc 11 8 (ldI L 3) L S kd F P else if ri.1 = 3 then s_lbt pc 9 16 L S kd F P else none
  | .i2l => if ri.1 = 4 then s_lcr pc 11 0 (ldA L 4) (ldI L 7) L S kd F P else if ri.1 = 5 then s_lcr pc 14 ri.2.1 (ldA L 4) (ldI L 7) L S kd F P else if ri.1 = 6 then s_lst pc (ldI L 3) L S kd F P else none
  | .ishr => s_bin pc len (fun x y => (i32 x >>> (i32 y &&& 31)).toInt) L S kd F P
  | .ixor => s_bin pc len (fun x y => (i32 x ^^^ i32 y).toInt) L S kd F P
  | .pop => s_pop pc len L S kd F P
  | .goto off => s_goto (brn pc off) L S kd F P
  | .if_icmp c off => s_icmp pc c (brn pc off) L S kd F P
  | .ifCond c off => s_ifc pc c (brn pc off) L S kd F P
  | .iaload => s_iald pc L S kd F P
  | .aaload => s_aald pc L S kd F P
  | .iastore => s_iast pc L S kd F P
  | .aastore => s_aast pc L S kd F P
  | .arraylength => s_alen pc L S kd F P
  | .getfield _ => s_getf pc ri.1 ri.2.1 L S kd F P
  | .putfield _ => s_putf pc ri.1 ri.2.1 L S kd F P
  | .new _ => s_new pc ri.1 ri.2.1 L S kd F P
  | .newarray t => if t = .int then s_newa pc L S kd F P else if t = .long then s_newl pc L S kd F P else none
  | .anewarray _ => s_anew pc L S kd F P
  | .getstatic _ => s_gets pc ri.1 L S kd F P
  | .tableswitch dflt lo hi offs => s_tab pc dflt lo hi offs L S kd F P
  | .lookupswitch dflt ps => s_look pc dflt ps L S kd F P
  | .invokestatic _ => if ri.2.1 = 2 then s_copy d pc L S kd F P else if ri.2.1 = 4 then s_mm d pc (fun x y => if y < x then y else x) L S kd F P else none
  | .invokespecial _ => if ri.2.1 = 5 then s_oini d pc L S kd F P else none
  | _ => none
/-- a return: its answer -/
def fin (rt : Option FieldType) (ins : Instr) (S : List AV) : Option (Option AV) := match ins with
  | .ireturn => match S with
    | [.inl v] => if rt = some .int ∨ rt = some .boolean ∧ (v = 0 ∨ v = 1) then some (some (.inl v)) else none
    | _ => none
  | .areturn => match S with
    | [.inr v] => match rt with
      | some (.object _) => some (some (.inr v))
      | _ => none
    | _ => none
  | .return_ => match S with
    | [] => if rt = none then some none else none
    | _ => none
  | _ => none
def isFin (ins : Instr) : Bool := match ins with
  | .ireturn => true
  | .areturn => true
  | .return_ => true
  | _ => false
/-- a call of the system's own: which, linked how (0: as ever, 1: a nest mate's) -/
def cal (ri : RI) (ins : Instr) : Option Nat := match ins with
  | .invokevirtual _ => some ri.1
  | .invokestatic _ => if ri.2.1 < 2 then some ri.1 else none
  | .invokespecial _ => if ri.2.1 < 2 then some ri.1 else none
  | _ => none
/-- the arguments of a call (the receiver, if there is one, among them) and what lies below them -/
def spl (n : Nat) (S : List AV) : Option (List AV × List AV) := if n ≤ S.length then some ((S.take n).reverse, S.drop n) else none
def ftc (pc : Nat) : List CI → Option CI
  | [] => none
  | e :: l => if e.1 = pc then some e else ftc pc l
abbrev RS : Type := Option AV × KL × FM × PM
abbrev CF : Type := Nat → List AV → KL → FM → PM → Option RS
def psh (r : Option AV) (S : List AV) : List AV := match r with
  | some v => v :: S
  | none => S
/-- the receiver is as the call wants it -/
def rcv (ce : ME) (kd : KL) (as : List AV) : Bool := match me_kd ce with
  | 0 => (match as with
    | .inr (some k) :: _ => decide (3 ≤ k) && (match kd[k]? with
      | some (c, _) => decide (c = me_ix ce + 2)
      | none => false)
    | _ => false)
  | 1 => true
  | _ => (match as with
    | .inr (some _) :: _ => true
    | _ => false)
def nar (ce : ME) : Nat := me_na ce + (if me_kd ce = 1 then 0 else 1)
def go (pg : Nat → Option ME) (d : Nat) (cf : CF) (me : ME) : Nat → Nat → LV → List AV → KL → FM → PM → Option RS
  | 0, _, _, _, _, _, _ => none
  | f + 1, pc, L, S, kd, F, P => match ftc pc (me_ci me) with
    | none => none
    | some e => if isFin e.2.1 = true then (match fin (me_rt me) e.2.1 S with
        | some r => some (r, kd, F, P)
        | none => none)
      else (match cal e.2.2.2 e.2.1 with
        | some i => (match pg i with
          | none => none
          | some ce => (match spl (nar ce) S with
            | none => none
            | some (as, S') => if S'.length ≤ 8 ∧ rcv ce kd as = true then (match cf i as kd F P with
              | none => none
              | some (r, kd1, F1, P1) => go pg d cf me f (e.1 + 3) L (psh r S') kd1 F1 P1) else none))
        | none => (match stp d e.1 e.2.2.1 e.2.2.2 e.2.1 L S kd F P with
          | none => none
          | some (pc', L', S', kd', F', P') => go pg d cf me f pc' L' S' kd' F' P'))
def lvl (pg : Nat → Option ME) : Nat → Nat → CF
  | 0, _ => fun _ _ _ _ _ => none
  | d + 1, f => fun i as kd F P => match pg i with
    | none => none
    | some me => if as.length = nar me ∧ as.length ≤ me_ml me then go pg d (lvl pg d f) me f 0 (as.map some ++ List.replicate (me_ml me - as.length) none) [] kd F P else none
