/-! THE SMALL MACHINE: the claim's bytecode over a heap of named cells (a name: 0 the script, 1 ArrayList's empty row, 2 the class object of Object[], from 3 on what was made, in order). Its walk is a predicate with fuel; part 05 says that the machine does what it says. -/
abbrev z_C : Type := (Nat × Nat × (Nat → Int32)) ⊕ ((Nat × (Nat → Value)) ⊕ (Nat × (Nat → Option Nat)))
abbrev z_H : Type := Nat → z_C
abbrev z_L : Type := List (Option Value)
def z_no : z_C := .inr (.inl (99, fun _ => .null))
def z_my (M : Nat) : MethodName := (z_mi M).1
def z_by (M : Nat) : ByteArray := (z_mi M).2.1
def z_mx (M : Nat) : Nat := (z_mi M).2.2.1
def z_rt (M : Nat) : Option FieldType := (z_mi M).2.2.2.1
def z_ow (M : Nat) : Nat := (z_mi M).2.2.2.2.1
def z_lg (M : Nat) : List Nat := (z_mi M).2.2.2.2.2.1
def z_mc (M : Nat) : Nat := (z_mi M).2.2.2.2.2.2.1
def z_ms (M : Nat) : Nat := (z_mi M).2.2.2.2.2.2.2
def z_f (M cp : Nat) : Option (Nat × Nat × Nat × Bool) := (z_ft.getD (z_ow M) []).lookup cp
def z_c (M cp : Nat) : Option (Nat × Nat × Nat) := (z_ct.getD (z_ow M) []).lookup cp
def z_k (M cp : Nat) : Option Nat := (z_kt.getD (z_ow M) []).lookup cp
def z_ci (M cp : Nat) : Option Int32 := (z_it.getD (z_ow M) []).lookup cp
def z_cj (M cp : Nat) : Option Int64 := (z_lt.getD (z_ow M) []).lookup cp
def z_nf (ci : Nat) : Nat := (z_cl.getD ci ("", fun _ => ("", "", "", false), 0)).2.2
def z_ty (ci : Nat) : Nat → FieldType := z_tyT.getD ci (fun _ => .int)
def z_df (ci : Nat) : Nat → Value := fun j => if j < z_nf ci then defaultValue (z_ty ci j) else .null
/-- where Object's constructor, arraycopy and getClass are called: by the class's number and the entry -/
def z_oi (M cp : Nat) : Bool := [(7, 1), (15, 1), (0, 3), (4, 3), (5, 5), (1, 3), (6, 3), (3, 3), (2, 3), (8, 1)].contains (z_ow M, cp)
def z_ac (M cp : Nat) : Bool := [(11, 150), (7, 96), (5, 19)].contains (z_ow M, cp)
def z_gc (M cp : Nat) : Bool := [(11, 86)].contains (z_ow M, cp)
def z_ao (M cp : Nat) : Bool := [(11, 2), (9, 7)].contains (z_ow M, cp)
def z_lm (M cp : Nat) : Bool := [(11, 110)].contains (z_ow M, cp)
def z_gs (M cp : Nat) : Bool := [(9, 39)].contains (z_ow M, cp)
/-- Math.max, Math.min -/
def z_mX (M cp : Nat) : Bool := [(1, 37), (4, 45), (9, 79), (13, 194)].contains (z_ow M, cp)
def z_mN (M cp : Nat) : Bool := [(0, 93), (1, 31), (4, 39), (11, 304)].contains (z_ow M, cp)
def z_isI (M : Nat) : Bool := (z_my M).name == "<init>"
def z_ok1 (M i : Nat) : Bool := decide (i < z_mx M) && (!(z_lg M).contains i && (i == 0 || !(z_lg M).contains (i - 1)))
def z_ok2 (M i : Nat) : Bool := decide (i + 1 < z_mx M) && ((z_lg M).contains i && (i == 0 || !(z_lg M).contains (i - 1)))
def z_tg (pc : Nat) (off : Int) : Option Nat := if 0 ≤ (pc : Int) + off then some ((pc : Int) + off).toNat else none
def z_in (i : Int32) (n : Nat) : Bool := !(decide (i < 0) || decide (n ≤ i.toNatClampNeg))
def z_rf (r : Option Nat) : Value := match r with
  | none => .null
  | some a => .ref a
def z_fit (t : Nat) (v : Value) : Bool := match t, v with
  | 0, .int _ => true
  | 1, .int x => x == 0 || x == 1
  | 2, .ref _ => true
  | 2, .null => true
  | _, _ => false
/-- a branch -/
def z_br (b : Bool) (pc len : Nat) (off : Int) (L : z_L) (st : List Value) : Option (Nat × z_L × List Value) := match z_tg pc off with
  | some t => some (if b then t else pc + len, L, st)
  | none => none
def z_ld (L : z_L) (i : Nat) : Option Value := match L[i]? with
  | some (some v) => some v
  | _ => none
/-- constants and locals -/
def z_A1 (M : Nat) (ins : Instr) (len pc : Nat) (L : z_L) (st : List Value) : Option (Nat × z_L × List Value) := match ins with
  | .iconst n => if len = 1 then some (pc + 1, L, .int (Int32.ofInt n) :: st) else none
  | .bipush n => if len = 2 then some (pc + 2, L, .int (Int8.ofInt n).toInt32 :: st) else none
  | .sipush n => if len = 3 then some (pc + 3, L, .int (Int16.ofInt n).toInt32 :: st) else none
  | .lconst n => if len = 1 then some (pc + 1, L, .long (Int64.ofNat (n : Nat)) :: st) else none
  | .ldc i => if len = 2 then (match z_ci M i with | some v => some (pc + 2, L, .int v :: st) | none => none) else none
  | .ldc2_w i => if len = 3 then (match z_cj M i with | some v => some (pc + 3, L, .long v :: st) | none => none) else none
  | .aconst_null => if len = 1 then some (pc + 1, L, .null :: st) else none
  | .iload i => if len = 2 then (match z_ld L i with | some (.int v) => some (pc + 2, L, .int v :: st) | _ => none) else none
  | .iload_n k => if len = 1 then (match z_ld L k.val with | some (.int v) => some (pc + 1, L, .int v :: st) | _ => none) else none
  | .lload i => if len = 2 then (match z_ld L i with | some (.long v) => some (pc + 2, L, .long v :: st) | _ => none) else none
  | .lload_n k => if len = 1 then (match z_ld L k.val with | some (.long v) => some (pc + 1, L, .long v :: st) | _ => none) else none
  | .aload i => if len = 2 then (match z_ld L i with | some (.ref v) => some (pc + 2, L, .ref v :: st) | some .null => some (pc + 2, L, .null :: st) | _ => none) else none
  | .aload_n k => if len = 1 then (match z_ld L k.val with | some (.ref v) => some (pc + 1, L, .ref v :: st) | some .null => some (pc + 1, L, .null :: st) | _ => none) else none
  | .istore i => if len = 2 ∧ z_ok1 M i = true then (match st with | .int v :: r => some (pc + 2, L.set i (some (.int v)), r) | _ => none) else none
  | .istore_n k => if len = 1 ∧ z_ok1 M k.val = true then (match st with | .int v :: r => some (pc + 1, L.set k.val (some (.int v)), r) | _ => none) else none
  | .lstore i => if len = 2 ∧ z_ok2 M i = true then (match st with | .long v :: r => some (pc + 2, (L.set i (some (.long v))).set (i + 1) none, r) | _ => none) else none
  | .astore i => if len = 2 ∧ z_ok1 M i = true then (match st with | .ref v :: r => some (pc + 2, L.set i (some (.ref v)), r) | .null :: r => some (pc + 2, L.set i (some .null), r) | _ => none) else none
  | .astore_n k => if len = 1 ∧ z_ok1 M k.val = true then (match st with | .ref v :: r => some (pc + 1, L.set k.val (some (.ref v)), r) | .null :: r => some (pc + 1, L.set k.val (some .null), r) | _ => none) else none
  | .iinc i n => if len = 3 ∧ z_ok1 M i = true then (match z_ld L i with | some (.int x) => some (pc + 3, L.set i (some (.int (x + Int32.ofInt n))), st) | _ => none) else none
  | _ => none
/-- arithmetic -/
def z_A2 (ins : Instr) (len pc : Nat) (L : z_L) (st : List Value) : Option (Nat × z_L × List Value) := match ins with
  | .iadd => if len = 1 then (match st with | .int y :: .int x :: r => some (pc + 1, L, .int (x + y) :: r) | _ => none) else none
  | .isub => if len = 1 then (match st with | .int y :: .int x :: r => some (pc + 1, L, .int (x - y) :: r) | _ => none) else none
  | .imul => if len = 1 then (match st with | .int y :: .int x :: r => some (pc + 1, L, .int (x * y) :: r) | _ => none) else none
  | .iand => if len = 1 then (match st with | .int y :: .int x :: r => some (pc + 1, L, .int (x &&& y) :: r) | _ => none) else none
  | .ior => if len = 1 then (match st with | .int y :: .int x :: r => some (pc + 1, L, .int (x ||| y) :: r) | _ => none) else none
  | .ishl => if len = 1 then (match st with | .int y :: .int x :: r => some (pc + 1, L, .int (x <<< (y &&& 31)) :: r) | _ => none) else none
  | .ishr => if len = 1 then (match st with | .int y :: .int x :: r => some (pc + 1, L, .int (x >>> (y &&& 31)) :: r) | _ => none) else none
  | .idiv => if len = 1 then (match st with | .int y :: .int x :: r => if y = 0 then none else some (pc + 1, L, .int (x / y) :: r) | _ => none) else none
  | .irem => if len = 1 then (match st with | .int y :: .int x :: r => if y = 0 then none else some (pc + 1, L, .int (x - x / y * y) :: r) | _ => none) else none
  | .i2l => if len = 1 then (match st with | .int x :: r => some (pc + 1, L, .long x.toInt64 :: r) | _ => none) else none
  | .l2i => if len = 1 then (match st with | .long x :: r => some (pc + 1, L, .int x.toInt32 :: r) | _ => none) else none
  | .i2b => if len = 1 then (match st with | .int x :: r => some (pc + 1, L, .int x.toInt8.toInt32 :: r) | _ => none) else none
  | .land => if len = 1 then (match st with | .long y :: .long x :: r => some (pc + 1, L, .long (x &&& y) :: r) | _ => none) else none
  | .lor => if len = 1 then (match st with | .long y :: .long x :: r => some (pc + 1, L, .long (x ||| y) :: r) | _ => none) else none
  | .lshl => if len = 1 then (match st with | .int y :: .long x :: r => some (pc + 1, L, .long (x <<< (y.toInt64 &&& 63)) :: r) | _ => none) else none
  | .lushr => if len = 1 then (match st with | .int y :: .long x :: r => some (pc + 1, L, .long (x.toUInt64 >>> (y.toInt64.toUInt64 &&& Int64.toUInt64 63)).toInt64 :: r) | _ => none) else none
  | .ldiv => if len = 1 then (match st with | .long y :: .long x :: r => if y = 0 then none else some (pc + 1, L, .long (x / y) :: r) | _ => none) else none
  | .lrem => if len = 1 then (match st with | .long y :: .long x :: r => if y = 0 then none else some (pc + 1, L, .long (x - x / y * y) :: r) | _ => none) else none
  | .lcmp => if len = 1 then (match st with | .long y :: .long x :: r => some (pc + 1, L, .int (lg_cmp x y) :: r) | _ => none) else none
  | _ => none
/-- the stack, branches -/
def z_A3 (ins : Instr) (len pc : Nat) (L : z_L) (st : List Value) : Option (Nat × z_L × List Value) := match ins with
  | .dup => if len = 1 then (match st with | .ref a :: r => some (pc + 1, L, .ref a :: .ref a :: r) | .int a :: r => some (pc + 1, L, .int a :: .int a :: r) | _ => none) else none
  | .pop => if len = 1 then (match st with | .ref _ :: r => some (pc + 1, L, r) | .int _ :: r => some (pc + 1, L, r) | _ => none) else none
  | .dup_x1 => if len = 1 then (match st with | .ref a :: .ref b :: r => some (pc + 1, L, .ref a :: .ref b :: .ref a :: r) | .int a :: .ref b :: r => some (pc + 1, L, .int a :: .ref b :: .int a :: r) | _ => none) else none
  | .dup2 => if len = 1 then (match st with | .int a :: .ref b :: r => some (pc + 1, L, .int a :: .ref b :: .int a :: .ref b :: r) | _ => none) else none
  | .goto off => if len = 3 then z_br true pc 3 off L st else none
  | .if_icmp c off => if len = 3 then (match st with
    | .int y :: .int x :: r => (match c with
      | .eq => z_br (decide (x = y)) pc 3 off L r
      | .ne => z_br (decide (x ≠ y)) pc 3 off L r
      | .lt => z_br (decide (x < y)) pc 3 off L r
      | .ge => z_br (decide (y ≤ x)) pc 3 off L r
      | .gt => z_br (decide (y < x)) pc 3 off L r
      | .le => z_br (decide (x ≤ y)) pc 3 off L r)
    | _ => none) else none
  | .ifCond c off => if len = 3 then (match st with
    | .int x :: r => (match c with
      | .eq => z_br (decide (x = 0)) pc 3 off L r
      | .ne => z_br (decide (x ≠ 0)) pc 3 off L r
      | .lt => z_br (decide (x < 0)) pc 3 off L r
      | .ge => z_br (decide (0 ≤ x)) pc 3 off L r
      | .gt => z_br (decide (0 < x)) pc 3 off L r
      | .le => z_br (decide (x ≤ 0)) pc 3 off L r)
    | _ => none) else none
  | .ifnull off => if len = 3 then (match st with | .ref _ :: r => z_br false pc 3 off L r | .null :: r => z_br true pc 3 off L r | _ => none) else none
  | .ifnonnull off => if len = 3 then (match st with | .ref _ :: r => z_br true pc 3 off L r | .null :: r => z_br false pc 3 off L r | _ => none) else none
  | .if_acmp c off => if len = 3 then (match st with
    | .ref y :: .ref x :: r => if x = y then (match c with
      | .eq => z_br true pc 3 off L r
      | .ne => z_br false pc 3 off L r) else none
    | _ => none) else none
  | .tableswitch d lo hi offs => (match st with
    | .int x :: r => if x.toInt < lo ∨ hi < x.toInt then z_br true pc 0 d L r else (match offs[(x.toInt - lo).toNat]? with
      | some off => z_br true pc 0 off L r
      | none => none)
    | _ => none)
  | _ => none
abbrev z_W : Type := Nat × List Value × z_H × Nat × Nat × Nat
/-- the heap: fields and rows -/
def z_B1 (M : Nat) (ins : Instr) (len pc : Nat) (st : List Value) (h : z_H) (nx bc bs : Nat) : Option z_W := match ins with
  | .getfield cp => if len = 3 then (match st, z_f M cp with
    | .ref a :: r, some (ci, j, _, _) => (match h a with
      | .inr (.inl (ci', fs)) => if ci' = ci then some (pc + 3, fs j :: r, h, nx, bc, bs) else none
      | _ => none)
    | _, _ => none) else none
  | .putfield cp => if len = 3 then (match st, z_f M cp with
    | v :: .ref a :: r, some (ci, j, t, fin) => if z_fit t v = true ∧ (fin = true → z_isI M = true ∧ ci = z_ow M) then (match h a with
      | .inr (.inl (ci', fs)) => if ci' = ci then some (pc + 3, r, va_up h a (.inr (.inl (ci, va_up fs j v))), nx, bc, bs) else none
      | _ => none) else none
    | _, _ => none) else none
  | .iaload => if len = 1 then (match st with
    | .int i :: .ref a :: r => (match h a with
      | .inl (k, n, f) => if (k = 0 ∨ k = 3) ∧ z_in i n = true then some (pc + 1, .int (f i.toNatClampNeg) :: r, h, nx, bc, bs) else none
      | _ => none)
    | _ => none) else none
  | .baload => if len = 1 then (match st with
    | .int i :: .ref a :: r => (match h a with
      | .inl (k, n, f) => if (k = 1 ∨ k = 2) ∧ z_in i n = true then some (pc + 1, .int (f i.toNatClampNeg) :: r, h, nx, bc, bs) else none
      | _ => none)
    | _ => none) else none
  | .aaload => if len = 1 then (match st with
    | .int i :: .ref a :: r => (match h a with
      | .inr (.inr (n, f)) => if z_in i n = true then some (pc + 1, z_rf (f i.toNatClampNeg) :: r, h, nx, bc, bs) else none
      | _ => none)
    | _ => none) else none
  | .iastore => if len = 1 then (match st with
    | .int x :: .int i :: .ref a :: r => (match h a with
      | .inl (k, n, f) => if k = 0 ∧ z_in i n = true then some (pc + 1, r, va_up h a (.inl (0, n, va_up f i.toNatClampNeg x)), nx, bc, bs) else none
      | _ => none)
    | _ => none) else none
  | .bastore => if len = 1 then (match st with
    | .int x :: .int i :: .ref a :: r => (match h a with
      | .inl (k, n, f) => if k = 1 ∧ z_in i n = true then some (pc + 1, r, va_up h a (.inl (1, n, va_up f i.toNatClampNeg (vp_nar .byte x))), nx, bc, bs)
          else if k = 2 ∧ z_in i n = true then some (pc + 1, r, va_up h a (.inl (2, n, va_up f i.toNatClampNeg (vp_nar .boolean x))), nx, bc, bs) else none
      | _ => none)
    | _ => none) else none
  | .aastore => if len = 1 then (match st with
    | .ref v :: .int i :: .ref a :: r => (match h a, h v with
      | .inr (.inr (n, f)), .inr (.inl (ci, _)) => if ci < 9 ∧ z_in i n = true then some (pc + 1, r, va_up h a (.inr (.inr (n, va_up f i.toNatClampNeg (some v)))), nx, bc, bs) else none
      | _, _ => none)
    | _ => none) else none
  | .arraylength => if len = 1 then (match st with
    | .ref a :: r => (match h a with
      | .inl (_, n, _) => some (pc + 1, .int (Int32.ofNat n) :: r, h, nx, bc, bs)
      | .inr (.inr (n, _)) => some (pc + 1, .int (Int32.ofNat n) :: r, h, nx, bc, bs)
      | _ => none)
    | _ => none) else none
  | _ => none
/-- whether what a copy of references takes is of one class -/
def z_cq (h : z_H) (f : Nat → Option Nat) (sp n ci : Nat) : Bool := (List.range n).all fun i => match f (sp + i) with
  | none => true
  | some y => match h y with
    | .inr (.inl (c, _)) => c == ci
    | _ => false
def z_ak (t : ArrayType) : Option Nat := match t with
  | .int => some 0
  | .byte => some 1
  | .boolean => some 2
  | _ => none
/-- the heap: making, casts, the JDK's natives -/
def z_B2 (d M : Nat) (ins : Instr) (len pc : Nat) (st : List Value) (h : z_H) (nx bc bs : Nat) : Option z_W := match ins with
  | .new cp => if len = 3 then (match z_k M cp with
    | some ci => if ci < 10 ∧ 1 ≤ bc ∧ z_nf ci ≤ bs then some (pc + 3, .ref nx :: st, va_up h nx (.inr (.inl (ci, z_df ci))), nx + 1, bc - 1, bs - z_nf ci) else none
    | none => none) else none
  | .newarray t => if len = 2 then (match st, z_ak t with
    | .int n :: r, some k => if ¬ n < 0 ∧ n.toNatClampNeg ≤ 1000 ∧ 1 ≤ bc ∧ n.toNatClampNeg ≤ bs then some (pc + 2, .ref nx :: r, va_up h nx (.inl (k, n.toNatClampNeg, fun _ => 0)), nx + 1, bc - 1, bs - n.toNatClampNeg) else none
    | _, _ => none) else none
  | .anewarray cp => if len = 3 ∧ z_ao M cp = true then (match st with
    | .int n :: r => if ¬ n < 0 ∧ n.toNatClampNeg ≤ 1000 ∧ 1 ≤ bc ∧ n.toNatClampNeg ≤ bs then some (pc + 3, .ref nx :: r, va_up h nx (.inr (.inr (n.toNatClampNeg, fun _ => none))), nx + 1, bc - 1, bs - n.toNatClampNeg) else none
    | _ => none) else none
  | .checkcast cp => if len = 3 then (match st, z_k M cp with
    | .ref a :: r, some ci => (match h a with
      | .inr (.inl (ci', _)) => if ci' = ci then some (pc + 3, .ref a :: r, h, nx, bc, bs) else none
      | _ => none)
    | _, _ => none) else none
  | .getstatic cp => if len = 3 ∧ z_gs M cp = true then some (pc + 3, .ref 1 :: st, h, nx, bc, bs) else none
  | .ldc cp => if len = 2 ∧ z_lm M cp = true then some (pc + 2, .ref 2 :: st, h, nx, bc, bs) else none
  | .invokespecial cp => if len = 3 ∧ z_oi M cp = true ∧ 1 ≤ d then (match st with
    | .ref _ :: r => if r.length ≤ 4 then some (pc + 3, r, h, nx, bc, bs) else none
    | _ => none) else none
  | .invokevirtual cp => if len = 3 ∧ z_gc M cp = true ∧ 1 ≤ d then (match st with
    | .ref a :: r => (match h a with
      | .inr (.inr _) => if r.length ≤ 4 ∧ a ≠ 1 then some (pc + 3, .ref 2 :: r, h, nx, bc, bs) else none
      | _ => none)
    | _ => none) else none
  | .invokestatic cp => if len = 3 ∧ z_mX M cp = true ∧ 1 ≤ d then (match st with
    | .int y :: .int x :: r => if r.length ≤ 4 then some (pc + 3, .int (if x < y then y else x) :: r, h, nx, bc, bs) else none
    | _ => none) else if len = 3 ∧ z_mN M cp = true ∧ 1 ≤ d then (match st with
    | .int y :: .int x :: r => if r.length ≤ 4 then some (pc + 3, .int (if y < x then y else x) :: r, h, nx, bc, bs) else none
    | _ => none) else if len = 3 ∧ z_ac M cp = true ∧ 1 ≤ d then (match st with
    | .int n :: .int dp :: .ref a :: .int sp :: .ref a0 :: r => if r.length ≤ 4 ∧ ¬ n < 0 ∧ ¬ dp < 0 ∧ ¬ sp < 0 then (match h a0, h a with
      | .inl (k0, n0, f), .inl (k1, n1, g) => if k0 = k1 ∧ (k0 = 0 ∨ (k0 = 1 ∧ ((List.range n.toNatClampNeg).all fun i => fits .byte (.int (f (sp.toNatClampNeg + i)))) = true)) ∧ sp.toNatClampNeg + n.toNatClampNeg ≤ n0 ∧ dp.toNatClampNeg + n.toNatClampNeg ≤ n1
          then some (pc + 3, r, va_up h a (.inl (k1, n1, va_cpy f g sp.toNatClampNeg dp.toNatClampNeg n.toNatClampNeg)), nx, bc, bs) else none
      | .inr (.inr (n0, f)), .inr (.inr (n1, g)) => if a ≠ 1 ∧ a0 ≠ 1 ∧ (z_cq h f sp.toNatClampNeg n.toNatClampNeg 6 = true ∨ z_cq h f sp.toNatClampNeg n.toNatClampNeg 2 = true ∨ z_cq h f sp.toNatClampNeg n.toNatClampNeg 3 = true) ∧ sp.toNatClampNeg + n.toNatClampNeg ≤ n0 ∧ dp.toNatClampNeg + n.toNatClampNeg ≤ n1
          then some (pc + 3, r, va_up h a (.inr (.inr (n1, va_cpy f g sp.toNatClampNeg dp.toNatClampNeg n.toNatClampNeg))), nx, bc, bs) else none
      | _, _ => none) else none
    | _ => none) else none
  | _ => none
/-- the end of a method -/
def z_R (M : Nat) (ins : Instr) (len : Nat) (st : List Value) : Option (Option Value) := match ins with
  | .ireturn => if len = 1 then (match st, z_rt M with
    | [.int v], some .int => some (some (.int v))
    | [.int v], some .boolean => if v = 0 ∨ v = 1 then some (some (.int v)) else none
    | _, _ => none) else none
  | .areturn => if len = 1 then (match st, z_rt M with
    | [.ref a], some (.object _) => some (some (.ref a))
    | [.null], some (.object _) => some (some .null)
    | [.ref a], some (.array _) => some (some (.ref a))
    | _, _ => none) else none
  | .return_ => if len = 1 then (match st, z_rt M with
    | [], none => some none
    | _, _ => none) else none
  | _ => none
/-- the locals at a method's entry -/
def z_sl : List Value → z_L
  | [] => []
  | .long v :: vs => some (.long v) :: none :: z_sl vs
  | v :: vs => some v :: z_sl vs
def z_en (n : Nat) (vs : List Value) : z_L := z_sl vs ++ List.replicate (n - (z_sl vs).length) none
/-- longs stand where the method has longs; doubles are not passed -/
def z_lo (lg : List Nat) : Nat → List Value → Bool
  | _, [] => true
  | i, .long _ :: vs => lg.contains i && z_lo lg (i + 2) vs
  | _, .double _ :: _ => false
  | i, _ :: vs => z_lo lg (i + 1) vs
def z_ag (M : Nat) (vs : List Value) : Bool := z_lo (z_lg M) 0 vs && decide ((z_sl vs).length ≤ z_mx M)
/-- a call: the method, its arguments, what stays on the stack -/
def z_D (M : Nat) (ins : Instr) (len : Nat) (st : List Value) (h : z_H) : Option (Nat × List Value × List Value) := match ins with
  | .invokevirtual cp => if len = 3 then (match z_c M cp with
    | some (M', 0, n) => (match st.drop n with
      | .ref b :: r => (match h b with
        | .inr (.inl (ci, _)) => if ci = z_ow M' ∧ r.length ≤ 4 ∧ z_ag M' (.ref b :: (st.take n).reverse) = true then some (M', .ref b :: (st.take n).reverse, r) else none
        | _ => none)
      | _ => none)
    | _ => none) else none
  | .invokespecial cp => if len = 3 then (match z_c M cp with
    | some (M', 2, n) => (match st.drop n with
      | .ref b :: r => if r.length ≤ 4 ∧ z_ag M' (.ref b :: (st.take n).reverse) = true then some (M', .ref b :: (st.take n).reverse, r) else none
      | _ => none)
    | _ => none) else none
  | .invokestatic cp => if len = 3 then (match z_c M cp with
    | some (M', 1, n) => if n ≤ st.length ∧ (st.drop n).length ≤ 4 ∧ z_ag M' (st.take n).reverse = true then some (M', (st.take n).reverse, st.drop n) else none
    | some (M', 3, n) => if n ≤ st.length ∧ (st.drop n).length ≤ 4 ∧ z_ag M' (st.take n).reverse = true then some (M', (st.take n).reverse, st.drop n) else none
    | _ => none) else none
  | _ => none
def z_A (M : Nat) (ins : Instr) (len pc : Nat) (L : z_L) (st : List Value) : Option (Nat × z_L × List Value) := (z_A1 M ins len pc L st).or ((z_A2 ins len pc L st).or (z_A3 ins len pc L st))
def z_B (d M : Nat) (ins : Instr) (len pc : Nat) (st : List Value) (h : z_H) (nx bc bs : Nat) : Option z_W := (z_B1 M ins len pc st h nx bc bs).or (z_B2 d M ins len pc st h nx bc bs)
def z_pu (r : Option Value) (st : List Value) : List Value := match r with
  | some v => v :: st
  | none => st
abbrev z_Q : Type := Option Value → z_H → Nat → Prop
def Ex : Nat → Nat → Nat → Nat → z_L → List Value → z_H → Nat → Nat → Nat → z_Q → Prop
  | 0, _, _, _, _, _, _, _, _, _, _ => False
  | k + 1, d, M, pc, L, st, h, nx, bc, bs, Q => match decode (z_by M) pc with
    | .ok (ins, len) => (match z_A M ins len pc L st with
      | some (pc', L', st') => Ex k d M pc' L' st' h nx bc bs Q
      | none => (match z_B d M ins len pc st h nx bc bs with
        | some (pc', st', h', nx', bc', bs') => Ex k d M pc' L st' h' nx' bc' bs' Q
        | none => (match z_R M ins len st with
          | some r => Q r h nx
          | none => (match z_D M ins len st h with
            | some (M', args, st') => (match d with
              | 0 => False
              | d' + 1 => (z_mc M' ≤ bc ∧ z_ms M' ≤ bs) ∧ Ex k d' M' 0 (z_en (z_mx M') args) [] h nx (z_mc M') (z_ms M') (fun r h' nx' => Ex k (d' + 1) M (pc + 3) L (z_pu r st') h' nx' (bc - z_mc M') (bs - z_ms M') Q))
            | none => False))))
    | _ => False
/-- the walk comes to the method's end, and there Q -/
def X (d M pc : Nat) (L : z_L) (st : List Value) (h : z_H) (nx bc bs : Nat) (Q : z_Q) : Prop := ∃ k, Ex k d M pc L st h nx bc bs Q
/-- a method is called -/
def XC (d M : Nat) (args : List Value) (h : z_H) (nx : Nat) (Q : z_Q) : Prop := X d M 0 (z_en (z_mx M) args) [] h nx (z_mc M) (z_ms M) Q
