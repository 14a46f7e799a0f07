/-! THE ABSTRACT MACHINE: a heap of cells by their places (0: the empty array that lists begin with, 1: the script, 2: the mirror of Object[]; these three are kept apart), a count of the room used, and runs as a function. -/
abbrev ZA : Type := (Nat → Int32) ⊕ (Nat → Int64) ⊕ (Nat → UInt32) ⊕ (Nat → UInt64) ⊕ (Nat → Option Nat)
abbrev ZC : Type := (Nat × ZA) ⊕ (Nat × List Value)
abbrev ZS : Type := Nat × List ZC
abbrev ZO : Type := Option Value ⊕ String
abbrev ZX : Type := Nat × (Nat → Int32)
abbrev ZR : Type := ZO × ZS
abbrev ZQ : Type := Nat × List Value × List Value × ZS
def zjk : Value := .retAddr 0
def zmk : Value := .retAddr 1
def zget (st : ZS) (a ci k : Nat) : Option Value := match st.2[a]? with
  | some (.inr o) => if o.1 = ci then o.2[k]? else none
  | _ => none
def zput (st : ZS) (a k : Nat) (v : Value) : ZS := match st.2[a]? with
  | some (.inr o) => (st.1, st.2.set a (.inr (o.1, o.2.set k v)))
  | _ => st
def zarr (st : ZS) (a : Nat) : Option (Nat × ZA) := match st.2[a]? with
  | some (.inl x) => some x
  | _ => none
def zsta (st : ZS) (a : Nat) (x : Nat × ZA) : ZS := (st.1, st.2.set a (.inl x))
def znew (st : ZS) (ci : Nat) : ZS := (st.1 + (znewf ci).length + 1, st.2 ++ [.inr (ci, znewf ci)])
def znwa (st : ZS) (n : Nat) (x : ZA) : ZS := (st.1 + n + 1, st.2 ++ [.inl (n, x)])
def zis (st : ZS) (a ci : Nat) : Bool := (zget st a ci 0).isSome
def zlen (X : ZX) (st : ZS) (a : Nat) : Option Nat := if a = 0 then some 0 else if a = 1 then some X.1 else (zarr st a).map (fun x => x.1)
def zix (i : Int32) (n : Nat) : Option Nat := if i < 0 ∨ n ≤ i.toNatClampNeg then none else some i.toNatClampNeg
def zc1 (v : Value) : Bool := decide (v.category = 1)
def zfits (t : Nat) (v : Value) : Bool := match t, v with
  | 0, .int _ => true
  | 1, .float _ => true
  | 2, .ref _ => true
  | 2, .null => true
  | _, _ => false
def zcnd (c : Jvm.ClassFile.Cond) (x y : Int32) : Bool := match c with
  | .eq => decide (x = y)
  | .ne => decide (¬ x = y)
  | .lt => decide (x < y)
  | .ge => decide (y ≤ x)
  | .gt => decide (y < x)
  | .le => decide (x ≤ y)
def zto (pc : Nat) (off : Int) : Option Nat := if 0 ≤ (pc : Int) + off then some ((pc : Int) + off).toNat else none
def zn32 (x : UInt32) : Bool := decide (x &&& 0x7fffffff ≤ 0x7f800000)
def zn64 (x : UInt64) : Bool := decide (x &&& 0x7fffffffffffffff ≤ 0x7ff0000000000000)
def zOI : List (Nat × Nat) := [(0, 3), (1, 3), (2, 3), (3, 1), (4, 3), (5, 3), (6, 1), (8, 1)]
/-- a part of an object of a made class: which class, of those that an Object[] may hold -/
def zob (st : ZS) (a : Nat) : Bool := zis st a 1 || (zis st a 2 || (zis st a 3 || (zis st a 4 || (zis st a 5 || (zis st a 6 || zis st a 7)))))
def zlok (i : Instr) (len : Nat) : Bool := match i with
  | .bipush _ | .ldc _ | .aload _ | .iload _ | .fload _ | .dload _ | .astore _ | .istore _ | .fstore _ | .dstore _ | .newarray _ => len == 2
  | .sipush _ | .ldc2_w _ | .iinc _ _ | .goto _ | .if_icmp _ _ | .ifCond _ _ | .if_acmp _ _ | .ifnull _ | .ifnonnull _ | .getfield _ | .putfield _ | .getstatic _ | .new _ | .anewarray _ | .checkcast _ | .invokevirtual _ | .invokespecial _ | .invokestatic _ => len == 3
  | .tableswitch _ _ _ _ => true
  | _ => len == 1
def zldi (n pc' : Nat) (L S : List Value) (st : ZS) : Option ZQ := match L[n]? with
  | some (.int x) => some (pc', L, .int x :: S, st)
  | _ => none
def zlda (n pc' : Nat) (L S : List Value) (st : ZS) : Option ZQ := match L[n]? with
  | some (.ref x) => some (pc', L, .ref x :: S, st)
  | some .null => some (pc', L, .null :: S, st)
  | _ => none
def zldf (n pc' : Nat) (L S : List Value) (st : ZS) : Option ZQ := match L[n]? with
  | some (.float x) => some (pc', L, .float x :: S, st)
  | _ => none
def zldd (n pc' : Nat) (L S : List Value) (st : ZS) : Option ZQ := match L[n]? with
  | some (.double x) => if L[n + 1]? = some (.retAddr 1) then some (pc', L, .double x :: S, st) else none
  | _ => none
def zsti (n pc' : Nat) (L S : List Value) (st : ZS) : Option ZQ := match S with
  | .int x :: S => if n < L.length then some (pc', L.set n (.int x), S, st) else none
  | _ => none
def zsta' (n pc' : Nat) (L S : List Value) (st : ZS) : Option ZQ := match S with
  | .ref x :: S => if n < L.length then some (pc', L.set n (.ref x), S, st) else none
  | .null :: S => if n < L.length then some (pc', L.set n .null, S, st) else none
  | _ => none
def zstf (n pc' : Nat) (L S : List Value) (st : ZS) : Option ZQ := match S with
  | .float x :: S => if n < L.length then some (pc', L.set n (.float x), S, st) else none
  | _ => none
def zstd (n pc' : Nat) (L S : List Value) (st : ZS) : Option ZQ := match S with
  | .double x :: S => if n + 1 < L.length then some (pc', (L.set n (.double x)).set (n + 1) (.retAddr 1), S, st) else none
  | _ => none
def zi2 (f : Int32 → Int32 → Option Int32) (pc : Nat) (L S : List Value) (st : ZS) : Option ZQ := match S with
  | .int y :: .int x :: S => (f x y).bind fun z => some (pc + 1, L, .int z :: S, st)
  | _ => none
def zf2 (f : UInt32 → UInt32 → UInt32) (pc : Nat) (L S : List Value) (st : ZS) : Option ZQ := match S with
  | .float y :: .float x :: S => if zn32 (f x y) = true then some (pc + 1, L, .float (f x y) :: S, st) else none
  | _ => none
def zd2 (f : UInt64 → UInt64 → UInt64) (pc : Nat) (L S : List Value) (st : ZS) : Option ZQ := match S with
  | .double y :: .double x :: S => if zn64 (f x y) = true then some (pc + 1, L, .double (f x y) :: S, st) else none
  | _ => none
def zbr (b : Bool) (pc : Nat) (off : Int) (L S : List Value) (st : ZS) : Option ZQ := (zto pc off).bind fun t => some (if b = true then t else pc + 3, L, S, st)
def zel (st : ZS) (f : Nat → Option Nat) (sp n : Nat) : Bool := (List.range n).all fun i => match f (sp + i) with
  | none => true
  | some y => zob st y
def zcpyi (pc : Nat) (L S : List Value) (st : ZS) : Option ZQ := match S with
  | .int n :: .int dp :: .ref b :: .int sp :: .ref a :: S => (match zarr st a, zarr st b with
    | some (n0, .inl f), some (n1, .inl g) => if sp < 0 ∨ dp < 0 ∨ n < 0 ∨ n0 < sp.toNatClampNeg + n.toNatClampNeg ∨ n1 < dp.toNatClampNeg + n.toNatClampNeg ∨ 4 < S.length then none
      else some (pc + 3, L, S, zsta st b (n1, .inl (va_cpy f g sp.toNatClampNeg dp.toNatClampNeg n.toNatClampNeg)))
    | _, _ => none)
  | _ => none
def zcpyr (pc : Nat) (L S : List Value) (st : ZS) : Option ZQ := match S with
  | .int n :: .int dp :: .ref b :: .int sp :: .ref a :: S => (match zarr st a, zarr st b with
    | some (n0, .inr (.inr (.inr (.inr f)))), some (n1, .inr (.inr (.inr (.inr g)))) => if sp < 0 ∨ dp < 0 ∨ n < 0 ∨ n0 < sp.toNatClampNeg + n.toNatClampNeg ∨ n1 < dp.toNatClampNeg + n.toNatClampNeg ∨ 4 < S.length ∨ zel st f sp.toNatClampNeg n.toNatClampNeg = false then none
      else some (pc + 3, L, S, zsta st b (n1, .inr (.inr (.inr (.inr (va_cpy f g sp.toNatClampNeg dp.toNatClampNeg n.toNatClampNeg))))))
    | _, _ => none)
  | _ => none
/-- one instruction that calls nothing, and does not leave the method -/
def zstep (X : ZX) (mi : Nat) (i : Instr) (pc : Nat) (L S : List Value) (st : ZS) : Option ZQ :=
  match i with
  | .aconst_null => some (pc + 1, L, .null :: S, st)
  | .iconst n => some (pc + 1, L, .int (Int32.ofInt n) :: S, st)
  | .bipush n => some (pc + 2, L, .int (Int8.ofInt n).toInt32 :: S, st)
  | .sipush n => some (pc + 3, L, .int (Int16.ofInt n).toInt32 :: S, st)
  | .fconst f => if f = 0 then some (pc + 1, L, .float FP.fconst0 :: S, st) else none
  | .dconst f => if f = 0 then some (pc + 1, L, .double FP.dconst0 :: S, st) else none
  | .ldc idx => if zoc mi = 11 ∧ idx = 110 then some (pc + 2, L, .ref 2 :: S, st) else (zDL.lookup (zoc mi, idx)).bind fun v => if zc1 v = true then some (pc + 2, L, v :: S, st) else none
  | .ldc2_w idx => (zDL.lookup (zoc mi, idx)).bind fun v => if zc1 v = false then some (pc + 3, L, v :: S, st) else none
  | .iload n => zldi n (pc + 2) L S st
  | .iload_n n => zldi n (pc + 1) L S st
  | .aload n => zlda n (pc + 2) L S st
  | .aload_n n => zlda n (pc + 1) L S st
  | .fload n => zldf n (pc + 2) L S st
  | .fload_n n => zldf n (pc + 1) L S st
  | .dload n => zldd n (pc + 2) L S st
  | .dload_n n => zldd n (pc + 1) L S st
  | .istore n => zsti n (pc + 2) L S st
  | .istore_n n => zsti n (pc + 1) L S st
  | .astore n => zsta' n (pc + 2) L S st
  | .astore_n n => zsta' n (pc + 1) L S st
  | .fstore n => zstf n (pc + 2) L S st
  | .fstore_n n => zstf n (pc + 1) L S st
  | .dstore n => zstd n (pc + 2) L S st
  | .dstore_n n => zstd n (pc + 1) L S st
  | .iinc n c => (match L[n]? with
    | some (.int x) => some (pc + 3, L.set n (.int (x + Int32.ofInt c)), S, st)
    | _ => none)
  | .iadd => zi2 (fun x y => some (x + y)) pc L S st
  | .isub => zi2 (fun x y => some (x - y)) pc L S st
  | .imul => zi2 (fun x y => some (x * y)) pc L S st
  | .idiv => zi2 (fun x y => if y = 0 then none else some (x / y)) pc L S st
  | .irem => zi2 (fun x y => if y = 0 then none else some (x - x / y * y)) pc L S st
  | .iand => zi2 (fun x y => some (x &&& y)) pc L S st
  | .ior => zi2 (fun x y => some (x ||| y)) pc L S st
  | .ishl => zi2 (fun x y => some (x <<< (y &&& 31))) pc L S st
  | .ishr => zi2 (fun x y => some (x >>> (y &&& 31))) pc L S st
  | .fadd => zf2 FP.fadd pc L S st
  | .fdiv => zf2 FP.fdiv pc L S st
  | .dadd => zd2 FP.dadd pc L S st
  | .ddiv => zd2 FP.ddiv pc L S st
  | .i2l => (match S with
    | .int x :: S => some (pc + 1, L, .long x.toInt64 :: S, st)
    | _ => none)
  | .i2d => (match S with
    | .int x :: S => some (pc + 1, L, .double (FP.i2d x) :: S, st)
    | _ => none)
  | .f2i => (match S with
    | .float x :: S => some (pc + 1, L, .int (FP.f2i x) :: S, st)
    | _ => none)
  | .f2d => (match S with
    | .float x :: S => if zn64 (FP.f2d x) = true then some (pc + 1, L, .double (FP.f2d x) :: S, st) else none
    | _ => none)
  | .d2f => (match S with
    | .double x :: S => if zn32 (FP.d2f x) = true then some (pc + 1, L, .float (FP.d2f x) :: S, st) else none
    | _ => none)
  | .lcmp => (match S with
    | .long y :: .long x :: S => some (pc + 1, L, .int (lg_cmp x y) :: S, st)
    | _ => none)
  | .fcmp op => (match S with
    | .float y :: .float x :: S => some (pc + 1, L, .int (Op.cmpValue (FP.fcmp x y) op) :: S, st)
    | _ => none)
  | .dcmp op => (match S with
    | .double y :: .double x :: S => some (pc + 1, L, .int (Op.cmpValue (FP.dcmp x y) op) :: S, st)
    | _ => none)
  | .dup => (match S with
    | v :: S => if zc1 v = true then some (pc + 1, L, v :: v :: S, st) else none
    | _ => none)
  | .dup_x1 => (match S with
    | v :: w :: S => if zc1 v = true ∧ zc1 w = true then some (pc + 1, L, v :: w :: v :: S, st) else none
    | _ => none)
  | .dup2 => (match S with
    | v :: w :: S => if zc1 v = true ∧ zc1 w = true then some (pc + 1, L, v :: w :: v :: w :: S, st) else none
    | _ => none)
  | .pop => (match S with
    | v :: S => if zc1 v = true then some (pc + 1, L, S, st) else none
    | _ => none)
  | .goto off => (zto pc off).bind fun t => some (t, L, S, st)
  | .ifCond c off => (match S with
    | .int x :: S => zbr (zcnd c x 0) pc off L S st
    | _ => none)
  | .if_icmp c off => (match S with
    | .int y :: .int x :: S => zbr (zcnd c x y) pc off L S st
    | _ => none)
  | .ifnull off => (match S with
    | .ref _ :: S => zbr false pc off L S st
    | .null :: S => zbr true pc off L S st
    | _ => none)
  | .ifnonnull off => (match S with
    | .ref _ :: S => zbr true pc off L S st
    | .null :: S => zbr false pc off L S st
    | _ => none)
  | .if_acmp c off => (match S with
    | .ref y :: .ref x :: S => if x = y ∨ (x ≠ 1 ∧ x ≠ 2 ∧ y ≠ 1 ∧ y ≠ 2) then zbr (match c with | .eq => decide (x = y) | .ne => decide (¬ x = y)) pc off L S st else none
    | .null :: .ref _ :: S => zbr (match c with | .eq => false | .ne => true) pc off L S st
    | .ref _ :: .null :: S => zbr (match c with | .eq => false | .ne => true) pc off L S st
    | .null :: .null :: S => zbr (match c with | .eq => true | .ne => false) pc off L S st
    | _ => none)
  | .tableswitch dflt lo hi offs => (match S with
    | .int x :: S => if x.toInt < lo ∨ hi < x.toInt then (zto pc dflt).bind fun t => some (t, L, S, st)
      else (offs[(x.toInt - lo).toNat]?).bind fun off => (zto pc off).bind fun t => some (t, L, S, st)
    | _ => none)
  | .getfield idx => (match S with
    | .ref a :: S => (zFL.lookup (zoc mi, idx)).bind fun q => (zget st a q.1 q.2).bind fun v => some (pc + 3, L, v :: S, st)
    | _ => none)
  | .putfield idx => (match S with
    | v :: .ref a :: S => (zFL.lookup (zoc mi, idx)).bind fun q => (zget st a q.1 q.2).bind fun _ =>
      if zfits (zty q.1 q.2).1 v = true ∧ ((zty q.1 q.2).2 = false ∨ ((znm mi).name = "<init>" ∧ zvi (zoc mi) = q.1)) then some (pc + 3, L, S, zput st a q.2 v) else none
    | _ => none)
  | .getstatic idx => if zoc mi = 10 ∧ idx = 39 then some (pc + 3, L, .ref 0 :: S, st) else none
  | .new idx => (zNL.lookup (zoc mi, idx)).bind fun ci => some (pc + 3, L, .ref st.2.length :: S, znew st ci)
  | .newarray t => (match S with
    | .int n :: S => if n < 0 ∨ 1000000 < n.toNatClampNeg then none else (match t with
      | .int => some (pc + 2, L, .ref st.2.length :: S, znwa st n.toNatClampNeg (.inl fun _ => 0))
      | .long => some (pc + 2, L, .ref st.2.length :: S, znwa st n.toNatClampNeg (.inr (.inl fun _ => 0)))
      | .double => some (pc + 2, L, .ref st.2.length :: S, znwa st n.toNatClampNeg (.inr (.inr (.inr (.inl fun _ => 0)))))
      | _ => none)
    | _ => none)
  | .anewarray idx => (match S with
    | .int n :: S => if (zoc mi = 10 ∧ idx = 7) ∨ (zoc mi = 11 ∧ idx = 2) then (if n < 0 ∨ 1000000 < n.toNatClampNeg then none else some (pc + 3, L, .ref st.2.length :: S, znwa st n.toNatClampNeg (.inr (.inr (.inr (.inr fun _ => none)))))) else none
    | _ => none)
  | .arraylength => (match S with
    | .ref a :: S => (zlen X st a).bind fun n => some (pc + 1, L, .int (Int32.ofNat n) :: S, st)
    | _ => none)
  | .iaload => (match S with
    | .int i :: .ref a :: S => if a = 1 then (zix i X.1).bind fun j => some (pc + 1, L, .int (X.2 j) :: S, st) else (match zarr st a with
      | some (n, .inl f) => (zix i n).bind fun j => some (pc + 1, L, .int (f j) :: S, st)
      | _ => none)
    | _ => none)
  | .laload => (match S with
    | .int i :: .ref a :: S => (match zarr st a with
      | some (n, .inr (.inl f)) => (zix i n).bind fun j => some (pc + 1, L, .long (f j) :: S, st)
      | _ => none)
    | _ => none)
  | .daload => (match S with
    | .int i :: .ref a :: S => (match zarr st a with
      | some (n, .inr (.inr (.inr (.inl f)))) => (zix i n).bind fun j => some (pc + 1, L, .double (f j) :: S, st)
      | _ => none)
    | _ => none)
  | .aaload => (match S with
    | .int i :: .ref a :: S => (match zarr st a with
      | some (n, .inr (.inr (.inr (.inr f)))) => (zix i n).bind fun j => some (pc + 1, L, va_rf (f j) :: S, st)
      | _ => none)
    | _ => none)
  | .iastore => (match S with
    | .int x :: .int i :: .ref a :: S => (match zarr st a with
      | some (n, .inl f) => (zix i n).bind fun j => some (pc + 1, L, S, zsta st a (n, .inl (upd f j x)))
      | _ => none)
    | _ => none)
  | .lastore => (match S with
    | .long x :: .int i :: .ref a :: S => (match zarr st a with
      | some (n, .inr (.inl f)) => (zix i n).bind fun j => some (pc + 1, L, S, zsta st a (n, .inr (.inl (vp_updL f j x))))
      | _ => none)
    | _ => none)
  | .dastore => (match S with
    | .double x :: .int i :: .ref a :: S => (match zarr st a with
      | some (n, .inr (.inr (.inr (.inl f)))) => (zix i n).bind fun j => some (pc + 1, L, S, zsta st a (n, .inr (.inr (.inr (.inl (vf_upd f j x))))))
      | _ => none)
    | _ => none)
  | .aastore => (match S with
    | .ref x :: .int i :: .ref a :: S => (match zarr st a with
      | some (n, .inr (.inr (.inr (.inr f)))) => if zob st x = true then (zix i n).bind fun j => some (pc + 1, L, S, zsta st a (n, .inr (.inr (.inr (.inr (va_up f j (some x))))))) else none
      | _ => none)
    | .null :: .int i :: .ref a :: S => (match zarr st a with
      | some (n, .inr (.inr (.inr (.inr f)))) => (zix i n).bind fun j => some (pc + 1, L, S, zsta st a (n, .inr (.inr (.inr (.inr (va_up f j none))))))
      | _ => none)
    | _ => none)
  | .checkcast idx => (match S with
    | .ref a :: S => (zKL.lookup (zoc mi, idx)).bind fun ci => if zis st a ci = true then some (pc + 3, L, .ref a :: S, st) else none
    | .null :: S => some (pc + 3, L, .null :: S, st)
    | _ => none)
  | .invokespecial idx => (match S with
    | .ref _ :: S => if zOI.contains (zoc mi, idx) = true ∧ S.length ≤ 4 then some (pc + 3, L, S, st) else none
    | _ => none)
  | .invokestatic idx => if zoc mi = 2 ∧ idx = 19 then zcpyi pc L S st else if zoc mi = 11 ∧ idx = 150 then zcpyr pc L S st else (match S with
    | .int y :: .int x :: S => (zXX.lookup (zoc mi, idx)).bind fun b => if S.length ≤ 4 then some (pc + 3, L, .int (if b = true then (if x < y then y else x) else (if y < x then y else x)) :: S, st) else none
    | _ => none)
  | .invokevirtual idx => (match S with
    | .ref a :: S => if zoc mi = 11 ∧ idx = 86 ∧ S.length ≤ 4 then (match zarr st a with
      | some (_, .inr (.inr (.inr (.inr _)))) => some (pc + 3, L, .ref 2 :: S, st)
      | _ => none) else none
    | _ => none)
  | _ => none
/-- a throw of a new exception with a text, from its 'new' on -/
def zthr (mi ik pc : Nat) : Option String := match decode (zby mi) (pc + 3), decode (zby mi) (pc + 4), decode (zby mi) (pc + 6), decode (zby mi) (pc + 9) with
  | .ok (.dup, 1), .ok (.ldc it, 2), .ok (.invokespecial ic, 3), .ok (.athrow, 1) => zXL.lookup (zoc mi, ik, it, ic)
  | _, _, _, _ => none
def zfin (d mi : Nat) (i : Instr) (pc : Nat) (S : List Value) (st : ZS) : Option ZR :=
  match i with
  | .return_ => (match S, zrt mi with
    | [], none => some (.inl none, st)
    | _, _ => none)
  | .ireturn => (match S, zrt mi with
    | [.int v], some .int => some (.inl (some (.int v)), st)
    | [.int v], some .boolean => if v &&& 1 = v then some (.inl (some (.int v)), st) else none
    | _, _ => none)
  | .freturn => (match S, zrt mi with
    | [.float v], some .float => some (.inl (some (.float v)), st)
    | _, _ => none)
  | .dreturn => (match S, zrt mi with
    | [.double v], some .double => some (.inl (some (.double v)), st)
    | _, _ => none)
  | .areturn => (match S, zrt mi with
    | [.ref v], some (.object _) => some (.inl (some (.ref v)), st)
    | [.ref v], some (.array _) => some (.inl (some (.ref v)), st)
    | [.null], some (.object _) => some (.inl (some .null), st)
    | [.null], some (.array _) => some (.inl (some .null), st)
    | _, _ => none)
  | .new ik => if zhh mi = [] ∧ (5 ≤ d ∧ S.length ≤ 4) then (zthr mi ik pc).bind fun E => some (.inr E, (st.1 + 7, st.2)) else none
  | _ => none
/-- where a thrown exception goes on: (method, place of the call, class), (place of the handler, its cell of the locals, the place behind that store) -/
def zhnd (mi pc : Nat) (E : String) : Option (Nat × Nat × Nat) := ((zhh mi).find? fun h => decide (h.1 ≤ pc) && (decide (pc < h.2.1) && decide (zcn h.2.2.2 = E))).bind fun h => match decode (zby mi) h.2.2.1 with
  | .ok (.astore_n k, 1) => some (h.2.2.1, k, h.2.2.1 + 1)
  | .ok (.astore k, 2) => some (h.2.2.1, k, h.2.2.1 + 2)
  | _ => none
def zcal (mi : Nat) (i : Instr) (S : List Value) (st : ZS) : Option (Nat × List Value × List Value) :=
  match i with
  | .invokevirtual idx => (match zCL.lookup (zoc mi, idx) with
    | some (0, y) => (match S.drop (znp y) with
      | .ref a :: S2 => if zis st a (zvi (zoc y)) = true ∧ S2.length ≤ 4 then some (y, .ref a :: (S.take (znp y)).reverse, S2) else none
      | _ => none)
    | _ => none)
  | .invokespecial idx => (match zCL.lookup (zoc mi, idx) with
    | some (2, y) => (match S.drop (znp y) with
      | .ref a :: S2 => if S2.length ≤ 4 then some (y, .ref a :: (S.take (znp y)).reverse, S2) else none
      | _ => none)
    | some (3, y) => (match S.drop (znp y) with
      | .ref a :: S2 => if S2.length ≤ 4 then some (y, .ref a :: (S.take (znp y)).reverse, S2) else none
      | _ => none)
    | _ => none)
  | .invokestatic idx => (match zCL.lookup (zoc mi, idx) with
    | some (1, y) => if znp y ≤ S.length ∧ (S.drop (znp y)).length ≤ 4 then some (y, (S.take (znp y)).reverse, S.drop (znp y)) else none
    | _ => none)
  | _ => none
/-- a method's run from a place on -/
def arun (X : ZX) (d : Nat) (call : Nat → List Value → ZS → Option ZR) (mi : Nat) : Nat → Nat → List Value → List Value → ZS → Option ZR
  | 0, _, _, _, _ => none
  | k + 1, pc, L, S, st =>
    match decode (zby mi) pc with
    | .error _ => none
    | .ok il => if zlok il.1 il.2 = false then none else
      match zstep X mi il.1 pc L S st with
      | some q => arun X d call mi k q.1 q.2.1 q.2.2.1 q.2.2.2
      | none => match zfin d mi il.1 pc S st with
        | some r => some r
        | none => match zcal mi il.1 S st with
          | none => none
          | some c => match call c.1 c.2.1 st with
            | none => none
            | some (.inl v, st') => arun X d call mi k (pc + 3) L (v.toList ++ c.2.2) st'
            | some (.inr E, st') => match zhnd mi pc E with
              | some h => if h.2.1 < L.length then arun X d call mi k h.2.2 (L.set h.2.1 zjk) [] st' else none
              | none => if zhh mi = [] then some (.inr E, st') else none
def zini (y : Nat) (args : List Value) : List Value := args ++ List.replicate (zml y - args.length) zjk
/-- a call, with d calls open at most below it -/
def acall (X : ZX) (n : Nat) : Nat → Nat → List Value → ZS → Option ZR
  | 0, _, _, _ => none
  | d + 1, y, args, st => if (args.length ≤ zml y ∧ zml y ≤ 12) ∧ args.all zc1 = true then arun X d (acall X n d) y n 0 (zini y args) [] st else none
def AW (X : ZX) (d mi pc : Nat) (L S : List Value) (st : ZS) (P : ZO → ZS → Prop) : Prop := ∃ (n k : Nat) (r : ZR), arun X d (acall X n d) mi k pc L S st = some r ∧ P r.1 r.2
def AC (X : ZX) (d y : Nat) (args : List Value) (st : ZS) (P : ZO → ZS → Prop) : Prop := ∃ (n : Nat) (r : ZR), acall X n d y args st = some r ∧ P r.1 r.2
