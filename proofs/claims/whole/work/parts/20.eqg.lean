/-! EQUATIONS, a kind each: what the generated ones are made of -/
def zai (X : ZX) (st : ZS) (a : Nat) : Option (Nat × (Nat → Int32)) := if a = 1 then some X else match zarr st a with
  | some (n, .inl f) => some (n, f)
  | _ => none
def zaI (st : ZS) (a : Nat) : Option (Nat × (Nat → Int32)) := match zarr st a with
  | some (n, .inl f) => some (n, f)
  | _ => none
def zaL (st : ZS) (a : Nat) : Option (Nat × (Nat → Int64)) := match zarr st a with
  | some (n, .inr (.inl f)) => some (n, f)
  | _ => none
def zaD (st : ZS) (a : Nat) : Option (Nat × (Nat → UInt64)) := match zarr st a with
  | some (n, .inr (.inr (.inr (.inl f)))) => some (n, f)
  | _ => none
def zaR (st : ZS) (a : Nat) : Option (Nat × (Nat → Option Nat)) := match zarr st a with
  | some (n, .inr (.inr (.inr (.inr f)))) => some (n, f)
  | _ => none
theorem zd_of {mi pc : Nat} {cc : ByteArray} {r : Except DecodeError (Instr × Nat)} (hb : zby mi = cc) (hd : decode cc pc = r) : decode (zby mi) pc = r := by rw [hb]; exact hd
section ZE1
variable {X : ZX} {d mi pc len t : Nat} {i : Instr} {L S : List Value} {st : ZS} {P : ZO → ZS → Prop} {n off : Int} {v w : Value} {x y : Int32} {a b o idx ci k : Nat}
theorem zAW_st {pc' : Nat} {L' S' : List Value} {st' : ZS} (hd : decode (zby mi) pc = .ok (i, len)) (hl : zlok i len = true) (hs : zstep X mi i pc L S st = some (pc', L', S', st')) : AW X d mi pc L S st P = AW X d mi pc' L' S' st' P := zAW_step (q := (pc', L', S', st')) hd hl hs
theorem zq_iconst {z : Int32} (hd : decode (zby mi) pc = .ok (.iconst n, 1)) (hv : Int32.ofInt n = z) : AW X d mi pc L S st P = AW X d mi (pc + 1) L (.int z :: S) st P := by subst hv; exact zAW_step hd rfl rfl
theorem zq_bipush {z : Int32} (hd : decode (zby mi) pc = .ok (.bipush n, 2)) (hv : (Int8.ofInt n).toInt32 = z) : AW X d mi pc L S st P = AW X d mi (pc + 2) L (.int z :: S) st P := by subst hv; exact zAW_step hd rfl rfl
theorem zq_sipush {z : Int32} (hd : decode (zby mi) pc = .ok (.sipush n, 3)) (hv : (Int16.ofInt n).toInt32 = z) : AW X d mi pc L S st P = AW X d mi (pc + 3) L (.int z :: S) st P := by subst hv; exact zAW_step hd rfl rfl
theorem zq_fconst (hd : decode (zby mi) pc = .ok (.fconst 0, 1)) : AW X d mi pc L S st P = AW X d mi (pc + 1) L (.float FP.fconst0 :: S) st P := zAW_step hd rfl rfl
theorem zq_dconst (hd : decode (zby mi) pc = .ok (.dconst 0, 1)) : AW X d mi pc L S st P = AW X d mi (pc + 1) L (.double FP.dconst0 :: S) st P := zAW_step hd rfl rfl
theorem zq_ldc (hd : decode (zby mi) pc = .ok (.ldc idx, 2)) (ho : zoc mi = o) (hn : o ≠ 11) (hv : zDL.lookup (o, idx) = some v) (h1 : zc1 v = true) : AW X d mi pc L S st P = AW X d mi (pc + 2) L (v :: S) st P := by
  refine zAW_step (q := (pc + 2, L, v :: S, st)) hd rfl ?_
  simp only [zstep]
  rw [ho, if_neg (fun z => hn z.1), hv, Option.bind_some, if_pos h1]
theorem zq_ldcM (hd : decode (zby mi) pc = .ok (.ldc 110, 2)) (ho : zoc mi = 11) : AW X d mi pc L S st P = AW X d mi (pc + 2) L (.ref 2 :: S) st P := by
  refine zAW_step (q := (pc + 2, L, .ref 2 :: S, st)) hd rfl ?_
  simp only [zstep]
  rw [if_pos ⟨ho, trivial⟩]
theorem zq_ldc2 (hd : decode (zby mi) pc = .ok (.ldc2_w idx, 3)) (ho : zoc mi = o) (hv : zDL.lookup (o, idx) = some v) (h1 : zc1 v = false) : AW X d mi pc L S st P = AW X d mi (pc + 3) L (v :: S) st P := by
  refine zAW_step (q := (pc + 3, L, v :: S, st)) hd rfl ?_
  simp only [zstep]
  rw [ho, hv, Option.bind_some, if_pos h1]
theorem zq_iinc {j : Nat} {z : Int32} (hd : decode (zby mi) pc = .ok (.iinc j n, 3)) (hl : L[j]? = some (.int x)) (hz : Int32.ofInt n = z) : AW X d mi pc L S st P = AW X d mi (pc + 3) (L.set j (.int (x + z))) S st P := by
  subst hz
  refine zAW_step (q := (pc + 3, L.set j (.int (x + Int32.ofInt n)), S, st)) hd rfl ?_
  simp only [zstep]
  rw [hl]
theorem zq_idiv (hd : decode (zby mi) pc = .ok (.idiv, 1)) : AW X d mi pc L (.int y :: .int x :: S) st P = zif (¬ y = 0) (AW X d mi (pc + 1) L (.int (x / y) :: S) st P) := by
  by_cases h : y = 0
  · rw [zAW_stuck hd (by simp [zstep, zi2, h]) rfl rfl]
    exact propext ⟨fun z => z.elim, fun z => z.1 h⟩
  · rw [zif_of h]
    exact zAW_step (q := (pc + 1, L, .int (x / y) :: S, st)) hd rfl (by simp [zstep, zi2, h])
theorem zq_irem (hd : decode (zby mi) pc = .ok (.irem, 1)) : AW X d mi pc L (.int y :: .int x :: S) st P = zif (¬ y = 0) (AW X d mi (pc + 1) L (.int (x - x / y * y) :: S) st P) := by
  by_cases h : y = 0
  · rw [zAW_stuck hd (by simp [zstep, zi2, h]) rfl rfl]
    exact propext ⟨fun z => z.elim, fun z => z.1 h⟩
  · rw [zif_of h]
    exact zAW_step (q := (pc + 1, L, .int (x - x / y * y) :: S, st)) hd rfl (by simp [zstep, zi2, h])
theorem zq_fadd {x y : UInt32} (hd : decode (zby mi) pc = .ok (.fadd, 1)) : AW X d mi pc L (.float y :: .float x :: S) st P = zif (zn32 (FP.fadd x y) = true) (AW X d mi (pc + 1) L (.float (FP.fadd x y) :: S) st P) := zAW_if (q := (pc + 1, L, .float (FP.fadd x y) :: S, st)) hd rfl rfl rfl rfl
theorem zq_fdiv {x y : UInt32} (hd : decode (zby mi) pc = .ok (.fdiv, 1)) : AW X d mi pc L (.float y :: .float x :: S) st P = zif (zn32 (FP.fdiv x y) = true) (AW X d mi (pc + 1) L (.float (FP.fdiv x y) :: S) st P) := zAW_if (q := (pc + 1, L, .float (FP.fdiv x y) :: S, st)) hd rfl rfl rfl rfl
theorem zq_dadd {x y : UInt64} (hd : decode (zby mi) pc = .ok (.dadd, 1)) : AW X d mi pc L (.double y :: .double x :: S) st P = zif (zn64 (FP.dadd x y) = true) (AW X d mi (pc + 1) L (.double (FP.dadd x y) :: S) st P) := zAW_if (q := (pc + 1, L, .double (FP.dadd x y) :: S, st)) hd rfl rfl rfl rfl
theorem zq_ddiv {x y : UInt64} (hd : decode (zby mi) pc = .ok (.ddiv, 1)) : AW X d mi pc L (.double y :: .double x :: S) st P = zif (zn64 (FP.ddiv x y) = true) (AW X d mi (pc + 1) L (.double (FP.ddiv x y) :: S) st P) := zAW_if (q := (pc + 1, L, .double (FP.ddiv x y) :: S, st)) hd rfl rfl rfl rfl
theorem zq_f2d {x : UInt32} (hd : decode (zby mi) pc = .ok (.f2d, 1)) : AW X d mi pc L (.float x :: S) st P = zif (zn64 (FP.f2d x) = true) (AW X d mi (pc + 1) L (.double (FP.f2d x) :: S) st P) := zAW_if (q := (pc + 1, L, .double (FP.f2d x) :: S, st)) hd rfl rfl rfl rfl
theorem zq_d2f {x : UInt64} (hd : decode (zby mi) pc = .ok (.d2f, 1)) : AW X d mi pc L (.double x :: S) st P = zif (zn32 (FP.d2f x) = true) (AW X d mi (pc + 1) L (.float (FP.d2f x) :: S) st P) := zAW_if (q := (pc + 1, L, .float (FP.d2f x) :: S, st)) hd rfl rfl rfl rfl
theorem zbr_eq {c : Bool} (ht : zto pc off = some t) : zbr c pc off L S st = some (if c = true then t else pc + 3, L, S, st) := by unfold zbr; rw [ht]; rfl
theorem zq_goto (hd : decode (zby mi) pc = .ok (.goto off, 3)) (ht : zto pc off = some t) : AW X d mi pc L S st P = AW X d mi t L S st P := by
  refine zAW_step (q := (t, L, S, st)) hd rfl ?_
  simp only [zstep]
  rw [ht]
  rfl
theorem zq_if {c : Prop} [Decidable c] {cn : Jvm.ClassFile.Cond} (hd : decode (zby mi) pc = .ok (.ifCond cn off, 3)) (ht : zto pc off = some t) (hc : zcnd cn x 0 = decide c) : AW X d mi pc L (.int x :: S) st P = if c then AW X d mi t L S st P else AW X d mi (pc + 3) L S st P := by
  refine zAW_br (t := t) hd rfl hc ?_
  simp only [zstep]
  exact zbr_eq ht
theorem zq_icmp {c : Prop} [Decidable c] {cn : Jvm.ClassFile.Cond} (hd : decode (zby mi) pc = .ok (.if_icmp cn off, 3)) (ht : zto pc off = some t) (hc : zcnd cn x y = decide c) : AW X d mi pc L (.int y :: .int x :: S) st P = if c then AW X d mi t L S st P else AW X d mi (pc + 3) L S st P := by
  refine zAW_br (t := t) hd rfl hc ?_
  simp only [zstep]
  exact zbr_eq ht
theorem zq_null1 (hd : decode (zby mi) pc = .ok (.ifnull off, 3)) (ht : zto pc off = some t) : AW X d mi pc L (.ref a :: S) st P = AW X d mi (pc + 3) L S st P := by
  refine zAW_step (q := (pc + 3, L, S, st)) hd rfl ?_
  simp only [zstep]
  rw [zbr_eq ht]
  rfl
theorem zq_null2 (hd : decode (zby mi) pc = .ok (.ifnull off, 3)) (ht : zto pc off = some t) : AW X d mi pc L (.null :: S) st P = AW X d mi t L S st P := by
  refine zAW_step (q := (t, L, S, st)) hd rfl ?_
  simp only [zstep]
  rw [zbr_eq ht]
  rfl
theorem zq_nonnull1 (hd : decode (zby mi) pc = .ok (.ifnonnull off, 3)) (ht : zto pc off = some t) : AW X d mi pc L (.ref a :: S) st P = AW X d mi t L S st P := by
  refine zAW_step (q := (t, L, S, st)) hd rfl ?_
  simp only [zstep]
  rw [zbr_eq ht]
  rfl
theorem zq_nonnull2 (hd : decode (zby mi) pc = .ok (.ifnonnull off, 3)) (ht : zto pc off = some t) : AW X d mi pc L (.null :: S) st P = AW X d mi (pc + 3) L S st P := by
  refine zAW_step (q := (pc + 3, L, S, st)) hd rfl ?_
  simp only [zstep]
  rw [zbr_eq ht]
  rfl
theorem zq_acmp_eq (hd : decode (zby mi) pc = .ok (.if_acmp .eq off, 3)) (ht : zto pc off = some t) : AW X d mi pc L (.ref b :: .ref a :: S) st P = zif (a = b ∨ (a ≠ 1 ∧ a ≠ 2 ∧ b ≠ 1 ∧ b ≠ 2)) (if a = b then AW X d mi t L S st P else AW X d mi (pc + 3) L S st P) := by
  by_cases h : a = b ∨ (a ≠ 1 ∧ a ≠ 2 ∧ b ≠ 1 ∧ b ≠ 2)
  · rw [zif_of h]
    refine zAW_br (t := t) (c := a = b) (b := decide (a = b)) hd rfl rfl ?_
    simp only [zstep]
    rw [if_pos h, zbr_eq ht]
  · rw [zAW_stuck hd (by simp only [zstep]; rw [if_neg h]) rfl rfl]
    exact propext ⟨fun z => z.elim, fun z => h z.1⟩
theorem zq_acmp_ne (hd : decode (zby mi) pc = .ok (.if_acmp .ne off, 3)) (ht : zto pc off = some t) : AW X d mi pc L (.ref b :: .ref a :: S) st P = zif (a = b ∨ (a ≠ 1 ∧ a ≠ 2 ∧ b ≠ 1 ∧ b ≠ 2)) (if a = b then AW X d mi (pc + 3) L S st P else AW X d mi t L S st P) := by
  by_cases h : a = b ∨ (a ≠ 1 ∧ a ≠ 2 ∧ b ≠ 1 ∧ b ≠ 2)
  · rw [zif_of h]
    rw [zAW_br (t := t) (c := ¬ a = b) (b := decide (¬ a = b)) hd rfl rfl (by simp only [zstep]; rw [if_pos h, zbr_eq ht])]
    by_cases e : a = b
    · rw [if_pos e, if_neg (fun z => z e)]
    · rw [if_neg e, if_pos e]
  · rw [zAW_stuck hd (by simp only [zstep]; rw [if_neg h]) rfl rfl]
    exact propext ⟨fun z => z.elim, fun z => h z.1⟩
theorem zq_tabIn {dflt lo hi : Int} {offs : Array Int} (hd : decode (zby mi) pc = .ok (.tableswitch dflt lo hi offs, len)) (h1 : ¬ (x.toInt < lo ∨ hi < x.toInt)) (ho : offs[(x.toInt - lo).toNat]? = some off) (ht : zto pc off = some t) : AW X d mi pc L (.int x :: S) st P = AW X d mi t L S st P := by
  refine zAW_step (q := (t, L, S, st)) hd rfl ?_
  simp only [zstep]
  rw [if_neg h1, ho, Option.bind_some, ht]
  rfl
theorem zq_tabOut {dflt lo hi : Int} {offs : Array Int} (hd : decode (zby mi) pc = .ok (.tableswitch dflt lo hi offs, len)) (ht : zto pc dflt = some t) (h1 : x.toInt < lo ∨ hi < x.toInt) : AW X d mi pc L (.int x :: S) st P = AW X d mi t L S st P := by
  refine zAW_step (q := (t, L, S, st)) hd rfl ?_
  simp only [zstep]
  rw [if_pos h1, ht]
  rfl
theorem zq_getfield (hd : decode (zby mi) pc = .ok (.getfield idx, 3)) (ho : zoc mi = o) (hf : zFL.lookup (o, idx) = some (ci, k)) : AW X d mi pc L (.ref a :: S) st P = zwith (zget st a ci k) fun v => AW X d mi (pc + 3) L (v :: S) st P := by
  refine zAW_opt (f := fun v => (pc + 3, L, v :: S, st)) hd rfl ?_ rfl (by simp only [zcal])
  simp only [zstep]
  rw [ho, hf]
  rfl
theorem zq_putfield (hd : decode (zby mi) pc = .ok (.putfield idx, 3)) (ho : zoc mi = o) (hf : zFL.lookup (o, idx) = some (ci, k)) (hz : zfits (zty ci k).1 v = true) (hq : (zty ci k).2 = false ∨ ((znm mi).name = "<init>" ∧ zvi o = ci)) : AW X d mi pc L (v :: .ref a :: S) st P = zwith (zget st a ci k) fun _ => AW X d mi (pc + 3) L S (zput st a k v) P := by
  refine zAW_opt (f := fun _ => (pc + 3, L, S, zput st a k v)) hd rfl ?_ rfl (by simp only [zcal])
  simp only [zstep]
  rw [ho, hf, Option.bind_some]
  dsimp only
  rw [if_pos ⟨hz, hq⟩]
theorem zq_getstatic (hd : decode (zby mi) pc = .ok (.getstatic 39, 3)) (ho : zoc mi = 10) : AW X d mi pc L S st P = AW X d mi (pc + 3) L (.ref 0 :: S) st P := by
  refine zAW_step (q := (pc + 3, L, .ref 0 :: S, st)) hd rfl ?_
  simp only [zstep]
  rw [if_pos ⟨ho, trivial⟩]
theorem zq_new (hd : decode (zby mi) pc = .ok (.new idx, 3)) (ho : zoc mi = o) (hf : zNL.lookup (o, idx) = some ci) : AW X d mi pc L S st P = AW X d mi (pc + 3) L (.ref st.2.length :: S) (znew st ci) P := by
  refine zAW_step (q := (pc + 3, L, .ref st.2.length :: S, znew st ci)) hd rfl ?_
  simp only [zstep]
  rw [ho, hf]
  rfl
theorem zq_newI {j : Nat} (hd : decode (zby mi) pc = .ok (.newarray .int, 2)) (hn : ¬ (x < 0 ∨ 1000000 < x.toNatClampNeg)) (hj : x.toNatClampNeg = j) : AW X d mi pc L (.int x :: S) st P = AW X d mi (pc + 2) L (.ref st.2.length :: S) (znwa st j (.inl fun _ => 0)) P := by
  subst hj
  refine zAW_step (q := (pc + 2, L, .ref st.2.length :: S, znwa st x.toNatClampNeg (.inl fun _ => 0))) hd rfl ?_
  simp only [zstep]
  rw [if_neg hn]
theorem zq_newL {j : Nat} (hd : decode (zby mi) pc = .ok (.newarray .long, 2)) (hn : ¬ (x < 0 ∨ 1000000 < x.toNatClampNeg)) (hj : x.toNatClampNeg = j) : AW X d mi pc L (.int x :: S) st P = AW X d mi (pc + 2) L (.ref st.2.length :: S) (znwa st j (.inr (.inl fun _ => 0))) P := by
  subst hj
  refine zAW_step (q := (pc + 2, L, .ref st.2.length :: S, znwa st x.toNatClampNeg (.inr (.inl fun _ => 0)))) hd rfl ?_
  simp only [zstep]
  rw [if_neg hn]
theorem zq_newD {j : Nat} (hd : decode (zby mi) pc = .ok (.newarray .double, 2)) (hn : ¬ (x < 0 ∨ 1000000 < x.toNatClampNeg)) (hj : x.toNatClampNeg = j) : AW X d mi pc L (.int x :: S) st P = AW X d mi (pc + 2) L (.ref st.2.length :: S) (znwa st j (.inr (.inr (.inr (.inl fun _ => 0))))) P := by
  subst hj
  refine zAW_step (q := (pc + 2, L, .ref st.2.length :: S, znwa st x.toNatClampNeg (.inr (.inr (.inr (.inl fun _ => 0)))))) hd rfl ?_
  simp only [zstep]
  rw [if_neg hn]
theorem zq_anew (hd : decode (zby mi) pc = .ok (.anewarray idx, 3)) (ho : (zoc mi = 10 ∧ idx = 7) ∨ (zoc mi = 11 ∧ idx = 2)) : AW X d mi pc L (.int x :: S) st P = zif (¬ (x < 0 ∨ 1000000 < x.toNatClampNeg)) (AW X d mi (pc + 3) L (.ref st.2.length :: S) (znwa st x.toNatClampNeg (.inr (.inr (.inr (.inr fun _ => none))))) P) := by
  by_cases h : x < 0 ∨ 1000000 < x.toNatClampNeg
  · rw [zAW_stuck hd (by simp only [zstep]; rw [if_pos ho, if_pos h]) rfl rfl]
    exact propext ⟨fun z => z.elim, fun z => z.1 h⟩
  · rw [zif_of h]
    exact zAW_step (q := (pc + 3, L, .ref st.2.length :: S, znwa st x.toNatClampNeg (.inr (.inr (.inr (.inr fun _ => none)))))) hd rfl (by simp only [zstep]; rw [if_pos ho, if_neg h])
theorem zq_alen (hd : decode (zby mi) pc = .ok (.arraylength, 1)) : AW X d mi pc L (.ref a :: S) st P = zwith (zlen X st a) fun n => AW X d mi (pc + 1) L (.int (Int32.ofNat n) :: S) st P := zAW_opt (f := fun n => (pc + 1, L, .int (Int32.ofNat n) :: S, st)) hd rfl rfl rfl rfl
theorem zq_iaload (hd : decode (zby mi) pc = .ok (.iaload, 1)) : AW X d mi pc L (.int x :: .ref a :: S) st P = zwith (zai X st a) fun q => zwith (zix x q.1) fun j => AW X d mi (pc + 1) L (.int (q.2 j) :: S) st P := by
  unfold zai
  by_cases h : a = 1
  · rw [if_pos h, zwith_some]
    refine zAW_opt (f := fun j => (pc + 1, L, .int (X.2 j) :: S, st)) hd rfl ?_ rfl rfl
    simp only [zstep]
    rw [if_pos h]
  · rw [if_neg h]
    split
    · rename_i n f hq
      rw [zwith_some]
      refine zAW_opt (f := fun j => (pc + 1, L, .int (f j) :: S, st)) hd rfl ?_ rfl rfl
      simp only [zstep]
      rw [if_neg h, hq]
    · rename_i hq
      rw [zwith_none]
      refine zAW_stuck hd ?_ rfl rfl
      simp only [zstep]
      rw [if_neg h]
      all_goals
        split
        · rename_i n f hq2; exact absurd hq2 (hq n f)
        · rfl
theorem zq_laload (hd : decode (zby mi) pc = .ok (.laload, 1)) : AW X d mi pc L (.int x :: .ref a :: S) st P = zwith (zaL st a) fun q => zwith (zix x q.1) fun j => AW X d mi (pc + 1) L (.long (q.2 j) :: S) st P := by
  unfold zaL
  split
  · rename_i n f hq
    rw [zwith_some]
    refine zAW_opt (f := fun j => (pc + 1, L, .long (f j) :: S, st)) hd rfl ?_ rfl rfl
    simp only [zstep]
    rw [hq]
  · rename_i hq
    rw [zwith_none]
    refine zAW_stuck hd ?_ rfl rfl
    simp only [zstep]
    all_goals
      split
      · rename_i n f hq2; exact absurd hq2 (hq n f)
      · rfl
theorem zq_daload (hd : decode (zby mi) pc = .ok (.daload, 1)) : AW X d mi pc L (.int x :: .ref a :: S) st P = zwith (zaD st a) fun q => zwith (zix x q.1) fun j => AW X d mi (pc + 1) L (.double (q.2 j) :: S) st P := by
  unfold zaD
  split
  · rename_i n f hq
    rw [zwith_some]
    refine zAW_opt (f := fun j => (pc + 1, L, .double (f j) :: S, st)) hd rfl ?_ rfl rfl
    simp only [zstep]
    rw [hq]
  · rename_i hq
    rw [zwith_none]
    refine zAW_stuck hd ?_ rfl rfl
    simp only [zstep]
    all_goals
      split
      · rename_i n f hq2; exact absurd hq2 (hq n f)
      · rfl
theorem zq_aaload (hd : decode (zby mi) pc = .ok (.aaload, 1)) : AW X d mi pc L (.int x :: .ref a :: S) st P = zwith (zaR st a) fun q => zwith (zix x q.1) fun j => AW X d mi (pc + 1) L (va_rf (q.2 j) :: S) st P := by
  unfold zaR
  split
  · rename_i n f hq
    rw [zwith_some]
    refine zAW_opt (f := fun j => (pc + 1, L, va_rf (f j) :: S, st)) hd rfl ?_ rfl rfl
    simp only [zstep]
    rw [hq]
  · rename_i hq
    rw [zwith_none]
    refine zAW_stuck hd ?_ rfl rfl
    simp only [zstep]
    all_goals
      split
      · rename_i n f hq2; exact absurd hq2 (hq n f)
      · rfl
theorem zq_iastore (hd : decode (zby mi) pc = .ok (.iastore, 1)) : AW X d mi pc L (.int y :: .int x :: .ref a :: S) st P = zwith (zaI st a) fun q => zwith (zix x q.1) fun j => AW X d mi (pc + 1) L S (zsta st a (q.1, .inl (upd q.2 j y))) P := by
  unfold zaI
  split
  · rename_i n f hq
    rw [zwith_some]
    refine zAW_opt (f := fun j => (pc + 1, L, S, zsta st a (n, .inl (upd f j y)))) hd rfl ?_ rfl rfl
    simp only [zstep]
    rw [hq]
  · rename_i hq
    rw [zwith_none]
    refine zAW_stuck hd ?_ rfl rfl
    simp only [zstep]
    all_goals
      split
      · rename_i n f hq2; exact absurd hq2 (hq n f)
      · rfl
theorem zq_lastore {y : Int64} (hd : decode (zby mi) pc = .ok (.lastore, 1)) : AW X d mi pc L (.long y :: .int x :: .ref a :: S) st P = zwith (zaL st a) fun q => zwith (zix x q.1) fun j => AW X d mi (pc + 1) L S (zsta st a (q.1, .inr (.inl (vp_updL q.2 j y)))) P := by
  unfold zaL
  split
  · rename_i n f hq
    rw [zwith_some]
    refine zAW_opt (f := fun j => (pc + 1, L, S, zsta st a (n, .inr (.inl (vp_updL f j y))))) hd rfl ?_ rfl rfl
    simp only [zstep]
    rw [hq]
  · rename_i hq
    rw [zwith_none]
    refine zAW_stuck hd ?_ rfl rfl
    simp only [zstep]
    all_goals
      split
      · rename_i n f hq2; exact absurd hq2 (hq n f)
      · rfl
theorem zq_dastore {y : UInt64} (hd : decode (zby mi) pc = .ok (.dastore, 1)) : AW X d mi pc L (.double y :: .int x :: .ref a :: S) st P = zwith (zaD st a) fun q => zwith (zix x q.1) fun j => AW X d mi (pc + 1) L S (zsta st a (q.1, .inr (.inr (.inr (.inl (vf_upd q.2 j y)))))) P := by
  unfold zaD
  split
  · rename_i n f hq
    rw [zwith_some]
    refine zAW_opt (f := fun j => (pc + 1, L, S, zsta st a (n, .inr (.inr (.inr (.inl (vf_upd f j y))))))) hd rfl ?_ rfl rfl
    simp only [zstep]
    rw [hq]
  · rename_i hq
    rw [zwith_none]
    refine zAW_stuck hd ?_ rfl rfl
    simp only [zstep]
    all_goals
      split
      · rename_i n f hq2; exact absurd hq2 (hq n f)
      · rfl
theorem zq_aastore (hd : decode (zby mi) pc = .ok (.aastore, 1)) (hb : zob st b = true) : AW X d mi pc L (.ref b :: .int x :: .ref a :: S) st P = zwith (zaR st a) fun q => zwith (zix x q.1) fun j => AW X d mi (pc + 1) L S (zsta st a (q.1, .inr (.inr (.inr (.inr (va_up q.2 j (some b))))))) P := by
  unfold zaR
  split
  · rename_i n f hq
    rw [zwith_some]
    refine zAW_opt (f := fun j => (pc + 1, L, S, zsta st a (n, .inr (.inr (.inr (.inr (va_up f j (some b)))))))) hd rfl ?_ rfl rfl
    simp only [zstep]
    rw [hq]
    dsimp only
    rw [if_pos hb]
  · rename_i hq
    rw [zwith_none]
    refine zAW_stuck hd ?_ rfl rfl
    simp only [zstep]
    all_goals
      split
      · rename_i n f hq2; exact absurd hq2 (hq n f)
      · rfl
theorem zq_aastoreN (hd : decode (zby mi) pc = .ok (.aastore, 1)) : AW X d mi pc L (.null :: .int x :: .ref a :: S) st P = zwith (zaR st a) fun q => zwith (zix x q.1) fun j => AW X d mi (pc + 1) L S (zsta st a (q.1, .inr (.inr (.inr (.inr (va_up q.2 j none)))))) P := by
  unfold zaR
  split
  · rename_i n f hq
    rw [zwith_some]
    refine zAW_opt (f := fun j => (pc + 1, L, S, zsta st a (n, .inr (.inr (.inr (.inr (va_up f j none))))))) hd rfl ?_ rfl rfl
    simp only [zstep]
    rw [hq]
  · rename_i hq
    rw [zwith_none]
    refine zAW_stuck hd ?_ rfl rfl
    simp only [zstep]
    all_goals
      split
      · rename_i n f hq2; exact absurd hq2 (hq n f)
      · rfl
theorem zq_cast (hd : decode (zby mi) pc = .ok (.checkcast idx, 3)) (ho : zoc mi = o) (hf : zKL.lookup (o, idx) = some ci) : AW X d mi pc L (.ref a :: S) st P = zif (zis st a ci = true) (AW X d mi (pc + 3) L (.ref a :: S) st P) := by
  refine zAW_if (q := (pc + 3, L, .ref a :: S, st)) hd rfl ?_ rfl rfl
  simp only [zstep]
  rw [ho, hf]
  rfl
theorem zq_dup (hd : decode (zby mi) pc = .ok (.dup, 1)) (h : zc1 v = true) : AW X d mi pc L (v :: S) st P = AW X d mi (pc + 1) L (v :: v :: S) st P := by
  refine zAW_step (q := (pc + 1, L, v :: v :: S, st)) hd rfl ?_
  simp only [zstep]
  rw [if_pos h]
theorem zq_dup_x1 (hd : decode (zby mi) pc = .ok (.dup_x1, 1)) (h : zc1 v = true) (h2 : zc1 w = true) : AW X d mi pc L (v :: w :: S) st P = AW X d mi (pc + 1) L (v :: w :: v :: S) st P := by
  refine zAW_step (q := (pc + 1, L, v :: w :: v :: S, st)) hd rfl ?_
  simp only [zstep]
  rw [if_pos ⟨h, h2⟩]
theorem zq_dup2 (hd : decode (zby mi) pc = .ok (.dup2, 1)) (h : zc1 v = true) (h2 : zc1 w = true) : AW X d mi pc L (v :: w :: S) st P = AW X d mi (pc + 1) L (v :: w :: v :: w :: S) st P := by
  refine zAW_step (q := (pc + 1, L, v :: w :: v :: w :: S, st)) hd rfl ?_
  simp only [zstep]
  rw [if_pos ⟨h, h2⟩]
theorem zq_pop (hd : decode (zby mi) pc = .ok (.pop, 1)) (h : zc1 v = true) : AW X d mi pc L (v :: S) st P = AW X d mi (pc + 1) L S st P := by
  refine zAW_step (q := (pc + 1, L, S, st)) hd rfl ?_
  simp only [zstep]
  rw [if_pos h]
theorem zq_obj (hd : decode (zby mi) pc = .ok (.invokespecial idx, 3)) (ho : zoc mi = o) (hf : zOI.contains (o, idx) = true) (hc : zCL.lookup (o, idx) = none) : AW X d mi pc L (.ref a :: S) st P = zif (S.length ≤ 4) (AW X d mi (pc + 3) L S st P) := by
  by_cases h : S.length ≤ 4
  · rw [zif_of h]
    exact zAW_step (q := (pc + 3, L, S, st)) hd rfl (by simp only [zstep]; rw [ho, if_pos ⟨hf, h⟩])
  · rw [zAW_stuck hd (by simp only [zstep]; rw [ho, if_neg (fun z => h z.2)]) rfl (by simp only [zcal]; rw [ho, hc])]
    exact propext ⟨fun z => z.elim, fun z => absurd z.1 h⟩
theorem zq_max (hd : decode (zby mi) pc = .ok (.invokestatic idx, 3)) (ho : zoc mi = o) (hn : ¬ (o = 2 ∧ idx = 19)) (hn2 : ¬ (o = 11 ∧ idx = 150)) (hf : zXX.lookup (o, idx) = some true) (hc : zCL.lookup (o, idx) = none) : AW X d mi pc L (.int y :: .int x :: S) st P = zif (S.length ≤ 4) (AW X d mi (pc + 3) L (.int (if x < y then y else x) :: S) st P) := by
  by_cases h : S.length ≤ 4
  · rw [zif_of h]
    exact zAW_step (q := (pc + 3, L, .int (if x < y then y else x) :: S, st)) hd rfl (by simp only [zstep]; rw [ho, if_neg hn, if_neg hn2, hf, Option.bind_some, if_pos h, if_pos rfl])
  · rw [zAW_stuck hd (by simp only [zstep]; rw [ho, if_neg hn, if_neg hn2, hf, Option.bind_some, if_neg h]) rfl (by simp only [zcal]; rw [ho, hc])]
    exact propext ⟨fun z => z.elim, fun z => absurd z.1 h⟩
theorem zq_min (hd : decode (zby mi) pc = .ok (.invokestatic idx, 3)) (ho : zoc mi = o) (hn : ¬ (o = 2 ∧ idx = 19)) (hn2 : ¬ (o = 11 ∧ idx = 150)) (hf : zXX.lookup (o, idx) = some false) (hc : zCL.lookup (o, idx) = none) : AW X d mi pc L (.int y :: .int x :: S) st P = zif (S.length ≤ 4) (AW X d mi (pc + 3) L (.int (if y < x then y else x) :: S) st P) := by
  by_cases h : S.length ≤ 4
  · rw [zif_of h]
    exact zAW_step (q := (pc + 3, L, .int (if y < x then y else x) :: S, st)) hd rfl (by simp only [zstep]; rw [ho, if_neg hn, if_neg hn2, hf, Option.bind_some, if_pos h, if_neg (by decide)])
  · rw [zAW_stuck hd (by simp only [zstep]; rw [ho, if_neg hn, if_neg hn2, hf, Option.bind_some, if_neg h]) rfl (by simp only [zcal]; rw [ho, hc])]
    exact propext ⟨fun z => z.elim, fun z => absurd z.1 h⟩
/-- calls -/
theorem zq_callV {yy n : Nat} {B S2 : List Value} (hd : decode (zby mi) pc = .ok (.invokevirtual idx, 3)) (ho : zoc mi = o) (ho2 : ¬ (o = 11 ∧ idx = 86)) (hc : zCL.lookup (o, idx) = some (0, yy)) (hn : znp yy = n) (hv : zvi (zoc yy) = ci) (h1 : (S.take n).reverse = B) (h2 : S.drop n = .ref a :: S2) : AW X d mi pc L S st P = zif (zis st a ci = true) (zif (S2.length ≤ 4) (AC X d yy (.ref a :: B) st (zaft X d mi pc L S2 P))) := by
  have hs : zstep X mi (.invokevirtual idx) pc L S st = none := by
    simp only [zstep]
    split
    · rw [ho, if_neg (fun z => ho2 ⟨z.1, z.2.1⟩)]
    · rfl
  have hcal : zcal mi (.invokevirtual idx) S st = if zis st a ci = true ∧ S2.length ≤ 4 then some (yy, .ref a :: B, S2) else none := by
    simp only [zcal]
    rw [ho, hc]
    show (match S.drop (znp yy) with
      | Value.ref a :: S2 => if zis st a (zvi (zoc yy)) = true ∧ S2.length ≤ 4 then some (yy, Value.ref a :: (S.take (znp yy)).reverse, S2) else none
      | _ => none) = _
    rw [hn, h2, h1, ← hv]
  rw [zAW_callif hd rfl hs rfl hcal]
  exact propext ⟨fun z => ⟨z.1.1, z.1.2, z.2⟩, fun z => ⟨⟨z.1, z.2.1⟩, z.2.2⟩⟩
theorem zq_callS {yy n : Nat} {B S2 : List Value} (hd : decode (zby mi) pc = .ok (.invokestatic idx, 3)) (ho : zoc mi = o) (hn1 : ¬ (o = 2 ∧ idx = 19)) (hn2 : ¬ (o = 11 ∧ idx = 150)) (hx : zXX.lookup (o, idx) = none) (hc : zCL.lookup (o, idx) = some (1, yy)) (hn : znp yy = n) (h0 : n ≤ S.length) (h1 : (S.take n).reverse = B) (h2 : S.drop n = S2) : AW X d mi pc L S st P = zif (S2.length ≤ 4) (AC X d yy B st (zaft X d mi pc L S2 P)) := by
  have hs : zstep X mi (.invokestatic idx) pc L S st = none := by
    simp only [zstep]
    rw [ho, if_neg hn1, if_neg hn2]
    split
    · rw [hx]; rfl
    · rfl
  have hcal : zcal mi (.invokestatic idx) S st = if S2.length ≤ 4 then some (yy, B, S2) else none := by
    simp only [zcal]
    rw [ho, hc]
    show (if znp yy ≤ S.length ∧ (S.drop (znp yy)).length ≤ 4 then some (yy, (S.take (znp yy)).reverse, S.drop (znp yy)) else none) = _
    rw [hn, h2, h1]
    by_cases h : S2.length ≤ 4
    · rw [if_pos h, if_pos ⟨h0, h⟩]
    · rw [if_neg h, if_neg (fun z => h z.2)]
  exact zAW_callif hd rfl hs rfl hcal
theorem zq_callI {yy n kd : Nat} {B S2 : List Value} (hd : decode (zby mi) pc = .ok (.invokespecial idx, 3)) (ho : zoc mi = o) (hc : zCL.lookup (o, idx) = some (kd, yy)) (hkd : kd = 2 ∨ kd = 3) (hno : zOI.contains (o, idx) = false) (hn : znp yy = n) (h1 : (S.take n).reverse = B) (h2 : S.drop n = .ref a :: S2) : AW X d mi pc L S st P = zif (S2.length ≤ 4) (AC X d yy (.ref a :: B) st (zaft X d mi pc L S2 P)) := by
  have hs : zstep X mi (.invokespecial idx) pc L S st = none := by
    simp only [zstep]
    split
    · rw [ho, if_neg (fun z => by rw [hno] at z; cases z.1)]
    · rfl
  have hcal : zcal mi (.invokespecial idx) S st = if S2.length ≤ 4 then some (yy, .ref a :: B, S2) else none := by
    simp only [zcal]
    rw [ho, hc]
    rcases hkd with e | e <;> subst e <;> show (match S.drop (znp yy) with
      | Value.ref a :: S2 => if S2.length ≤ 4 then some (yy, Value.ref a :: (S.take (znp yy)).reverse, S2) else none
      | _ => none) = _ <;> rw [hn, h2, h1]
  exact zAW_callif hd rfl hs rfl hcal
theorem zq_throw {E : String} (hd : decode (zby mi) pc = .ok (.new idx, 3)) (ho : zoc mi = o) (hf : zNL.lookup (o, idx) = none) (hh : zhh mi = []) (ht : zthr mi idx pc = some E) : AW X d mi pc L S st P = zif (5 ≤ d) (zif (S.length ≤ 4) (P (.inr E) (st.1 + 7, st.2))) := by
  have hs : zstep X mi (.new idx) pc L S st = none := by
    simp only [zstep]
    rw [ho, hf]
    rfl
  by_cases h : 5 ≤ d ∧ S.length ≤ 4
  · rw [zif_of h.1, zif_of h.2]
    exact zAW_ret (w := (.inr E, (st.1 + 7, st.2))) hd rfl hs (by simp only [zfin]; rw [if_pos ⟨hh, h⟩, ht]; rfl)
  · rw [zAW_stuck hd hs (by simp only [zfin]; rw [if_neg (fun z => h z.2)]) rfl]
    exact propext ⟨fun z => z.elim, fun z => absurd ⟨z.1, z.2.1⟩ h⟩
theorem zaft_inl {v : Option Value} {st' : ZS} : zaft X d mi pc L S P (.inl v) st' = AW X d mi (pc + 3) L (v.toList ++ S) st' P := rfl
theorem zhnd_nil {E : String} (h : zhh mi = []) : zhnd mi pc E = none := by unfold zhnd; rw [h]; rfl
theorem zaft_inr {E : String} {st' : ZS} (h : zhh mi = []) : zaft X d mi pc L S P (.inr E) st' = P (.inr E) st' := by
  unfold zaft
  dsimp only
  rw [zhnd_nil h]
  dsimp only
  exact propext ⟨fun z => z.2, fun z => ⟨h, z⟩⟩
theorem zaft_hnd {E : String} {st' : ZS} {g : Nat × Nat × Nat} (h : zhnd mi pc E = some g) : zaft X d mi pc L S P (.inr E) st' = zif (g.2.1 < L.length) (AW X d mi g.2.2 (L.set g.2.1 zjk) [] st' P) := by
  unfold zaft
  dsimp only
  rw [h]
  rfl
theorem zc1_int : zc1 (.int x) = true := rfl
theorem zc1_ref : zc1 (.ref a) = true := rfl
theorem zc1_null : zc1 .null = true := rfl
theorem zc1_float {x : UInt32} : zc1 (.float x) = true := rfl
end ZE1
