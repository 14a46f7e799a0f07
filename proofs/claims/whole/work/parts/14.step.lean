/-! every instruction in one theorem -/
theorem zn64_of {x : UInt64} (h : zn64 x = true) : vf_n64 x := by unfold vf_n64; exact of_decide_eq_true h
theorem zn32_of {x : UInt32} (h : zn32 x = true) : vf_n32 x := by unfold vf_n32; exact of_decide_eq_true h
section ZM1
variable {p : Program} {l : Launch} {e : Env} {R : Room} {s : State} {m : MethodId} {args : Array Value} {below : List Frame} {meth : Method} {c : Code} {G : va_G} {tc : Nat → ClassId} {A : Nat → Prop} {ad0 : Nat → Nat} {n0 u0 mi : Nat} {Q : State → Prop} {X : ZX} {pc : Nat} {L S : List Value} {st : ZS} {q : ZQ}
set_option maxHeartbeats 4000000 in
theorem zstep_ok {i : Instr} {len : Nat} (F : ZEv p l s m args meth c G tc A ad0 X mi) (hF : 1 ≤ R.frames ∧ 40 ≤ R.locals) (hn1 : 1 < n0) (hR : q.2.2.2.1 - u0 ≤ R.cells ∧ q.2.2.2.1 - u0 ≤ R.slots) (hd : decode (zby mi) pc = .ok (i, len)) (hl : zlok i len = true) (hs : zstep X mi i pc L S st = some q) (k : ZW p l e R s m args below meth c G tc A ad0 n0 u0 mi Q q.1 q.2.1 q.2.2.1 q.2.2.2) : ZW p l e R s m args below meth c G tc A ad0 n0 u0 mi Q pc L S st := by
  have F' := F
  obtain ⟨⟨hx, hb, hml, hown, hts⟩, -⟩ := F'
  cases i with
  | getfield idx => have e := eq_of_beq hl; subst e; exact zk_getfield F hd hs k
  | putfield idx => have e := eq_of_beq hl; subst e; exact zk_putfield F hd hs k
  | laload => have e := eq_of_beq hl; subst e; exact zk_laload F hd hs k
  | daload => have e := eq_of_beq hl; subst e; exact zk_daload F hd hs k
  | aaload => have e := eq_of_beq hl; subst e; exact zk_aaload F hd hs k
  | iastore => have e := eq_of_beq hl; subst e; exact zk_iastore F hd hs k
  | lastore => have e := eq_of_beq hl; subst e; exact zk_lastore F hd hs k
  | dastore => have e := eq_of_beq hl; subst e; exact zk_dastore F hd hs k
  | aastore => have e := eq_of_beq hl; subst e; exact zk_aastore F hd hs k
  | checkcast idx => have e := eq_of_beq hl; subst e; exact zk_checkcast F hd hs k
  | getstatic idx => have e := eq_of_beq hl; subst e; exact zk_getstatic F hd hs k
  | arraylength => have e := eq_of_beq hl; subst e; exact zk_arraylength F hd hs k
  | ldc idx => have e := eq_of_beq hl; subst e; exact zk_ldc F hd hs k
  | ldc2_w idx => have e := eq_of_beq hl; subst e; exact zk_ldc2w F hd hs k
  | dup => have e := eq_of_beq hl; subst e; exact zk_dup F hd hs k
  | dup_x1 => have e := eq_of_beq hl; subst e; exact zk_dup_x1 F hd hs k
  | dup2 => have e := eq_of_beq hl; subst e; exact zk_dup2 F hd hs k
  | pop => have e := eq_of_beq hl; subst e; exact zk_pop F hd hs k
  | goto off => have e := eq_of_beq hl; subst e; exact zk_goto F hd hs k
  | ifCond cn off => have e := eq_of_beq hl; subst e; exact zk_ifCond F hd hs k
  | if_icmp cn off => have e := eq_of_beq hl; subst e; exact zk_if_icmp F hd hs k
  | ifnull off => have e := eq_of_beq hl; subst e; exact zk_ifnull F hd hs k
  | ifnonnull off => have e := eq_of_beq hl; subst e; exact zk_ifnonnull F hd hs k
  | if_acmp cn off => have e := eq_of_beq hl; subst e; exact zk_if_acmp F hd hs k
  | iinc n cst => have e := eq_of_beq hl; subst e; exact zk_iinc F hd hs k
  | iaload => have e := eq_of_beq hl; subst e; exact zk_iaload F hn1 hd hs k
  | new idx => have e := eq_of_beq hl; subst e; exact zk_new F hR hd hs k
  | newarray t => have e := eq_of_beq hl; subst e; exact zk_newarray F hR hd hs k
  | anewarray idx => have e := eq_of_beq hl; subst e; exact zk_anewarray F hR hd hs k
  | invokevirtual idx => have e := eq_of_beq hl; subst e; exact zk_invokevirtual F hF hd hs k
  | invokespecial idx => have e := eq_of_beq hl; subst e; exact zk_invokespecial F hF hd hs k
  | invokestatic idx => have e := eq_of_beq hl; subst e; exact zk_invokestatic F hF hR hd hs k
  | tableswitch dflt lo hi offs => exact zk_tableswitch F hd hs k
  | aconst_null => have e := eq_of_beq hl; subst e; cases hs; exact zw_push (v := .null) (fun n => zvok_null) (fun ad H locs cells slots ls rest k => lv_null hx hb hd k) k
  | iconst n => have e := eq_of_beq hl; subst e; cases hs; exact zw_push (v := .int (Int32.ofInt n)) (fun n => zvok_int) (fun ad H locs cells slots ls rest k => lv_iconst hx hb hd rfl k) k
  | bipush n => have e := eq_of_beq hl; subst e; cases hs; exact zw_push (v := .int (Int8.ofInt n).toInt32) (fun n => zvok_int) (fun ad H locs cells slots ls rest k => lv_bipush hx hb hd rfl k) k
  | sipush n => have e := eq_of_beq hl; subst e; cases hs; exact zw_push (v := .int (Int16.ofInt n).toInt32) (fun n => zvok_int) (fun ad H locs cells slots ls rest k => lv_sipush hx hb hd rfl k) k
  | fconst f => 
    have e := eq_of_beq hl
    subst e
    simp only [zstep] at hs
    split at hs
    · rename_i e
      subst e
      cases hs; exact zw_push (v := .float FP.fconst0) (fun n => zvok_float) (fun ad H locs cells slots ls rest k => lv_fconst0 hx hb hd k) k
    · cases hs
  | dconst f => 
    have e := eq_of_beq hl
    subst e
    simp only [zstep] at hs
    split at hs
    · rename_i e
      subst e
      cases hs; exact zw_push (v := .double FP.dconst0) (fun n => zvok_double) (fun ad H locs cells slots ls rest k => lv_dconst0 hx hb hd k) k
    · cases hs
  | iload n => have e := eq_of_beq hl; subst e; exact zw_ldi (n := n) hs k fun H locs cells slots ls rest x hl k => lv_iload hx hb hd hl k
  | iload_n n => have e := eq_of_beq hl; subst e; exact zw_ldi (n := n) hs k fun H locs cells slots ls rest x hl k => lv_iload_n hx hb hd rfl hl k
  | fload n => have e := eq_of_beq hl; subst e; exact zw_ldf (n := n) hs k fun H locs cells slots ls rest x hl k => lv_fload hx hb hd hl k
  | fload_n n => have e := eq_of_beq hl; subst e; exact zw_ldf (n := n) hs k fun H locs cells slots ls rest x hl k => lv_fload_n hx hb hd rfl hl k
  | dload n => have e := eq_of_beq hl; subst e; exact zw_ldd (n := n) hs k fun H locs cells slots ls rest x hl k => lv_dload hx hb hd hl k
  | dload_n n => have e := eq_of_beq hl; subst e; exact zw_ldd (n := n) hs k fun H locs cells slots ls rest x hl k => lv_dload_n hx hb hd rfl hl k
  | aload n => have e := eq_of_beq hl; subst e; exact zw_lda (n := n) hs k (fun H locs cells slots ls rest x hl k => lv_aload hx hb hd hl k) fun H locs cells slots ls rest hl k => lv_aloadN hx hb hd hl k
  | aload_n n => have e := eq_of_beq hl; subst e; exact zw_lda (n := n) hs k (fun H locs cells slots ls rest x hl k => lv_aload_n hx hb hd rfl hl k) fun H locs cells slots ls rest hl k => lv_aload_nN hx hb hd rfl hl k
  | istore n => have e := eq_of_beq hl; subst e; exact zw_sti (n := n) hs k fun H locs cells slots ls rest x lv h hn kk => lv_istore hx hb hd h hn rfl kk
  | istore_n n => have e := eq_of_beq hl; subst e; exact zw_sti (n := n) hs k fun H locs cells slots ls rest x lv h hn kk => lv_istore_n hx hb hd rfl h hn rfl kk
  | fstore n => have e := eq_of_beq hl; subst e; exact zw_stf (n := n) hs k fun H locs cells slots ls rest x lv h hn kk => lv_fstore hx hb hd h hn rfl kk
  | fstore_n n => have e := eq_of_beq hl; subst e; exact zw_stf (n := n) hs k fun H locs cells slots ls rest x lv h hn kk => lv_fstore_n hx hb hd rfl h hn rfl kk
  | dstore n => have e := eq_of_beq hl; subst e; exact zw_std (n := n) hs k fun H locs cells slots ls rest x lv h hn kk => lv_dstore hx hb hd h hn rfl kk
  | dstore_n n => have e := eq_of_beq hl; subst e; exact zw_std (n := n) hs k fun H locs cells slots ls rest x lv h hn kk => lv_dstore_n hx hb hd rfl h hn rfl kk
  | astore n => have e := eq_of_beq hl; subst e; exact zw_sta (n := n) hs k (fun H locs cells slots ls rest x lv h hn kk => lv_astore hx hb hd h hn rfl kk) fun H locs cells slots ls rest lv h hn kk => lv_astoreN hx hb hd h hn rfl kk
  | astore_n n => have e := eq_of_beq hl; subst e; exact zw_sta (n := n) hs k (fun H locs cells slots ls rest x lv h hn kk => lv_astore_n hx hb hd rfl h hn rfl kk) fun H locs cells slots ls rest lv h hn kk => lv_astore_nN hx hb hd rfl h hn rfl kk
  | iadd => have e := eq_of_beq hl; subst e; simp only [zstep] at hs; exact zw_i2 hs k fun H locs cells slots ls rest x y z hz k => by cases hz; exact lv_iadd hx hb hd k
  | isub => have e := eq_of_beq hl; subst e; simp only [zstep] at hs; exact zw_i2 hs k fun H locs cells slots ls rest x y z hz k => by cases hz; exact lv_isub hx hb hd k
  | imul => have e := eq_of_beq hl; subst e; simp only [zstep] at hs; exact zw_i2 hs k fun H locs cells slots ls rest x y z hz k => by cases hz; exact lv_imul hx hb hd k
  | iand => have e := eq_of_beq hl; subst e; simp only [zstep] at hs; exact zw_i2 hs k fun H locs cells slots ls rest x y z hz k => by cases hz; exact lv_iand hx hb hd k
  | ior => have e := eq_of_beq hl; subst e; simp only [zstep] at hs; exact zw_i2 hs k fun H locs cells slots ls rest x y z hz k => by cases hz; exact lv_ior hx hb hd k
  | ishl => have e := eq_of_beq hl; subst e; simp only [zstep] at hs; exact zw_i2 hs k fun H locs cells slots ls rest x y z hz k => by cases hz; exact lv_ishl hx hb hd k
  | ishr => have e := eq_of_beq hl; subst e; simp only [zstep] at hs; exact zw_i2 hs k fun H locs cells slots ls rest x y z hz k => by cases hz; exact lv_ishr hx hb hd k
  | idiv =>
    have e := eq_of_beq hl
    subst e
    simp only [zstep] at hs
    refine zw_i2 hs k fun H locs cells slots ls rest x y z hz k => ?_
    split at hz
    · cases hz
    · rename_i h0
      cases hz; exact lv_idiv hx hb hd h0 k
  | irem =>
    have e := eq_of_beq hl
    subst e
    simp only [zstep] at hs
    refine zw_i2 hs k fun H locs cells slots ls rest x y z hz k => ?_
    split at hz
    · cases hz
    · rename_i h0
      cases hz; exact lv_irem hx hb hd h0 k
  | fadd => have e := eq_of_beq hl; subst e; exact zw_f2 hs k fun H locs cells slots ls rest x y hz k => lv_fadd hx hb hd hz k
  | fdiv => have e := eq_of_beq hl; subst e; exact zw_f2 hs k fun H locs cells slots ls rest x y hz k => lv_fdiv hx hb hd hz k
  | dadd => have e := eq_of_beq hl; subst e; exact zw_d2 hs k fun H locs cells slots ls rest x y hz k => lv_dadd hx hb hd hz k
  | ddiv => have e := eq_of_beq hl; subst e; exact zw_d2 hs k fun H locs cells slots ls rest x y hz k => lv_ddiv hx hb hd hz k
  | i2l =>
    have e := eq_of_beq hl
    subst e
    simp only [zstep] at hs
    split at hs
    · rename_i x S'
      cases hs; exact zk_un (i := .i2l) rfl rfl (fun n => zvok_long) k fun H locs cells slots ls rest ad k => lv_i2l hx hb hd rfl k
    · cases hs
  | i2d =>
    have e := eq_of_beq hl
    subst e
    simp only [zstep] at hs
    split at hs
    · rename_i x S'
      cases hs; exact zk_un (i := .i2d) rfl rfl (fun n => zvok_double) k fun H locs cells slots ls rest ad k => lv_i2d hx hb hd k
    · cases hs
  | f2i =>
    have e := eq_of_beq hl
    subst e
    simp only [zstep] at hs
    split at hs
    · rename_i x S'
      cases hs; exact zk_un (i := .f2i) rfl rfl (fun n => zvok_int) k fun H locs cells slots ls rest ad k => lv_f2i hx hb hd k
    · cases hs
  | f2d =>
    have e := eq_of_beq hl
    subst e
    simp only [zstep] at hs
    split at hs
    · rename_i x S'
      split at hs
      · rename_i hz
        cases hs; exact zk_un (i := .f2d) rfl rfl (fun n => zvok_double) k fun H locs cells slots ls rest ad k => lv_f2d hx hb hd (zn64_of hz) k
      · cases hs
    · cases hs
  | d2f =>
    have e := eq_of_beq hl
    subst e
    simp only [zstep] at hs
    split at hs
    · rename_i x S'
      split at hs
      · rename_i hz
        cases hs; exact zk_un (i := .d2f) rfl rfl (fun n => zvok_float) k fun H locs cells slots ls rest ad k => lv_d2f hx hb hd (zn32_of hz) k
      · cases hs
    · cases hs
  | lcmp =>
    have e := eq_of_beq hl
    subst e
    simp only [zstep] at hs
    split at hs
    · rename_i y x S'
      cases hs; exact zk_bi (i := .lcmp) rfl rfl (fun n => zvok_int) k fun H locs cells slots ls rest ad k => W.lcmp hx hb hd k
    · cases hs
  | fcmp op =>
    have e := eq_of_beq hl
    subst e
    simp only [zstep] at hs
    split at hs
    · rename_i y x S'
      cases hs; exact zk_bi (i := .lcmp) rfl rfl (fun n => zvok_int) k fun H locs cells slots ls rest ad k => lv_fcmp hx hb hd k
    · cases hs
  | dcmp op =>
    have e := eq_of_beq hl
    subst e
    simp only [zstep] at hs
    split at hs
    · rename_i y x S'
      cases hs; exact zk_bi (i := .lcmp) rfl rfl (fun n => zvok_int) k fun H locs cells slots ls rest ad k => lv_dcmp hx hb hd k
    · cases hs
  | _ => exact absurd hs (by intro z; simp [zstep] at z)
end ZM1
theorem zput_u {st : ZS} {a k : Nat} {v : Value} : (zput st a k v).1 = st.1 := by
  unfold zput
  split <;> rfl
def zuq (st : ZS) (o : Option ZQ) : Prop := ∀ q, o = some q → st.1 ≤ q.2.2.2.1
theorem zuq_n {st : ZS} : zuq st none := fun q h => by cases h
theorem zuq_s {st : ZS} {a : Nat} {b c : List Value} : zuq st (some (a, b, c, st)) := fun q h => by cases h; exact Nat.le_refl _
theorem zuq_w {st : ZS} {a : Nat} {b c : List Value} {x : Nat} {y : Nat × ZA} : zuq st (some (a, b, c, zsta st x y)) := fun q h => by cases h; exact Nat.le_refl _
theorem zuq_p {st : ZS} {a : Nat} {b c : List Value} {x k : Nat} {v : Value} : zuq st (some (a, b, c, zput st x k v)) := fun q h => by cases h; exact Nat.le_of_eq zput_u.symm
theorem zuq_o {st : ZS} {a : Nat} {b c : List Value} {x : Nat} : zuq st (some (a, b, c, znew st x)) := fun q h => by cases h; show st.1 ≤ st.1 + _ + 1; omega
theorem zuq_a {st : ZS} {a : Nat} {b c : List Value} {x : Nat} {y : ZA} : zuq st (some (a, b, c, znwa st x y)) := fun q h => by cases h; show st.1 ≤ st.1 + _ + 1; omega
theorem zuq_b {st : ZS} {α : Type} {o : Option α} {f : α → Option ZQ} (h : ∀ v, zuq st (f v)) : zuq st (o.bind f) := by
  cases o with
  | none => exact zuq_n
  | some v => exact h v
theorem zuq_i {st : ZS} {c : Prop} [Decidable c] {x y : Option ZQ} (h1 : zuq st x) (h2 : zuq st y) : zuq st (if c then x else y) := by
  by_cases h : c
  · rw [if_pos h]; exact h1
  · rw [if_neg h]; exact h2
set_option maxHeartbeats 4000000 in
theorem zstep_uq {X : ZX} {mi pc : Nat} {i : Instr} {L S : List Value} {st : ZS} : zuq st (zstep X mi i pc L S st) := by
  cases i <;> simp only [zstep, zldi, zlda, zldf, zldd, zsti, zsta', zstf, zstd, zi2, zf2, zd2, zbr, zcpyi, zcpyr] <;>
    repeat' first
      | exact zuq_n
      | exact zuq_s
      | exact zuq_w
      | exact zuq_p
      | exact zuq_o
      | exact zuq_a
      | refine zuq_b fun v => ?_
      | refine zuq_i ?_ ?_
      | split
