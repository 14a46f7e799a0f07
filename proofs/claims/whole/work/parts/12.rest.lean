/-! the rest of the instructions -/
theorem zw_ao1 : Cond.classLink (zow 10) 7 "java/lang/Object" ∈ zgw := zgw_at 365 (by decide +kernel)
theorem zw_ao2 : Cond.classLink (zow 11) 2 "java/lang/Object" ∈ zgw := zgw_at 357 (by decide +kernel)
theorem zw_oc : Cond.classLink (zow 11) 110 "[Ljava/lang/Object;" ∈ zgw := zgw_at 355 (by decide +kernel)
theorem zw_gs : Cond.fieldLink (zow 10) 39 "java/util/ArrayList" "DEFAULTCAPACITY_EMPTY_ELEMENTDATA" "[Ljava/lang/Object;" ∈ zgw := zgw_at 81 (by decide +kernel)
theorem zw_gc1 : Cond.methodLink (zow 11) 86 ⟨"java/lang/Object", "getClass", "()Ljava/lang/Class;"⟩ ∈ zgw := zgw_at 337 (by decide +kernel)
theorem zw_gc2 : Cond.instanceMethod ⟨"java/lang/Object", "getClass", "()Ljava/lang/Class;"⟩ ∈ zgw := zgw_at 338 (by decide +kernel)
theorem zw_gc3 : Cond.native ⟨"java/lang/Object", "getClass", "()Ljava/lang/Class;"⟩ ∈ zgw := zgw_at 351 (by decide +kernel)
theorem zw_gc4 : Cond.selects "[Ljava/lang/Object;" ⟨"java/lang/Object", "getClass", "()Ljava/lang/Class;"⟩ ⟨"java/lang/Object", "getClass", "()Ljava/lang/Class;"⟩ ∈ zgw := zgw_at 1025 (by decide +kernel)
theorem zw_ac1 : Cond.methodLink (zow 11) 150 arraycopyName ∈ zgw := zgw_at 361 (by decide +kernel)
theorem zw_ac2 : Cond.methodLink (zow 2) 19 arraycopyName ∈ zgw := zgw_at 743 (by decide +kernel)
theorem zw_ac3 : Cond.native arraycopyName ∈ zgw := zgw_at 363 (by decide +kernel)
theorem zw_ac4 : Cond.static arraycopyName ∈ zgw := zgw_at 362 (by decide +kernel)
theorem zw_ac5 : Cond.initialized "java/lang/System" ∈ zgw := zgw_at 54 (by decide +kernel)
theorem zw_m1 : Cond.static Lib.Math.max.name ∈ zgw ∧ Cond.code Lib.Math.max.name Lib.Math.max.code 2 (some .int) ∈ zgw := ⟨zgw_at 328 (by decide +kernel), zgw_at 329 (by decide +kernel)⟩
theorem zw_m2 : Cond.static Lib.Math.min.name ∈ zgw ∧ Cond.code Lib.Math.min.name Lib.Math.min.code 2 (some .int) ∈ zgw := ⟨zgw_at 359 (by decide +kernel), zgw_at 360 (by decide +kernel)⟩
theorem zw_m3 : Cond.initialized "java/lang/Math" ∈ zgw := zgw_at 52 (by decide +kernel)
def zXc (x : ((Nat × Nat) × Bool) × Nat) : Bool := match x.1.2 with
  | true => zhas (.methodLink (zow x.1.1.1) x.1.1.2 Lib.Math.max.name) x.2
  | false => zhas (.methodLink (zow x.1.1.1) x.1.1.2 Lib.Math.min.name) x.2
theorem zX_all : (zXX.zip zXP2).all zXc = true := by decide +kernel
theorem zw_oi : Cond.instanceMethod Lib.objectInit ∈ zgw ∧ Cond.code Lib.objectInit ⟨#[0xb1]⟩ 1 none ∈ zgw := ⟨zgw_at 67 (by decide +kernel), zgw_at 68 (by decide +kernel)⟩
def zOIP : List Nat := [273, 671, 279, 501, 100, 66, 777, 80]
theorem zO_all : (zOI.zip zOIP).all (fun x => zhas (.methodLink (zow x.1.1) x.1.2 Lib.objectInit) x.2) = true := by decide +kernel
theorem zO_ok {o i : Nat} (h : zOI.contains (o, i) = true) : Cond.methodLink (zow o) i Lib.objectInit ∈ zgw := by
  obtain ⟨c, hc⟩ := zzip (r := zOIP) (by decide +kernel) (List.contains_iff_mem.mp h)
  exact zhas_mem (List.all_eq_true.mp zO_all _ hc)
theorem zcat2 {v : Value} : v.category ≤ 2 := by cases v <;> simp [Value.category]
theorem zsum {S : List Value} (h : S.length ≤ 4) : (S.map fun v => v.category).sum ≤ 8 := by
  have hs : ∀ S : List Value, (S.map fun v => v.category).sum ≤ 2 * S.length := by
    intro S
    induction S with
    | nil => simp
    | cons v S ih =>
      have := zcat2 (v := v)
      simp only [List.map_cons, List.sum_cons, List.length_cons]
      omega
  have := hs S
  omega
theorem zobj_nm : "[" ++ (FieldType.object "java/lang/Object").toString = "[Ljava/lang/Object;" := by decide +kernel
section ZK
variable {p : Program} {l : Launch} {e : Env} {R : Room} {s : State} {m : MethodId} {args : Array Value} {below : List Frame} {meth : Method} {c : Code} {G : va_G} {tc : Nat → ClassId} {A : Nat → Prop} {ad0 : Nat → Nat} {n0 u0 mi : Nat} {Q : State → Prop} {X : ZX} {pc : Nat} {L S : List Value} {st : ZS} {q : ZQ}
theorem zk_getstatic {idx : Nat} (F : ZEv p l s m args meth c G tc A ad0 X mi) (hd : decode (zby mi) pc = .ok (.getstatic idx, 3)) (hs : zstep X mi (.getstatic idx) pc L S st = some q) (k : ZW p l e R s m args below meth c G tc A ad0 n0 u0 mi Q q.1 q.2.1 q.2.2.1 q.2.2.2) : ZW p l e R s m args below meth c G tc A ad0 n0 u0 mi Q pc L S st := by
  obtain ⟨⟨hx, hb, hml, hown, hts⟩, ⟨hK, hA, hlk, hst, hrt, hin⟩, ⟨⟨hZ, hT⟩, -⟩, -⟩ := F
  simp only [zstep] at hs
  split at hs
  · rename_i e
    cases hs
    rw [e.1] at hown
    rw [e.2] at hd
    intro ad H locs ls h
    have e0 : ad 0 = ad0 0 := h.2.2.2.1 0 (by have := h.2.2.2.2.2.1; omega)
    have k2 := k ad H locs ls (h.stk (zall_cons (zvok_ref (by have := h.2.1.2.1; omega)) h.sok))
    rw [List.map_cons, show zcv ad (.ref 0) = .ref (ad0 0) by simp only [zcv, e0]] at k2
    exact va_gets hx hb hZ h.1.2.2 hown (hts _ zw_gs) (fun x hx9 => hx9) hd k2
  · cases hs
theorem zk_anewarray {idx : Nat} (F : ZEv p l s m args meth c G tc A ad0 X mi) (hR : q.2.2.2.1 - u0 ≤ R.cells ∧ q.2.2.2.1 - u0 ≤ R.slots) (hd : decode (zby mi) pc = .ok (.anewarray idx, 3)) (hs : zstep X mi (.anewarray idx) pc L S st = some q) (k : ZW p l e R s m args below meth c G tc A ad0 n0 u0 mi Q q.1 q.2.1 q.2.2.1 q.2.2.2) : ZW p l e R s m args below meth c G tc A ad0 n0 u0 mi Q pc L S st := by
  obtain ⟨⟨hx, hb, hml, hown, hts⟩, ⟨hK, hA, hlk, hst, hrt, hin⟩, hch, hcv⟩ := F
  simp only [zstep] at hs
  split at hs
  · rename_i n S'
    split at hs
    · rename_i hoc
      split at hs
      · cases hs
      · rename_i hn
        cases hs
        have hn0 : ¬ n < 0 := fun z => hn (Or.inl z)
        have hn1 : n.toNatClampNeg ≤ 1000000 := Nat.le_of_not_lt fun z => hn (Or.inr z)
        have hcl : (Cond.classLink (zow (zoc mi)) idx "java/lang/Object").before args s = true := by
          rcases hoc with e | e
          · rw [e.1, e.2]; exact hts _ zw_ao1
          · rw [e.1, e.2]; exact hts _ zw_ao2
        intro ad H locs ls h
        have hu : u0 ≤ st.1 := h.2.2.2.2.2.2
        have hR1 : st.1 + n.toNatClampNeg + 1 - u0 ≤ R.cells := hR.1
        have hR2 : st.1 + n.toNatClampNeg + 1 - u0 ≤ R.slots := hR.2
        refine va_newq (D := G) (cl := vwCl) (tys := ztys tc) (C := "java/lang/Object") hx hb hown hcl hcv.2.2.1 hK h.1.1 h.1.2.1 h.1.2.2 hA hn0 rfl (by omega) (by omega) (by omega) hd fun a cA H1 hK1 p1 d1 s1 => ?_
        have ec := zK_ra (ty' := .int) (j := 3) hK1 hK rfl
        subst ec
        obtain ⟨z1, z2⟩ := h.al (u' := st.1 + n.toNatClampNeg + 1) (cell := .inl (n.toNatClampNeg, .inr (.inr (.inr (.inr fun _ => none))))) (by omega) (fun i k e => by cases e) (zall_tl h.sok) p1 d1 s1
        have k2 := k _ H1 locs ls z1
        rw [z2] at k2
        exact W.widen (k := st.1 + n.toNatClampNeg + 1 - u0) (n := st.1 + n.toNatClampNeg + 1 - u0) (by omega) (by omega) k2
    · cases hs
  · cases hs
theorem zk_arraylength (F : ZEv p l s m args meth c G tc A ad0 X mi) (hd : decode (zby mi) pc = .ok (.arraylength, 1)) (hs : zstep X mi .arraylength pc L S st = some q) (k : ZW p l e R s m args below meth c G tc A ad0 n0 u0 mi Q q.1 q.2.1 q.2.2.1 q.2.2.2) : ZW p l e R s m args below meth c G tc A ad0 n0 u0 mi Q pc L S st := by
  obtain ⟨⟨hx, hb, hml, hown, hts⟩, ⟨hK, hA, hlk, hst, hrt, hin⟩, ⟨⟨hZ, hT⟩, ⟨hX, hbl, hbA⟩, -⟩, hcv⟩ := F
  simp only [zstep] at hs
  split at hs
  · rename_i a S'
    cases hn : zlen X st a with
    | none => rw [hn] at hs; cases hs
    | some n =>
      rw [hn] at hs
      cases hs
      intro ad H locs ls h
      have hn0 := h.2.2.2.2.2.1
      have k2 := k ad H locs ls (h.stk (zall_cons zvok_int (zall_tl h.sok)))
      unfold zlen at hn
      split at hn
      · rename_i e
        subst e
        cases hn
        show W p l e R s m args below meth c H locs (st.1 - u0) (st.1 - u0) Q (F0 m pc ls (.ref (ad 0) :: S'.map (zcv ad)))
        rw [h.2.2.2.1 0 (by omega)]
        exact va_tlen hx hb hT h.1.2.2 rfl hd k2
      · split at hn
        · rename_i e
          subst e
          cases hn
          show W p l e R s m args below meth c H locs (st.1 - u0) (st.1 - u0) Q (F0 m pc ls (.ref (ad 1) :: S'.map (zcv ad)))
          rw [h.2.2.2.1 1 (by omega)]
          exact va_slen hx hb hX hbl hbA h.1.2.2 hd k2
        · cases hq : zarr st a with
          | none => rw [hq] at hn; cases hn
          | some x =>
            rw [hq] at hn
            cases hn
            have hc := zarr_inv hq
            have hw := zws_at (tc := tc) (ad := ad) (zge3a h.2.1.2 hc) hc
            have hok := h.2.1.1 _ (List.mem_of_getElem? hc)
            match x, hc, hw, hok, k2 with
            | (n, .inl f), hc, hw, _, k2 => exact va_alen (D := G) (cl := vwCl) (tys := ztys tc) hx hb hK h.1.1 (a - 3) 0 hw (ty := .int) rfl rfl hd k2
            | (n, .inr (.inl f)), hc, hw, _, k2 => exact va_alen (D := G) (cl := vwCl) (tys := ztys tc) hx hb hK h.1.1 (a - 3) 1 hw (ty := .long) rfl rfl hd k2
            | (n, .inr (.inr (.inl f))), hc, hw, hok, k2 => exact hok.elim
            | (n, .inr (.inr (.inr (.inl f)))), hc, hw, _, k2 => exact va_alen (D := G) (cl := vwCl) (tys := ztys tc) hx hb hK h.1.1 (a - 3) 2 hw (ty := .double) rfl rfl hd k2
            | (n, .inr (.inr (.inr (.inr f)))), hc, hw, _, k2 => exact va_alen (D := G) (cl := vwCl) (tys := ztys tc) hx hb hK h.1.1 (a - 3) 3 hw (ty := .object "java/lang/Object") rfl rfl hd k2
  · cases hs
theorem zk_ldc {idx : Nat} (F : ZEv p l s m args meth c G tc A ad0 X mi) (hd : decode (zby mi) pc = .ok (.ldc idx, 2)) (hs : zstep X mi (.ldc idx) pc L S st = some q) (k : ZW p l e R s m args below meth c G tc A ad0 n0 u0 mi Q q.1 q.2.1 q.2.2.1 q.2.2.2) : ZW p l e R s m args below meth c G tc A ad0 n0 u0 mi Q pc L S st := by
  obtain ⟨⟨hx, hb, hml, hown, hts⟩, ⟨hK, hA, hlk, hst, hrt, hin⟩, hch, hcv⟩ := F
  simp only [zstep] at hs
  split at hs
  · rename_i e
    cases hs
    rw [e.1] at hown
    rw [e.2] at hd
    intro ad H locs ls h
    have e0 : ad 2 = ad0 2 := h.2.2.2.1 2 (by have := h.2.2.2.2.2.1; omega)
    have k2 := k ad H locs ls (h.stk (zall_cons (zvok_ref (by have := h.2.1.2.1; omega)) h.sok))
    rw [List.map_cons, show zcv ad (.ref 2) = .ref (ad0 2) by simp only [zcv, e0]] at k2
    exact va_ldcM hx hb hown (hts _ zw_oc) hcv.1 hd k2
  · cases hv : zDL.lookup (zoc mi, idx) with
    | none => rw [hv] at hs; cases hs
    | some v =>
      rw [hv] at hs
      simp only [Option.bind_some] at hs
      rcases zD_ok hv with ⟨x, rfl, hw⟩ | ⟨x, rfl, hw⟩ | ⟨x, rfl, hw⟩
      · cases hs; exact zw_push (v := .int x) (fun n => zvok_int) (fun ad H locs cells slots ls rest k => lv_ldc hx hb hown (hts _ hw) hd k) k
      · cases hs; exact zw_push (v := .float x) (fun n => zvok_float) (fun ad H locs cells slots ls rest k => lv_ldcf hx hb hown (hts _ hw) hd k) k
      · cases hs
theorem zk_invokevirtual {idx : Nat} (F : ZEv p l s m args meth c G tc A ad0 X mi) (hR : 1 ≤ R.frames ∧ 40 ≤ R.locals) (hd : decode (zby mi) pc = .ok (.invokevirtual idx, 3)) (hs : zstep X mi (.invokevirtual idx) pc L S st = some q) (k : ZW p l e R s m args below meth c G tc A ad0 n0 u0 mi Q q.1 q.2.1 q.2.2.1 q.2.2.2) : ZW p l e R s m args below meth c G tc A ad0 n0 u0 mi Q pc L S st := by
  obtain ⟨⟨hx, hb, hml, hown, hts⟩, ⟨hK, hA, hlk, hst, hrt, hin⟩, hch, hcv⟩ := F
  simp only [zstep] at hs
  split at hs
  · rename_i a S'
    split at hs
    · rename_i e
      split at hs
      · rename_i n f hq
        cases hs
        rw [e.1] at hown
        rw [e.2.1] at hd
        intro ad H locs ls h
        have hc := zarr_inv hq
        have hw := zws_at (tc := tc) (ad := ad) (zge3a h.2.1.2 hc) hc
        have e0 : ad 2 = ad0 2 := h.2.2.2.1 2 (by have := h.2.2.2.2.2.1; omega)
        have k2 := k ad H locs ls (h.stk (zall_cons (zvok_ref (by have := h.2.1.2.1; omega)) (zall_tl h.sok)))
        rw [List.map_cons, show zcv ad (.ref 2) = .ref (ad0 2) by simp only [zcv, e0]] at k2
        have hat : H[ad a]? = some (vp_cell (tc 3) (n, .inr (.inr (.inr (.inr fun i => (f i).map ad))))) := h.1.1 _ _ hw
        have hra := (hK.2 3 (tc 3, .object "java/lang/Object") rfl).2
        obtain ⟨_, _, _, _, _, hfc⟩ := hra
        rw [zobj_nm] at hfc
        have hsum : ((S'.map (zcv ad)).map fun v => v.category).sum ≤ 8 := zsum (by rw [List.length_map]; exact e.2.2)
        exact va_getC (C := "[Ljava/lang/Object;") hx hb (by rw [hml]; exact h.zl.2.1.symm) hown (hts _ zw_gc1) hcv.2.1.use (hts _ zw_gc4) (hts _ zw_gc2) (hts _ zw_gc3) hcv.1 ⟨_, hat, rfl, hfc⟩ hR.1 (by omega) hd k2
      · cases hs
    · cases hs
  · cases hs
theorem zk_invokespecial {idx : Nat} (F : ZEv p l s m args meth c G tc A ad0 X mi) (hR : 1 ≤ R.frames ∧ 40 ≤ R.locals) (hd : decode (zby mi) pc = .ok (.invokespecial idx, 3)) (hs : zstep X mi (.invokespecial idx) pc L S st = some q) (k : ZW p l e R s m args below meth c G tc A ad0 n0 u0 mi Q q.1 q.2.1 q.2.2.1 q.2.2.2) : ZW p l e R s m args below meth c G tc A ad0 n0 u0 mi Q pc L S st := by
  obtain ⟨⟨hx, hb, hml, hown, hts⟩, ⟨hK, hA, hlk, hst, hrt, hin⟩, hch, hcv⟩ := F
  simp only [zstep] at hs
  split at hs
  · rename_i a S'
    split at hs
    · rename_i e
      cases hs
      intro ad H locs ls h
      have hsum : ((S'.map (zcv ad)).map fun v => v.category).sum ≤ 8 := by
        refine zsum ?_
        rw [List.length_map]
        exact e.2
      have h0 : (F0 m pc ls (.ref (ad a) :: S'.map (zcv ad))).monitorRoom = 0 := rfl
      refine W.objInit hx hb hown (hts _ (zO_ok e.1)) (hts _ zw_oi.1) (hts _ zw_oi.2) (g := F0 m pc ls (.ref (ad a) :: S'.map (zcv ad))) rfl (by rw [hml]; exact h.zl.2.1) rfl hd hR.1 (by rw [h0]; omega) ?_
      exact k ad H locs ls (h.stk (zall_tl h.sok))
    · cases hs
  · cases hs
end ZK
