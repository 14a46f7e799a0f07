/-! copies, Math, the plain stack, branches; and every instruction in one theorem -/
theorem zcpy_map {ad : Nat → Nat} {f g : Nat → Option Nat} {sp dp n : Nat} : (fun i => (va_cpy f g sp dp n i).map ad) = va_cpy (fun i => (f i).map ad) (fun i => (g i).map ad) sp dp n := by
  funext i
  unfold va_cpy
  by_cases c : dp ≤ i ∧ i < dp + n
  · rw [if_pos c, if_pos c]
  · rw [if_neg c, if_neg c]
section ZL1
variable {p : Program} {l : Launch} {e : Env} {R : Room} {s : State} {m : MethodId} {args : Array Value} {below : List Frame} {meth : Method} {c : Code} {G : va_G} {tc : Nat → ClassId} {A : Nat → Prop} {ad0 : Nat → Nat} {n0 u0 mi : Nat} {Q : State → Prop} {X : ZX} {pc : Nat} {L S : List Value} {st : ZS} {q : ZQ}
theorem zk_invokestatic {idx : Nat} (F : ZEv p l s m args meth c G tc A ad0 X mi) (hR : 1 ≤ R.frames ∧ 40 ≤ R.locals) (hR2 : q.2.2.2.1 - u0 ≤ R.cells ∧ q.2.2.2.1 - u0 ≤ R.slots) (hd : decode (zby mi) pc = .ok (.invokestatic idx, 3)) (hs : zstep X mi (.invokestatic idx) pc L S st = some q) (k : ZW p l e R s m args below meth c G tc A ad0 n0 u0 mi Q q.1 q.2.1 q.2.2.1 q.2.2.2) : ZW p l e R s m args below meth c G tc A ad0 n0 u0 mi Q pc L S st := by
  obtain ⟨⟨hx, hb, hml, hown, hts⟩, ⟨hK, hA, hlk, hst, hrt, hin⟩, hch, hcv⟩ := F
  simp only [zstep] at hs
  split at hs
  · rename_i eo
    rw [eo.1] at hown
    rw [eo.2] at hd
    unfold zcpyi at hs
    split at hs
    · rename_i n dp b sp a S'
      split at hs
      · rename_i n0' f n1' g hf hg
        split at hs
        · cases hs
        · rename_i hc
          cases hs
          simp only [not_or, Nat.not_lt] at hc
          obtain ⟨h1, h2, h3, h4, h5, h6⟩ := hc
          intro ad H locs ls h
          have ca := zarr_inv hf
          have cb := zarr_inv hg
          have hsum : ((S'.map (zcv ad)).map fun v => v.category).sum ≤ 8 := zsum (by rw [List.length_map]; exact h6)
          have hnf : nativeFrameWords "java/lang/System" "arraycopy" 5 = 7 := by decide +kernel
          exact va_copyi (D := G) (cl := vwCl) (tys := ztys tc) (ty := .int) hx hb (by rw [hml]; exact h.zl.2.1.symm) hown (hts _ zw_ac2) (hts _ zw_ac3) (hts _ zw_ac4) (hts _ zw_ac5) hK h.1.1 h.1.2.1 h.1.2.2 (a - 3) (b - 3) 0 0 (zws_at (zge3a h.2.1.2 ca) ca) (zws_at (zge3a h.2.1.2 cb) cb) rfl rfl rfl h1 h2 h3 h4 h5 (fun _ _ => rfl) hR.1 (by rw [hnf]; omega) hd fun H1 locs1 p1 d1 s1 =>
            k ad H1 locs1 ls (h.wr (cell := .inl (n1', .inl (va_cpy f g sp.toNatClampNeg dp.toNatClampNeg n.toNatClampNeg))) (zge3a h.2.1.2 cb) (List.getElem?_eq_some_iff.mp cb).1 trivial (zall_tl (zall_tl (zall_tl (zall_tl (zall_tl h.sok))))) p1 d1 s1)
      · cases hs
    · cases hs
  · split at hs
    · rename_i eo
      rw [eo.1] at hown
      rw [eo.2] at hd
      unfold zcpyr at hs
      split at hs
      · rename_i n dp b sp a S'
        split at hs
        · rename_i n0' f n1' g hf hg
          split at hs
          · cases hs
          · rename_i hc
            cases hs
            simp only [not_or, Nat.not_lt] at hc
            obtain ⟨h1, h2, h3, h4, h5, h6, h7⟩ := hc
            intro ad H locs ls h
            have ca := zarr_inv hf
            have cb := zarr_inv hg
            have hsum : ((S'.map (zcv ad)).map fun v => v.category).sum ≤ 8 := zsum (by rw [List.length_map]; exact h6)
            have hnf : nativeFrameWords "java/lang/System" "arraycopy" 5 = 7 := by decide +kernel
            have hok : zcok st.2.length (.inl (n1', .inr (.inr (.inr (.inr (va_cpy f g sp.toNatClampNeg dp.toNatClampNeg n.toNatClampNeg)))))) := by
              intro i y e
              unfold va_cpy at e
              split at e
              · exact h.2.1.1 _ (List.mem_of_getElem? ca) _ _ e
              · exact h.2.1.1 _ (List.mem_of_getElem? cb) _ _ e
            refine va_copyM (D := G) (cl := vwCl) (tys := ztys tc) (E0 := "java/lang/Object") (E1 := "java/lang/Object") (f := fun i => (f i).map ad) (g := fun i => (g i).map ad) hx hb (by rw [hml]; exact h.zl.2.1.symm) hown (hts _ zw_ac1) (hts _ zw_ac3) (hts _ zw_ac4) (hts _ zw_ac5) hK h.1.1 h.1.2.1 h.1.2.2 (a - 3) (b - 3) 3 3 (zws_at (zge3a h.2.1.2 ca) ca) (zws_at (zge3a h.2.1.2 cb) cb) rfl rfl h1 h2 h3 h4 h5 (fun i hi y hy => ?_) hR.1 (by rw [hnf]; omega) hd fun H1 locs1 p1 d1 s1 => ?_
            · have hz : zel st f sp.toNatClampNeg n.toNatClampNeg = true := by
                cases hq : zel st f sp.toNatClampNeg n.toNatClampNeg with
                | true => rfl
                | false => exact absurd hq h7
              have hi2 := List.all_eq_true.mp hz i (List.mem_range.mpr hi)
              cases hw : f (sp.toNatClampNeg + i) with
              | none => rw [hw] at hy; cases hy
              | some w =>
                rw [hw] at hy hi2
                cases hy
                obtain ⟨ci, fs, v0, r, g1, g2, hr, g0⟩ := zob_inv hi2
                refine va_rAny hK h.1.1 (zws_at (zge3 h.2.1.2 g1 g2) g1) hr fun comp c0 q1 q2 => ?_
                obtain ⟨c3, t3, w1, w2, w3⟩ := Cond.castable_spec (hcv.2.2.2.2.1 _ (zcas_ok ci r hr g0))
                cases q1.symm.trans w2
                cases q2.symm.trans w1
                exact w3
            · have e : zce tc ad (.inl (n1', .inr (.inr (.inr (.inr (va_cpy f g sp.toNatClampNeg dp.toNatClampNeg n.toNatClampNeg)))))) = .inl (tc 3, n1', .inr (.inr (.inr (.inr (va_cpy (fun i => (f i).map ad) (fun i => (g i).map ad) sp.toNatClampNeg dp.toNatClampNeg n.toNatClampNeg))))) := by
                simp only [zce]
                rw [zcpy_map]
              rw [← e] at p1 d1
              exact k ad H1 locs1 ls (h.wr (zge3a h.2.1.2 cb) (List.getElem?_eq_some_iff.mp cb).1 hok (zall_tl (zall_tl (zall_tl (zall_tl (zall_tl h.sok))))) p1 d1 s1)
        · cases hs
      · cases hs
    · split at hs
      · rename_i y x S'
        cases hb0 : zXX.lookup (zoc mi, idx) with
        | none => rw [hb0] at hs; cases hs
        | some b =>
          rw [hb0] at hs
          simp only [Option.bind_some] at hs
          split at hs
          · rename_i h6
            cases hs
            obtain ⟨cp, hcp⟩ := zall (by decide +kernel) zX_all hb0
            intro ad H locs ls h
            have hsum : ((S'.map (zcv ad)).map fun v => v.category).sum ≤ 8 := zsum (by rw [List.length_map]; exact h6)
            have k2 := k ad H locs ls (h.stk (zall_cons zvok_int (zall_tl (zall_tl h.sok))))
            have hr1 : st.1 - u0 ≤ R.cells := hR2.1
            have hr2 : st.1 - u0 ≤ R.slots := hR2.2
            cases b with
            | true => exact va_mmax hx hb (by rw [hml]; exact h.zl.2.1.symm) hown (hts _ (zhas_mem hcp)) (hts _ zw_m1.1) (hts _ zw_m3) (hts _ zw_m1.2) hR.1 (by omega) hr1 hr2 hd k2
            | false => exact va_mmin hx hb (by rw [hml]; exact h.zl.2.1.symm) hown (hts _ (zhas_mem hcp)) (hts _ zw_m2.1) (hts _ zw_m3) (hts _ zw_m2.2) hR.1 (by omega) hr1 hr2 hd k2
          · cases hs
      · cases hs
theorem zk_ldc2w {idx : Nat} (F : ZEv p l s m args meth c G tc A ad0 X mi) (hd : decode (zby mi) pc = .ok (.ldc2_w idx, 3)) (hs : zstep X mi (.ldc2_w idx) pc L S st = some q) (k : ZW p l e R s m args below meth c G tc A ad0 n0 u0 mi Q q.1 q.2.1 q.2.2.1 q.2.2.2) : ZW p l e R s m args below meth c G tc A ad0 n0 u0 mi Q pc L S st := by
  obtain ⟨⟨hx, hb, hml, hown, hts⟩, ⟨hK, hA, hlk, hst, hrt, hin⟩, hch, hcv⟩ := F
  simp only [zstep] at hs
  cases hv : zDL.lookup (zoc mi, idx) with
  | none => rw [hv] at hs; cases hs
  | some v =>
    rw [hv] at hs
    simp only [Option.bind_some] at hs
    rcases zD_ok hv with ⟨x, rfl, hw⟩ | ⟨x, rfl, hw⟩ | ⟨x, rfl, hw⟩
    · cases hs
    · cases hs
    · cases hs; exact zw_push (v := .double x) (fun n => zvok_double) (fun ad H locs cells slots ls rest k => lv_ldc2d hx hb hown (hts _ hw) hd k) k
theorem zc1_of {v : Value} (h : zc1 v = true) : v.category = 1 := of_decide_eq_true h
theorem zcv1 {ad : Nat → Nat} {v : Value} (h : zc1 v = true) : (zcv ad v).category = 1 := by rw [zcv_cat]; exact of_decide_eq_true h
theorem zk_dup (F : ZEv p l s m args meth c G tc A ad0 X mi) (hd : decode (zby mi) pc = .ok (.dup, 1)) (hs : zstep X mi .dup pc L S st = some q) (k : ZW p l e R s m args below meth c G tc A ad0 n0 u0 mi Q q.1 q.2.1 q.2.2.1 q.2.2.2) : ZW p l e R s m args below meth c G tc A ad0 n0 u0 mi Q pc L S st := by
  obtain ⟨⟨hx, hb, hml, hown, hts⟩, -⟩ := F
  simp only [zstep] at hs
  split at hs
  · split at hs
    · rename_i h1
      cases hs
      intro ad H locs ls h
      exact lv_dup hx hb hd (zcv1 h1) (k ad H locs ls (h.stk (zall_cons (zall_hd h.sok) h.sok)))
    · cases hs
  · cases hs
theorem zk_dup_x1 (F : ZEv p l s m args meth c G tc A ad0 X mi) (hd : decode (zby mi) pc = .ok (.dup_x1, 1)) (hs : zstep X mi .dup_x1 pc L S st = some q) (k : ZW p l e R s m args below meth c G tc A ad0 n0 u0 mi Q q.1 q.2.1 q.2.2.1 q.2.2.2) : ZW p l e R s m args below meth c G tc A ad0 n0 u0 mi Q pc L S st := by
  obtain ⟨⟨hx, hb, hml, hown, hts⟩, -⟩ := F
  simp only [zstep] at hs
  split at hs
  · split at hs
    · rename_i h1
      cases hs
      intro ad H locs ls h
      exact lv_dup_x1 hx hb hd (zcv1 h1.1) (zcv1 h1.2) (k ad H locs ls (h.stk (zall_cons (zall_hd h.sok) (zall_cons (zall_hd (zall_tl h.sok)) (zall_cons (zall_hd h.sok) (zall_tl (zall_tl h.sok)))))))
    · cases hs
  · cases hs
theorem zk_dup2 (F : ZEv p l s m args meth c G tc A ad0 X mi) (hd : decode (zby mi) pc = .ok (.dup2, 1)) (hs : zstep X mi .dup2 pc L S st = some q) (k : ZW p l e R s m args below meth c G tc A ad0 n0 u0 mi Q q.1 q.2.1 q.2.2.1 q.2.2.2) : ZW p l e R s m args below meth c G tc A ad0 n0 u0 mi Q pc L S st := by
  obtain ⟨⟨hx, hb, hml, hown, hts⟩, -⟩ := F
  simp only [zstep] at hs
  split at hs
  · split at hs
    · rename_i h1
      cases hs
      intro ad H locs ls h
      exact lv_dup2_11 hx hb hd (zcv1 h1.1) (zcv1 h1.2) (k ad H locs ls (h.stk (zall_cons (zall_hd h.sok) (zall_cons (zall_hd (zall_tl h.sok)) h.sok))))
    · cases hs
  · cases hs
theorem zk_pop (F : ZEv p l s m args meth c G tc A ad0 X mi) (hd : decode (zby mi) pc = .ok (.pop, 1)) (hs : zstep X mi .pop pc L S st = some q) (k : ZW p l e R s m args below meth c G tc A ad0 n0 u0 mi Q q.1 q.2.1 q.2.2.1 q.2.2.2) : ZW p l e R s m args below meth c G tc A ad0 n0 u0 mi Q pc L S st := by
  obtain ⟨⟨hx, hb, hml, hown, hts⟩, -⟩ := F
  simp only [zstep] at hs
  split at hs
  · split at hs
    · rename_i h1
      cases hs
      intro ad H locs ls h
      exact lv_pop hx hb hd (zcv1 h1) (k ad H locs ls (h.stk (zall_tl h.sok)))
    · cases hs
  · cases hs
theorem zk_un {i : Instr} {v w : Value} {S' : List Value} (hS : S = v :: S') (hq : q = (pc + 1, L, w :: S', st)) (hw : ∀ n, zvok n w) (k : ZW p l e R s m args below meth c G tc A ad0 n0 u0 mi Q q.1 q.2.1 q.2.2.1 q.2.2.2) (row : ∀ (H : Heap) (locs : List Loc) (cells slots : Nat) (ls : Array Slot) (rest : List Value) (ad : Nat → Nat), W p l e R s m args below meth c H locs cells slots Q (F0 m (pc + 1) ls (zcv ad w :: rest)) → W p l e R s m args below meth c H locs cells slots Q (F0 m pc ls (zcv ad v :: rest))) : ZW p l e R s m args below meth c G tc A ad0 n0 u0 mi Q pc L S st := by
  subst hS; subst hq
  intro ad H locs ls h
  exact row H locs _ _ ls _ ad (k ad H locs ls (h.stk (zall_cons (hw _) (zall_tl h.sok))))
theorem zk_bi {i : Instr} {v v2 w : Value} {S' : List Value} (hS : S = v :: v2 :: S') (hq : q = (pc + 1, L, w :: S', st)) (hw : ∀ n, zvok n w) (k : ZW p l e R s m args below meth c G tc A ad0 n0 u0 mi Q q.1 q.2.1 q.2.2.1 q.2.2.2) (row : ∀ (H : Heap) (locs : List Loc) (cells slots : Nat) (ls : Array Slot) (rest : List Value) (ad : Nat → Nat), W p l e R s m args below meth c H locs cells slots Q (F0 m (pc + 1) ls (zcv ad w :: rest)) → W p l e R s m args below meth c H locs cells slots Q (F0 m pc ls (zcv ad v :: zcv ad v2 :: rest))) : ZW p l e R s m args below meth c G tc A ad0 n0 u0 mi Q pc L S st := by
  subst hS; subst hq
  intro ad H locs ls h
  exact row H locs _ _ ls _ ad (k ad H locs ls (h.stk (zall_cons (hw _) (zall_tl (zall_tl h.sok)))))
theorem zk_goto {off : Int} (F : ZEv p l s m args meth c G tc A ad0 X mi) (hd : decode (zby mi) pc = .ok (.goto off, 3)) (hs : zstep X mi (.goto off) pc L S st = some q) (k : ZW p l e R s m args below meth c G tc A ad0 n0 u0 mi Q q.1 q.2.1 q.2.2.1 q.2.2.2) : ZW p l e R s m args below meth c G tc A ad0 n0 u0 mi Q pc L S st := by
  obtain ⟨⟨hx, hb, hml, hown, hts⟩, -⟩ := F
  simp only [zstep] at hs
  cases ht : zto pc off with
  | none => rw [ht] at hs; cases hs
  | some t =>
    rw [ht] at hs
    cases hs
    intro ad H locs ls h
    exact lv_goto hx hb hd (zto_of ht) (k ad H locs ls h)
theorem zk_ifCond {cn : Jvm.ClassFile.Cond} {off : Int} (F : ZEv p l s m args meth c G tc A ad0 X mi) (hd : decode (zby mi) pc = .ok (.ifCond cn off, 3)) (hs : zstep X mi (.ifCond cn off) pc L S st = some q) (k : ZW p l e R s m args below meth c G tc A ad0 n0 u0 mi Q q.1 q.2.1 q.2.2.1 q.2.2.2) : ZW p l e R s m args below meth c G tc A ad0 n0 u0 mi Q pc L S st := by
  obtain ⟨⟨hx, hb, hml, hown, hts⟩, -⟩ := F
  simp only [zstep] at hs
  split at hs
  · rename_i x S'
    refine zw_br hs k (fun n h => zall_tl h) fun ad H locs cells slots ls t ht kt kf _ => ?_
    cases cn with
    | eq => exact lv_if_eq hx hb hd ht (fun e => kt (decide_eq_true e)) fun e => kf (decide_eq_false e)
    | ne => exact lv_if_ne hx hb hd ht (fun e => kt (decide_eq_true e)) fun e => kf (decide_eq_false (fun z => z e))
    | lt => exact lv_if_lt hx hb hd ht (fun e => kt (decide_eq_true e)) fun e => kf (decide_eq_false e)
    | ge => exact lv_if_ge hx hb hd ht (fun e => kt (decide_eq_true e)) fun e => kf (decide_eq_false e)
    | gt => exact lv_if_gt hx hb hd ht (fun e => kt (decide_eq_true e)) fun e => kf (decide_eq_false e)
    | le => exact lv_if_le hx hb hd ht (fun e => kt (decide_eq_true e)) fun e => kf (decide_eq_false e)
  · cases hs
theorem zk_if_icmp {cn : Jvm.ClassFile.Cond} {off : Int} (F : ZEv p l s m args meth c G tc A ad0 X mi) (hd : decode (zby mi) pc = .ok (.if_icmp cn off, 3)) (hs : zstep X mi (.if_icmp cn off) pc L S st = some q) (k : ZW p l e R s m args below meth c G tc A ad0 n0 u0 mi Q q.1 q.2.1 q.2.2.1 q.2.2.2) : ZW p l e R s m args below meth c G tc A ad0 n0 u0 mi Q pc L S st := by
  obtain ⟨⟨hx, hb, hml, hown, hts⟩, -⟩ := F
  simp only [zstep] at hs
  split at hs
  · rename_i y x S'
    refine zw_br hs k (fun n h => zall_tl (zall_tl h)) fun ad H locs cells slots ls t ht kt kf _ => ?_
    cases cn with
    | eq => exact lv_icmp_eq hx hb hd ht (fun e => kt (decide_eq_true e)) fun e => kf (decide_eq_false e)
    | ne => exact lv_icmp_ne hx hb hd ht (fun e => kt (decide_eq_true e)) fun e => kf (decide_eq_false (fun z => z e))
    | lt => exact lv_icmp_lt hx hb hd ht (fun e => kt (decide_eq_true e)) fun e => kf (decide_eq_false e)
    | ge => exact lv_icmp_ge hx hb hd ht (fun e => kt (decide_eq_true e)) fun e => kf (decide_eq_false e)
    | gt => exact lv_icmp_gt hx hb hd ht (fun e => kt (decide_eq_true e)) fun e => kf (decide_eq_false e)
    | le => exact lv_icmp_le hx hb hd ht (fun e => kt (decide_eq_true e)) fun e => kf (decide_eq_false e)
  · cases hs
theorem zk_ifnull {off : Int} (F : ZEv p l s m args meth c G tc A ad0 X mi) (hd : decode (zby mi) pc = .ok (.ifnull off, 3)) (hs : zstep X mi (.ifnull off) pc L S st = some q) (k : ZW p l e R s m args below meth c G tc A ad0 n0 u0 mi Q q.1 q.2.1 q.2.2.1 q.2.2.2) : ZW p l e R s m args below meth c G tc A ad0 n0 u0 mi Q pc L S st := by
  obtain ⟨⟨hx, hb, hml, hown, hts⟩, -⟩ := F
  simp only [zstep] at hs
  split at hs
  · exact zw_br hs k (fun n h => zall_tl h) fun ad H locs cells slots ls t ht kt kf _ => lv_ifnull hx hb hd (kf rfl)
  · exact zw_br hs k (fun n h => zall_tl h) fun ad H locs cells slots ls t ht kt kf _ => lv_ifnullN hx hb hd ht (kt rfl)
  · cases hs
theorem zk_ifnonnull {off : Int} (F : ZEv p l s m args meth c G tc A ad0 X mi) (hd : decode (zby mi) pc = .ok (.ifnonnull off, 3)) (hs : zstep X mi (.ifnonnull off) pc L S st = some q) (k : ZW p l e R s m args below meth c G tc A ad0 n0 u0 mi Q q.1 q.2.1 q.2.2.1 q.2.2.2) : ZW p l e R s m args below meth c G tc A ad0 n0 u0 mi Q pc L S st := by
  obtain ⟨⟨hx, hb, hml, hown, hts⟩, -⟩ := F
  simp only [zstep] at hs
  split at hs
  · exact zw_br hs k (fun n h => zall_tl h) fun ad H locs cells slots ls t ht kt kf _ => lv_ifnonnull hx hb hd ht (kt rfl)
  · exact zw_br hs k (fun n h => zall_tl h) fun ad H locs cells slots ls t ht kt kf _ => lv_ifnonnullN hx hb hd (kf rfl)
  · cases hs
/-- places are apart in the real heap, but for the two that are never compared -/
theorem ZPt.inj {ad : Nat → Nat} {H : Heap} {locs : List Loc} {ls : Array Slot} (F : ZEv p l s m args meth c G tc A ad0 X mi) (h : ZPt G tc A s ad0 n0 u0 (zml mi) ad st L S H locs ls) {x y : Nat} (hx : x < st.2.length) (hy : y < st.2.length) (hz : x ≠ 1 ∧ x ≠ 2 ∧ y ≠ 1 ∧ y ≠ 2) (e : ad x = ad y) : x = y := by
  obtain ⟨-, -, ⟨⟨hZ, hT⟩, -⟩, -⟩ := F
  have hn0 := h.2.2.2.2.2.1
  have e0 : ad 0 = ad0 0 := h.2.2.2.1 0 (by omega)
  have hin : ∀ k, 3 ≤ k → k < st.2.length → ∃ c, (zws tc ad st.2)[k - 3]? = some (ad k, c) := fun k h1 h2 => ⟨_, zws_at h1 (List.getElem?_eq_getElem h2)⟩
  have h0 : ∀ k, 3 ≤ k → k < st.2.length → ad k ≠ ad 0 := by
    intro k h1 h2 z
    obtain ⟨c, hc⟩ := hin k h1 h2
    have ha : A (ad k) := h.1.2.1.2 _ _ hc
    rw [z, e0] at ha
    exact hT.out ha
  rcases Nat.lt_or_ge x 3 with a | a
  · have ex : x = 0 := by omega
    subst ex
    rcases Nat.lt_or_ge y 3 with b | b
    · omega
    · exact absurd e.symm (h0 y b hy)
  · rcases Nat.lt_or_ge y 3 with b | b
    · have ey : y = 0 := by omega
      subst ey
      exact absurd e (h0 x a hx)
    · obtain ⟨c1, g1⟩ := hin x a hx
      obtain ⟨c2, g2⟩ := hin y b hy
      have := h.1.2.1.1 _ _ _ _ g1 g2 e
      omega
theorem zk_if_acmp {cn : Jvm.ClassFile.ACond} {off : Int} (F : ZEv p l s m args meth c G tc A ad0 X mi) (hd : decode (zby mi) pc = .ok (.if_acmp cn off, 3)) (hs : zstep X mi (.if_acmp cn off) pc L S st = some q) (k : ZW p l e R s m args below meth c G tc A ad0 n0 u0 mi Q q.1 q.2.1 q.2.2.1 q.2.2.2) : ZW p l e R s m args below meth c G tc A ad0 n0 u0 mi Q pc L S st := by
  have F' := F
  obtain ⟨⟨hx, hb, hml, hown, hts⟩, -⟩ := F
  simp only [zstep] at hs
  split at hs
  · rename_i y x S'
    split at hs
    · rename_i hc
      refine zw_br hs k (fun n h => zall_tl (zall_tl h)) fun ad H locs cells slots ls t ht kt kf h => ?_
      have hxy : ad x = ad y → x = y := fun e => by
        rcases hc with z | z
        · exact z
        · exact h.inj F' (zall_hd (zall_tl h.sok) x rfl) (zall_hd h.sok y rfl) z e
      cases cn with
      | eq => exact lv_acmp_eq (rx := some (ad x)) (ry := some (ad y)) hx hb hd ht (fun e => kt (decide_eq_true (hxy (Option.some.inj e)))) fun e => kf (decide_eq_false fun z => e (by rw [z]))
      | ne => exact lv_acmp_ne (rx := some (ad x)) (ry := some (ad y)) hx hb hd ht (fun e => kt (decide_eq_true fun z => e (by rw [z]))) fun e => kf (decide_eq_false fun z => z (hxy (Option.some.inj e)))
    · cases hs
  · rename_i x S'
    refine zw_br hs k (fun n h => zall_tl (zall_tl h)) fun ad H locs cells slots ls t ht kt kf h => ?_
    cases cn with
    | eq => exact lv_acmp_eq (rx := some (ad x)) (ry := none) hx hb hd ht (fun e => by cases e) fun e => kf rfl
    | ne => exact lv_acmp_ne (rx := some (ad x)) (ry := none) hx hb hd ht (fun e => kt rfl) fun e => by cases e
  · rename_i x S'
    refine zw_br hs k (fun n h => zall_tl (zall_tl h)) fun ad H locs cells slots ls t ht kt kf h => ?_
    cases cn with
    | eq => exact lv_acmp_eq (rx := none) (ry := some (ad x)) hx hb hd ht (fun e => by cases e) fun e => kf rfl
    | ne => exact lv_acmp_ne (rx := none) (ry := some (ad x)) hx hb hd ht (fun e => kt rfl) fun e => by cases e
  · rename_i S'
    refine zw_br hs k (fun n h => zall_tl (zall_tl h)) fun ad H locs cells slots ls t ht kt kf h => ?_
    cases cn with
    | eq => exact lv_acmp_eq (rx := none) (ry := none) hx hb hd ht (fun e => kt rfl) fun e => absurd rfl e
    | ne => exact lv_acmp_ne (rx := none) (ry := none) hx hb hd ht (fun e => absurd rfl e) fun e => kf rfl
  · cases hs
theorem zk_tableswitch {dflt lo hi : Int} {offs : Array Int} {len : Nat} (F : ZEv p l s m args meth c G tc A ad0 X mi) (hd : decode (zby mi) pc = .ok (.tableswitch dflt lo hi offs, len)) (hs : zstep X mi (.tableswitch dflt lo hi offs) pc L S st = some q) (k : ZW p l e R s m args below meth c G tc A ad0 n0 u0 mi Q q.1 q.2.1 q.2.2.1 q.2.2.2) : ZW p l e R s m args below meth c G tc A ad0 n0 u0 mi Q pc L S st := by
  obtain ⟨⟨hx, hb, hml, hown, hts⟩, -⟩ := F
  simp only [zstep] at hs
  split at hs
  · rename_i x S'
    split at hs
    · rename_i hc
      cases ht : zto pc dflt with
      | none => rw [ht] at hs; cases hs
      | some t =>
        rw [ht] at hs
        cases hs
        intro ad H locs ls h
        exact lv_tableOut hx hb hd hc (zto_of ht) (k ad H locs ls (h.stk (zall_tl h.sok)))
    · rename_i hc
      cases ho : offs[(x.toInt - lo).toNat]? with
      | none => rw [ho] at hs; cases hs
      | some off =>
        rw [ho] at hs
        simp only [Option.bind_some] at hs
        cases ht : zto pc off with
        | none => rw [ht] at hs; cases hs
        | some t =>
          rw [ht] at hs
          cases hs
          intro ad H locs ls h
          exact lv_tableIn hx hb hd (fun z => hc (Or.inl z)) (fun z => hc (Or.inr z)) ho (zto_of ht) (k ad H locs ls (h.stk (zall_tl h.sok)))
  · cases hs
theorem zk_iinc {n : Nat} {cst : Int} (F : ZEv p l s m args meth c G tc A ad0 X mi) (hd : decode (zby mi) pc = .ok (.iinc n cst, 3)) (hs : zstep X mi (.iinc n cst) pc L S st = some q) (k : ZW p l e R s m args below meth c G tc A ad0 n0 u0 mi Q q.1 q.2.1 q.2.2.1 q.2.2.2) : ZW p l e R s m args below meth c G tc A ad0 n0 u0 mi Q pc L S st := by
  obtain ⟨⟨hx, hb, hml, hown, hts⟩, -⟩ := F
  simp only [zstep] at hs
  split at hs
  · rename_i x hl
    cases hs
    intro ad H locs ls h
    obtain ⟨kk, hk⟩ := List.getElem?_of_mem (zlv_mem.mpr ⟨.int x, hl, rfl, rfl⟩ : (n, zcv ad (.int x)) ∈ zlv ad L)
    have hn : n < zml mi := by rw [← h.zl.1]; exact (List.getElem?_eq_some_iff.mp hl).1
    exact lv_iinc (k := kk) (x := x) hx hb hd h.zl.2 hk rfl hn rfl fun ls' hl' => k ad H locs ls' (h.lcl (h.zl.st1 (v := .int (x + Int32.ofInt cst)) rfl (fun k e => by cases e) hn hl') (zall_set zvok_int h.lok) h.sok)
  · cases hs
end ZL1
