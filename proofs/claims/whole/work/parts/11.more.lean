/-! more instructions: stores of references, making, casts, the JDK's natives, the stack -/
theorem zgw_at {w : Cond} (p : Nat) (h : zhas w p = true) : w ∈ zgw := zhas_mem h
theorem zw_int : Cond.arrayClass .int ∈ zgw := zgw_at 288 (by decide +kernel)
theorem zw_long : Cond.arrayClass .long ∈ zgw := zgw_at 1008 (by decide +kernel)
theorem zw_dbl : Cond.arrayClass .double ∈ zgw := zgw_at 1009 (by decide +kernel)
theorem zcas_ok : ∀ (ci : Nat) (r : vw_C), vwCl[ci]? = some r → ci ≠ 0 → r.1 ∈ zKC := by
  intro ci r h h0
  match ci, h, h0 with
  | 0, _, h0 => exact absurd rfl h0
  | 1, h, _ => cases h; exact List.mem_of_getElem? (i := 0) rfl
  | 2, h, _ => cases h; exact List.mem_of_getElem? (i := 1) rfl
  | 3, h, _ => cases h; exact List.mem_of_getElem? (i := 2) rfl
  | 4, h, _ => cases h; exact List.mem_of_getElem? (i := 3) rfl
  | 5, h, _ => cases h; exact List.mem_of_getElem? (i := 4) rfl
  | 6, h, _ => cases h; exact List.mem_of_getElem? (i := 5) rfl
  | 7, h, _ => cases h; exact List.mem_of_getElem? (i := 6) rfl
  | k + 8, h, _ => simp [vwCl] at h
theorem zup_map {ad : Nat → Nat} {f : Nat → Option Nat} {j : Nat} {r : Option Nat} : (fun i => (va_up f j r i).map ad) = va_up (fun i => (f i).map ad) j (r.map ad) := by
  funext i
  unfold va_up
  by_cases c : i = j
  · rw [if_pos c, if_pos c]
  · rw [if_neg c, if_neg c]
theorem zis_inv {st : ZS} {a ci : Nat} (h : zis st a ci = true) : ∃ fs v, st.2[a]? = some (.inr (ci, fs)) ∧ fs[0]? = some v := by
  unfold zis at h
  cases hg : zget st a ci 0 with
  | none => rw [hg] at h; cases h
  | some v =>
    obtain ⟨fs, h1, h2⟩ := zget_inv hg
    exact ⟨fs, v, h1, h2⟩
theorem zob_inv {st : ZS} {a : Nat} (h : zob st a = true) : ∃ ci fs v r, st.2[a]? = some (.inr (ci, fs)) ∧ fs[0]? = some v ∧ vwCl[ci]? = some r ∧ ci ≠ 0 := by
  unfold zob at h
  simp only [Bool.or_eq_true] at h
  rcases h with h | h | h | h | h | h | h
  · obtain ⟨fs, v, h1, h2⟩ := zis_inv h; exact ⟨1, fs, v, _, h1, h2, rfl, by decide⟩
  · obtain ⟨fs, v, h1, h2⟩ := zis_inv h; exact ⟨2, fs, v, _, h1, h2, rfl, by decide⟩
  · obtain ⟨fs, v, h1, h2⟩ := zis_inv h; exact ⟨3, fs, v, _, h1, h2, rfl, by decide⟩
  · obtain ⟨fs, v, h1, h2⟩ := zis_inv h; exact ⟨4, fs, v, _, h1, h2, rfl, by decide⟩
  · obtain ⟨fs, v, h1, h2⟩ := zis_inv h; exact ⟨5, fs, v, _, h1, h2, rfl, by decide⟩
  · obtain ⟨fs, v, h1, h2⟩ := zis_inv h; exact ⟨6, fs, v, _, h1, h2, rfl, by decide⟩
  · obtain ⟨fs, v, h1, h2⟩ := zis_inv h; exact ⟨7, fs, v, _, h1, h2, rfl, by decide⟩
theorem zfresh {ad : Nat → Nat} {n a : Nat} : ∀ k, k < n → va_up ad n a k = ad k := fun k hk => by
  unfold va_up
  rw [if_neg (by omega)]
theorem zself {ad : Nat → Nat} {n a : Nat} : va_up ad n a n = a := by unfold va_up; rw [if_pos rfl]
section ZJ
variable {p : Program} {l : Launch} {e : Env} {R : Room} {s : State} {m : MethodId} {args : Array Value} {below : List Frame} {meth : Method} {c : Code} {G : va_G} {tc : Nat → ClassId} {A : Nat → Prop} {ad0 : Nat → Nat} {n0 u0 mi : Nat} {Q : State → Prop} {X : ZX} {pc : Nat} {L S : List Value} {st : ZS} {q : ZQ}
theorem zk_aastore (F : ZEv p l s m args meth c G tc A ad0 X mi) (hd : decode (zby mi) pc = .ok (.aastore, 1)) (hs : zstep X mi .aastore pc L S st = some q) (k : ZW p l e R s m args below meth c G tc A ad0 n0 u0 mi Q q.1 q.2.1 q.2.2.1 q.2.2.2) : ZW p l e R s m args below meth c G tc A ad0 n0 u0 mi Q pc L S st := by
  obtain ⟨⟨hx, hb, hml, hown, hts⟩, ⟨hK, hA, hlk, hst, hrt, hin⟩, hco⟩ := F
  simp only [zstep] at hs
  split at hs
  · rename_i x i a S'
    split at hs
    · rename_i n f hq
      split at hs
      · rename_i ho
        cases hj : zix i n with
        | none => rw [hj] at hs; cases hs
        | some j =>
          rw [hj] at hs
          cases hs
          obtain ⟨hv, rfl⟩ := zix_inv hj
          obtain ⟨ci, fs, v0, r, h1, h2, hr, h0⟩ := zob_inv ho
          intro ad H locs ls h
          have hc := zarr_inv hq
          have ha := zge3a h.2.1.2 hc
          have hxl : x < st.2.length := zall_hd h.sok x rfl
          have hok : zcok st.2.length (.inl (n, .inr (.inr (.inr (.inr (va_up f i.toNatClampNeg (some x))))))) := by
            intro p y e
            unfold va_up at e
            by_cases c : p = i.toNatClampNeg
            · rw [if_pos c] at e; cases e; exact hxl
            · rw [if_neg c] at e; exact h.2.1.1 _ (List.mem_of_getElem? hc) _ _ e
          refine va_astqO (D := G) (cl := vwCl) (tys := ztys tc) (E := "java/lang/Object") (f := fun i => (f i).map ad) hx hb hK h.1.1 h.1.2.1 h.1.2.2 (a - 3) 3 (x - 3) ci (zws_at ha hc) rfl (hco.2.2.2.2.2.1 _ (zcas_ok ci r hr h0)) (zws_at (zge3 h.2.1.2 h1 h2) h1) hr hv hd fun H1 locs1 p1 d1 s1 => ?_
          have e : zce tc ad (.inl (n, .inr (.inr (.inr (.inr (va_up f i.toNatClampNeg (some x))))))) = .inl (tc 3, n, .inr (.inr (.inr (.inr (va_up (fun i => (f i).map ad) i.toNatClampNeg (some (ad x))))))) := by
            simp only [zce]
            rw [zup_map]
            rfl
          rw [← e] at p1 d1
          exact k ad H1 locs1 ls (h.wr ha (List.getElem?_eq_some_iff.mp hc).1 hok (zall_tl (zall_tl (zall_tl h.sok))) p1 d1 s1)
      · cases hs
    · cases hs
  · rename_i i a S'
    split at hs
    · rename_i n f hq
      cases hj : zix i n with
      | none => rw [hj] at hs; cases hs
      | some j =>
        rw [hj] at hs
        cases hs
        obtain ⟨hv, rfl⟩ := zix_inv hj
        intro ad H locs ls h
        have hc := zarr_inv hq
        have ha := zge3a h.2.1.2 hc
        have hok : zcok st.2.length (.inl (n, .inr (.inr (.inr (.inr (va_up f i.toNatClampNeg none)))))) := by
          intro p y e
          unfold va_up at e
          by_cases c : p = i.toNatClampNeg
          · rw [if_pos c] at e; cases e
          · rw [if_neg c] at e; exact h.2.1.1 _ (List.mem_of_getElem? hc) _ _ e
        refine va_astqN (D := G) (cl := vwCl) (tys := ztys tc) (C := "java/lang/Object") (f := fun i => (f i).map ad) hx hb hK h.1.1 h.1.2.1 h.1.2.2 (a - 3) 3 (zws_at ha hc) rfl hv hd fun H1 locs1 p1 d1 s1 => ?_
        have e : zce tc ad (.inl (n, .inr (.inr (.inr (.inr (va_up f i.toNatClampNeg none)))))) = .inl (tc 3, n, .inr (.inr (.inr (.inr (va_up (fun i => (f i).map ad) i.toNatClampNeg none))))) := by
          simp only [zce]
          rw [zup_map]
          rfl
        rw [← e] at p1 d1
        exact k ad H1 locs1 ls (h.wr ha (List.getElem?_eq_some_iff.mp hc).1 hok (zall_tl (zall_tl (zall_tl h.sok))) p1 d1 s1)
    · cases hs
  · cases hs
/-- the place behind a making -/
theorem ZPt.al {ad : Nat → Nat} {H H1 : Heap} {locs : List Loc} {ls : Array Slot} {u' a : Nat} {cell : ZC} {S' : List Value} (h : ZPt G tc A s ad0 n0 u0 (zml mi) ad st L S H locs ls) (hu : st.1 ≤ u') (hc : zcok (st.2.length + 1) cell) (hS : ∀ v ∈ S', zvok st.2.length v)
    (hP : va_P G vwCl (zws tc ad st.2 ++ [(a, zce tc (va_up ad st.2.length a) cell)]) H1) (hD : va_D A (zws tc ad st.2 ++ [(a, zce tc (va_up ad st.2.length a) cell)])) (hH : va_S A s.heap H1 locs) : ZPt G tc A s ad0 n0 u0 (zml mi) (va_up ad st.2.length a) (u', st.2 ++ [cell]) L (.ref st.2.length :: S') H1 locs ls ∧ (Value.ref st.2.length :: S').map (zcv (va_up ad st.2.length a)) = .ref a :: S'.map (zcv ad) := by
  have e : zws tc (va_up ad st.2.length a) (st.2 ++ [cell]) = zws tc ad st.2 ++ [(a, zce tc (va_up ad st.2.length a) cell)] := by
    rw [zws_push cell h.2.1.2.1, zws_ad h.2.1.1 zfresh, zself]
  obtain ⟨g1, g2, g3, g4⟩ := h.2.2.2
  refine ⟨⟨⟨by rw [e]; exact hP, by rw [e]; exact hD, hH⟩, ⟨zhok_push h.2.1.1 hc, zspc_push h.2.1.2⟩, ⟨h.zl.ad h.lok zfresh, ?_, ?_⟩, ⟨fun k hk => ?_, ?_, g3, Nat.le_trans g4 hu⟩⟩, ?_⟩
  · intro v hv; rw [List.length_append]; exact zvok_mono (h.lok v hv) (Nat.le_add_right _ _)
  · rw [List.length_append]
    exact zall_cons (zvok_ref (Nat.lt_succ_self _)) fun v hv => zvok_mono (hS v hv) (Nat.le_add_right _ _)
  · rw [zfresh k (Nat.lt_of_lt_of_le hk g2)]; exact g1 k hk
  · rw [List.length_append]; exact Nat.le_trans g2 (Nat.le_add_right _ _)
  · rw [List.map_cons, List.map_congr_left fun v hv => zcv_ad (hS v hv) zfresh]
    show Value.ref (va_up ad st.2.length a st.2.length) :: _ = _
    rw [zself]
theorem znewf_ok {ci n : Nat} {ad : Nat → Nat} : (znewf ci).map (zcv ad) = znewf ci ∧ ∀ v ∈ znewf ci, zvok n v := by
  have h : ∀ t : Nat, zcv ad (zdv t) = zdv t ∧ zvok n (zdv t) := by
    intro t
    match t with
    | 0 => exact ⟨rfl, zvok_int⟩
    | 1 => exact ⟨rfl, zvok_float⟩
    | t + 2 => exact ⟨rfl, zvok_null⟩
  unfold znewf
  refine ⟨?_, ?_⟩
  · rw [List.map_map]
    exact List.map_congr_left fun t _ => (h t.1).1
  · intro v hv
    obtain ⟨t, -, rfl⟩ := List.mem_map.mp hv
    exact (h t.1).2
theorem zk_new {idx : Nat} (F : ZEv p l s m args meth c G tc A ad0 X mi) (hR : q.2.2.2.1 - u0 ≤ R.cells ∧ q.2.2.2.1 - u0 ≤ R.slots) (hd : decode (zby mi) pc = .ok (.new idx, 3)) (hs : zstep X mi (.new idx) pc L S st = some q) (k : ZW p l e R s m args below meth c G tc A ad0 n0 u0 mi Q q.1 q.2.1 q.2.2.1 q.2.2.2) : ZW p l e R s m args below meth c G tc A ad0 n0 u0 mi Q pc L S st := by
  obtain ⟨⟨hx, hb, hml, hown, hts⟩, ⟨hK, hA, hlk, hst, hrt, hin⟩, hco⟩ := F
  simp only [zstep] at hs
  cases hf : zNL.lookup (zoc mi, idx) with
  | none => rw [hf] at hs; cases hs
  | some ci =>
    rw [hf] at hs
    cases hs
    obtain ⟨r, hr, w1, w2, w3⟩ := zN_ok hf
    obtain ⟨hus, ty0, hty, hnm, htc⟩ := zcl_ok ci r hr
    unfold zTc at htc
    rw [Bool.and_eq_true] at htc
    have hlen : (znewf ci).length = r.2.2 := of_decide_eq_true htc.1
    intro ad H locs ls h
    have hu : u0 ≤ st.1 := h.2.2.2.2.2.2
    have hR1 : st.1 + (znewf ci).length + 1 - u0 ≤ R.cells := hR.1
    have hR2 : st.1 + (znewf ci).length + 1 - u0 ≤ R.slots := hR.2
    refine va_new (D := G) (cl := vwCl) (tys := ztys tc) (C := r.1) (T := r.2.1) (N := r.2.2) (fs := znewf ci) hx hb hts hus ty0 hty hown (hts _ w1) (hts _ w2) (hts _ w3) hK h.1.1 h.1.2.1 h.1.2.2 hA hr (fun j hj => ?_) (by omega) (by omega) hd fun a H1 p1 d1 s1 => ?_
    · have ht := List.all_eq_true.mp htc.2 j (List.mem_range.mpr hj)
      simp only [Bool.and_eq_true] at ht
      exact of_decide_eq_true ht.2.2.1
    · have e : zce tc (va_up ad st.2.length a) (.inr (ci, znewf ci)) = .inr (ci, znewf ci) := by
        simp only [zce]
        rw [(znewf_ok (n := 0)).1]
      rw [← e] at p1 d1
      obtain ⟨z1, z2⟩ := h.al (u' := st.1 + (znewf ci).length + 1) (cell := .inr (ci, znewf ci)) (by omega) (fun v hv => (znewf_ok (ad := ad)).2 v hv) h.sok p1 d1 s1
      have k2 := k _ H1 locs ls z1
      rw [z2] at k2
      exact W.widen (k := st.1 + (znewf ci).length + 1 - u0) (n := st.1 + (znewf ci).length + 1 - u0) (by omega) (by omega) k2
theorem zK_ra {ty ty' : FieldType} {j : Nat} {cA cB : ClassId} {tys : List (ClassId × FieldType)} (hK : va_K G vwCl (tys ++ [(cA, ty)]) s) (hK0 : va_K G vwCl tys s) (ht : tys[j]? = some (cB, ty)) : cA = cB := by
  have h1 := (hK.2 tys.length (cA, ty) (by simp)).2
  have h2 := (hK0.2 j (cB, ty) ht).2
  cases ty with
  | object C =>
    obtain ⟨_, _, _, _, _, a⟩ := h1
    obtain ⟨_, _, _, _, _, b⟩ := h2
    exact Option.some.inj (a.symm.trans b)
  | _ => exact Option.some.inj (h1.symm.trans h2)
theorem zk_newarray {t : ArrayType} (F : ZEv p l s m args meth c G tc A ad0 X mi) (hR : q.2.2.2.1 - u0 ≤ R.cells ∧ q.2.2.2.1 - u0 ≤ R.slots) (hd : decode (zby mi) pc = .ok (.newarray t, 2)) (hs : zstep X mi (.newarray t) pc L S st = some q) (k : ZW p l e R s m args below meth c G tc A ad0 n0 u0 mi Q q.1 q.2.1 q.2.2.1 q.2.2.2) : ZW p l e R s m args below meth c G tc A ad0 n0 u0 mi Q pc L S st := by
  obtain ⟨⟨hx, hb, hml, hown, hts⟩, ⟨hK, hA, hlk, hst, hrt, hin⟩, hco⟩ := F
  simp only [zstep] at hs
  split at hs
  · rename_i n S'
    split at hs
    · cases hs
    · rename_i hn
      have hn0 : ¬ n < 0 := fun z => hn (Or.inl z)
      have hn1 : n.toNatClampNeg ≤ 1000000 := Nat.le_of_not_lt fun z => hn (Or.inr z)
      split at hs
      · cases hs
        intro ad H locs ls h
        have hu : u0 ≤ st.1 := h.2.2.2.2.2.2
        have hR1 : st.1 + n.toNatClampNeg + 1 - u0 ≤ R.cells := hR.1
        have hR2 : st.1 + n.toNatClampNeg + 1 - u0 ≤ R.slots := hR.2
        refine va_newa (D := G) (cl := vwCl) (tys := ztys tc) (atype := .int) (ty := .int) (a0 := (n.toNatClampNeg, .inl fun _ => 0)) hx hb (hts _ zw_int) rfl hK h.1.1 h.1.2.1 h.1.2.2 hA (fun _ => rfl) hn0 rfl (by simp only [componentBytes]; omega) (by omega) (by omega) hd fun a cA H1 hK1 p1 d1 s1 => ?_
        have ec := zK_ra (ty' := .int) (j := 0) hK1 hK rfl
        subst ec
        obtain ⟨z1, z2⟩ := h.al (u' := st.1 + n.toNatClampNeg + 1) (cell := .inl (n.toNatClampNeg, .inl fun _ => 0)) (by omega) trivial (zall_tl h.sok) p1 d1 s1
        have k2 := k _ H1 locs ls z1
        rw [z2] at k2
        exact W.widen (k := st.1 + n.toNatClampNeg + 1 - u0) (n := st.1 + n.toNatClampNeg + 1 - u0) (by omega) (by omega) k2
      · cases hs
        intro ad H locs ls h
        have hu : u0 ≤ st.1 := h.2.2.2.2.2.2
        have hR1 : st.1 + n.toNatClampNeg + 1 - u0 ≤ R.cells := hR.1
        have hR2 : st.1 + n.toNatClampNeg + 1 - u0 ≤ R.slots := hR.2
        refine va_newa (D := G) (cl := vwCl) (tys := ztys tc) (atype := .long) (ty := .long) (a0 := (n.toNatClampNeg, .inr (.inl fun _ => 0))) hx hb (hts _ zw_long) rfl hK h.1.1 h.1.2.1 h.1.2.2 hA (fun _ => rfl) hn0 rfl (by simp only [componentBytes]; omega) (by omega) (by omega) hd fun a cA H1 hK1 p1 d1 s1 => ?_
        have ec := zK_ra (ty' := .long) (j := 1) hK1 hK rfl
        subst ec
        obtain ⟨z1, z2⟩ := h.al (u' := st.1 + n.toNatClampNeg + 1) (cell := .inl (n.toNatClampNeg, .inr (.inl fun _ => 0))) (by omega) trivial (zall_tl h.sok) p1 d1 s1
        have k2 := k _ H1 locs ls z1
        rw [z2] at k2
        exact W.widen (k := st.1 + n.toNatClampNeg + 1 - u0) (n := st.1 + n.toNatClampNeg + 1 - u0) (by omega) (by omega) k2
      · cases hs
        intro ad H locs ls h
        have hu : u0 ≤ st.1 := h.2.2.2.2.2.2
        have hR1 : st.1 + n.toNatClampNeg + 1 - u0 ≤ R.cells := hR.1
        have hR2 : st.1 + n.toNatClampNeg + 1 - u0 ≤ R.slots := hR.2
        refine va_newa (D := G) (cl := vwCl) (tys := ztys tc) (atype := .double) (ty := .double) (a0 := (n.toNatClampNeg, .inr (.inr (.inr (.inl fun _ => 0))))) hx hb (hts _ zw_dbl) rfl hK h.1.1 h.1.2.1 h.1.2.2 hA (fun _ => rfl) hn0 rfl (by simp only [componentBytes]; omega) (by omega) (by omega) hd fun a cA H1 hK1 p1 d1 s1 => ?_
        have ec := zK_ra (ty' := .double) (j := 2) hK1 hK rfl
        subst ec
        obtain ⟨z1, z2⟩ := h.al (u' := st.1 + n.toNatClampNeg + 1) (cell := .inl (n.toNatClampNeg, .inr (.inr (.inr (.inl fun _ => 0))))) (by omega) trivial (zall_tl h.sok) p1 d1 s1
        have k2 := k _ H1 locs ls z1
        rw [z2] at k2
        exact W.widen (k := st.1 + n.toNatClampNeg + 1 - u0) (n := st.1 + n.toNatClampNeg + 1 - u0) (by omega) (by omega) k2
      · cases hs
  · cases hs
theorem zk_checkcast {idx : Nat} (F : ZEv p l s m args meth c G tc A ad0 X mi) (hd : decode (zby mi) pc = .ok (.checkcast idx, 3)) (hs : zstep X mi (.checkcast idx) pc L S st = some q) (k : ZW p l e R s m args below meth c G tc A ad0 n0 u0 mi Q q.1 q.2.1 q.2.2.1 q.2.2.2) : ZW p l e R s m args below meth c G tc A ad0 n0 u0 mi Q pc L S st := by
  obtain ⟨⟨hx, hb, hml, hown, hts⟩, ⟨hK, hA, hlk, hst, hrt, hin⟩, hco⟩ := F
  simp only [zstep] at hs
  split at hs
  · rename_i a S'
    cases hf : zKL.lookup (zoc mi, idx) with
    | none => rw [hf] at hs; cases hs
    | some ci =>
      rw [hf] at hs
      simp only [Option.bind_some] at hs
      split at hs
      · rename_i hi
        cases hs
        obtain ⟨fs, v, h1, h2⟩ := zis_inv hi
        obtain ⟨r, hr, hl⟩ := zK_ok hf
        intro ad H locs ls h
        exact va_castS (cC := G.1 ci) hx hb hown (hts _ hl) (hK.1 ci r hr).2 (va_recv hK h.1.1 hr (zws_at (zge3 h.2.1.2 h1 h2) h1)) hd (k ad H locs ls h)
      · cases hs
  · rename_i S'
    cases hs
    intro ad H locs ls h
    exact lv_castN hx hb hd (k ad H locs ls h)
  · cases hs
end ZJ
