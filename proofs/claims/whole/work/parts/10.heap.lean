/-! instructions that read or write the heap -/
theorem zget_inv {st : ZS} {a ci k : Nat} {v : Value} (h : zget st a ci k = some v) : ∃ fs, st.2[a]? = some (.inr (ci, fs)) ∧ fs[k]? = some v := by
  unfold zget at h
  split at h
  · rename_i o ho
    by_cases c : o.1 = ci
    · rw [if_pos c] at h
      subst c
      exact ⟨o.2, ho, h⟩
    · rw [if_neg c] at h; cases h
  · cases h
theorem zput_eq {st : ZS} {a k ci : Nat} {fs : List Value} {v : Value} (h : st.2[a]? = some (.inr (ci, fs))) : zput st a k v = (st.1, st.2.set a (.inr (ci, fs.set k v))) := by
  unfold zput
  rw [h]
theorem zarr_inv {st : ZS} {a : Nat} {x : Nat × ZA} (h : zarr st a = some x) : st.2[a]? = some (.inl x) := by
  unfold zarr at h
  split at h
  · rename_i y hy
    cases h; exact hy
  · cases h
theorem zge3 {h : List ZC} {a ci k : Nat} {fs : List Value} {v : Value} (hz : zspc h) (h1 : h[a]? = some (.inr (ci, fs))) (h2 : fs[k]? = some v) : 3 ≤ a := by
  by_cases c : a < 3
  · have e := (hz.2 a c).symm.trans h1
    cases e
    cases h2
  · omega
theorem zge3a {h : List ZC} {a : Nat} {x : Nat × ZA} (hz : zspc h) (h1 : h[a]? = some (.inl x)) : 3 ≤ a := by
  by_cases c : a < 3
  · have e := (hz.2 a c).symm.trans h1
    cases e
  · omega
theorem zix_inv {i : Int32} {n j : Nat} (h : zix i n = some j) : vp_in i n ∧ j = i.toNatClampNeg := by
  unfold zix at h
  by_cases c : i < 0 ∨ n ≤ i.toNatClampNeg
  · rw [if_pos c] at h; cases h
  · rw [if_neg c] at h; exact ⟨c, (Option.some.inj h).symm⟩
def ztm (t : Nat) (ty : FieldType) : Bool := match t with
  | 0 => decide (ty = .int)
  | 1 => decide (ty = .float)
  | 2 => zref ty
  | _ => false
theorem zfits_ok {t : Nat} {v : Value} {ty : FieldType} {ad : Nat → Nat} (h : zfits t v = true) (ht : ztm t ty = true) : narrow ty (zcv ad v) = zcv ad v ∧ fits ty (zcv ad v) = true := by
  match t, v, h with
  | 0, .int x, _ => have e := of_decide_eq_true ht; subst e; exact ⟨rfl, rfl⟩
  | 1, .float x, _ => have e := of_decide_eq_true ht; subst e; exact ⟨rfl, rfl⟩
  | 2, .ref x, _ => cases ty <;> first | (cases ht; done) | exact ⟨rfl, rfl⟩
  | 2, .null, _ => cases ty <;> first | (cases ht; done) | exact ⟨rfl, rfl⟩
section ZH
variable {p : Program} {l : Launch} {e : Env} {R : Room} {s : State} {m : MethodId} {args : Array Value} {below : List Frame} {meth : Method} {c : Code} {G : va_G} {tc : Nat → ClassId} {A : Nat → Prop} {ad0 : Nat → Nat} {n0 u0 mi : Nat} {Q : State → Prop} {X : ZX} {pc : Nat} {L S : List Value} {st : ZS} {q : ZQ}
/-- the same place with another cell at a -/
theorem ZPt.wr {ad : Nat → Nat} {H H1 : Heap} {locs locs1 : List Loc} {ls : Array Slot} {a : Nat} {cell : ZC} {S' : List Value} (h : ZPt G tc A s ad0 n0 u0 (zml mi) ad st L S H locs ls) (ha : 3 ≤ a) (hl : a < st.2.length) (hc : zcok st.2.length cell) (hS : ∀ v ∈ S', zvok st.2.length v)
    (hP : va_P G vwCl ((zws tc ad st.2).set (a - 3) (ad a, zce tc ad cell)) H1) (hD : va_D A ((zws tc ad st.2).set (a - 3) (ad a, zce tc ad cell))) (hH : va_S A s.heap H1 locs1) : ZPt G tc A s ad0 n0 u0 (zml mi) ad (st.1, st.2.set a cell) L S' H1 locs1 ls := by
  rw [← zws_set cell ha hl] at hP hD
  refine ⟨⟨hP, hD, hH⟩, ⟨zhok_set h.2.1.1 hc, zspc_set h.2.1.2 ha⟩, ⟨h.zl, ?_, ?_⟩, ?_⟩
  · intro v hv; rw [List.length_set]; exact h.lok v hv
  · intro v hv; rw [List.length_set]; exact hS v hv
  · obtain ⟨g1, g2, g3, g4⟩ := h.2.2.2
    exact ⟨g1, by rw [List.length_set]; exact g2, g3, g4⟩
theorem zk_getfield {idx : Nat} (F : ZEv p l s m args meth c G tc A ad0 X mi) (hd : decode (zby mi) pc = .ok (.getfield idx, 3)) (hs : zstep X mi (.getfield idx) pc L S st = some q) (k : ZW p l e R s m args below meth c G tc A ad0 n0 u0 mi Q q.1 q.2.1 q.2.2.1 q.2.2.2) : ZW p l e R s m args below meth c G tc A ad0 n0 u0 mi Q pc L S st := by
  obtain ⟨⟨hx, hb, hml, hown, hts⟩, ⟨hK, hA, hlk, hst, hrt, hin⟩, hco⟩ := F
  simp only [zstep] at hs
  split at hs
  · rename_i a S'
    cases hf : zFL.lookup (zoc mi, idx) with
    | none => rw [hf] at hs; cases hs
    | some ck =>
      rw [hf] at hs
      obtain ⟨ci, kk⟩ := ck
      simp only [Option.bind_some] at hs
      cases hg : zget st a ci kk with
      | none => rw [hg] at hs; cases hs
      | some v =>
        rw [hg] at hs
        cases hs
        obtain ⟨fs, hfs, hv⟩ := zget_inv hg
        obtain ⟨r, ref, hr, hk, hl, hsm⟩ := zF_ok hf
        intro ad H locs ls h
        have ha := zge3 h.2.1.2 hfs hv
        have hvk : zvok st.2.length v := h.2.1.1 _ (List.mem_of_getElem? hfs) v (List.mem_of_getElem? hv)
        exact va_get (D := G) (cl := vwCl) (tys := ztys tc) (C := r.1) (T := r.2.1) (N := r.2.2) (v := zcv ad v) hx hb hts (zcl_ok ci r hr).1 hown hK h.1.1 (a - 3) (zws_at ha hfs) hr kk hk (hts _ hl) (fun x hx9 => by
          rcases hsm with e | e
          · rw [e]; exact hx9
          · exact u_same (hts _ e) x hx9) (by rw [List.getElem?_map, hv]; rfl) hd (k ad H locs ls (h.stk (zall_cons hvk (zall_tl h.sok))))
  · cases hs
theorem zk_putfield {idx : Nat} (F : ZEv p l s m args meth c G tc A ad0 X mi) (hd : decode (zby mi) pc = .ok (.putfield idx, 3)) (hs : zstep X mi (.putfield idx) pc L S st = some q) (k : ZW p l e R s m args below meth c G tc A ad0 n0 u0 mi Q q.1 q.2.1 q.2.2.1 q.2.2.2) : ZW p l e R s m args below meth c G tc A ad0 n0 u0 mi Q pc L S st := by
  obtain ⟨⟨hx, hb, hml, hown, hts⟩, ⟨hK, hA, hlk, hst, hrt, hin⟩, hco⟩ := F
  simp only [zstep] at hs
  split at hs
  · rename_i w a S'
    cases hf : zFL.lookup (zoc mi, idx) with
    | none => rw [hf] at hs; cases hs
    | some ck =>
      rw [hf] at hs
      obtain ⟨ci, kk⟩ := ck
      simp only [Option.bind_some] at hs
      cases hg : zget st a ci kk with
      | none => rw [hg] at hs; cases hs
      | some v =>
        rw [hg] at hs
        simp only [Option.bind_some] at hs
        split at hs
        · rename_i hc
          cases hs
          obtain ⟨fs, hfs, hv⟩ := zget_inv hg
          obtain ⟨r, ref, hr, hk, hl, hsm⟩ := zF_ok hf
          obtain ⟨hus, ty0, hty, hnm, htc⟩ := zcl_ok ci r hr
          unfold zTc at htc
          rw [Bool.and_eq_true] at htc
          have ht := List.all_eq_true.mp htc.2 kk (List.mem_range.mpr hk)
          simp only [Bool.and_eq_true] at ht
          obtain ⟨t1, t2, t3, t4⟩ := ht
          intro ad H locs ls h
          have ha := zge3 h.2.1.2 hfs hv
          have hal : a < st.2.length := (List.getElem?_eq_some_iff.mp hfs).1
          have hkl : kk < fs.length := (List.getElem?_eq_some_iff.mp hv).1
          obtain ⟨n1, n2⟩ := zfits_ok (ad := ad) (ty := ty0 kk) hc.1 t4
          have hsame : ∀ x, s.fieldFound? (r.2.1 kk).1 (r.2.1 kk).2.1 (r.2.1 kk).2.2.1 = some x → s.fieldFound? ref (r.2.1 kk).2.1 (r.2.1 kk).2.2.1 = some x := fun x hx9 => by
            rcases hsm with e | e
            · rw [e]; exact hx9
            · exact u_same (hts _ e) x hx9
          have hgo : ∀ (H1 : Heap) (locs1 : List Loc), va_P G vwCl ((zws tc ad st.2).set (a - 3) (ad a, .inr (ci, (fs.map (zcv ad)).set kk (zcv ad w)))) H1 → va_D A ((zws tc ad st.2).set (a - 3) (ad a, .inr (ci, (fs.map (zcv ad)).set kk (zcv ad w)))) → va_S A s.heap H1 locs1 → W p l e R s m args below meth c H1 locs1 (st.1 - u0) (st.1 - u0) Q (F0 m (pc + 3) ls (S'.map (zcv ad))) := by
            intro H1 locs1 p1 d1 s1
            rw [← List.map_set] at p1 d1
            have hwk : zvok st.2.length w := zall_hd h.sok
            have hck : zcok st.2.length (.inr (ci, fs.set kk w)) := by
              intro x hx9
              rcases List.mem_or_eq_of_mem_set hx9 with e | e
              · exact h.2.1.1 _ (List.mem_of_getElem? hfs) x e
              · rw [e]; exact hwk
            have hz := h.wr (S' := S') ha hal hck (zall_tl (zall_tl h.sok)) p1 d1 s1
            have k2 := k ad H1 locs1 ls
            rw [zput_eq hfs] at k2
            exact k2 hz
          by_cases hfin : (r.2.1 kk).2.2.2 = true
          · have hi : (znm mi).name = "<init>" ∧ zvi (zoc mi) = ci := by
              rcases hc.2 with e | e
              · rw [of_decide_eq_true t1] at e; rw [e] at hfin; cases hfin
              · exact e
            have hdl : (r.2.1 kk).1 = zow (zoc mi) := by
              rw [Bool.or_eq_true] at t2
              rcases t2 with e | e
              · rw [hfin] at e; cases e
              · rw [of_decide_eq_true e, zvi_ok hi.2 hr]
            exact va_putF (D := G) (cl := vwCl) (tys := ztys tc) (C := r.1) (T := r.2.1) (N := r.2.2) (v := zcv ad w) hx hb hts hus ty0 hty hnm hown hK h.1.1 h.1.2.1 h.1.2.2 (a - 3) (zws_at ha hfs) hr kk hk (hts _ hl) hsame hfin (hin hi.1) hdl (hty kk hk) n1 n2 (by rw [List.length_map]; exact hkl) hd hgo
          · have hfin : (r.2.1 kk).2.2.2 = false := by cases hq : (r.2.1 kk).2.2.2 with | true => exact absurd hq hfin | false => rfl
            exact va_put (D := G) (cl := vwCl) (tys := ztys tc) (C := r.1) (T := r.2.1) (N := r.2.2) (v := zcv ad w) hx hb hts hus ty0 hty hnm hown hK h.1.1 h.1.2.1 h.1.2.2 (a - 3) (zws_at ha hfs) hr kk hk (hts _ hl) hsame hfin (hty kk hk) n1 n2 (by rw [List.length_map]; exact hkl) hd hgo
        · cases hs
  · cases hs
theorem zk_iaload (F : ZEv p l s m args meth c G tc A ad0 X mi) (hn1 : 1 < n0) (hd : decode (zby mi) pc = .ok (.iaload, 1)) (hs : zstep X mi .iaload pc L S st = some q) (k : ZW p l e R s m args below meth c G tc A ad0 n0 u0 mi Q q.1 q.2.1 q.2.2.1 q.2.2.2) : ZW p l e R s m args below meth c G tc A ad0 n0 u0 mi Q pc L S st := by
  obtain ⟨⟨hx, hb, hml, hown, hts⟩, ⟨hK, hA, hlk, hst, hrt, hin⟩, ⟨⟨hc1, ⟨hX, hbl, hbA⟩, hc3⟩, hcv⟩⟩ := F
  simp only [zstep] at hs
  split at hs
  · rename_i i a S'
    split at hs
    · rename_i e1
      subst e1
      cases hj : zix i X.1 with
      | none => rw [hj] at hs; cases hs
      | some j =>
        rw [hj] at hs
        cases hs
        obtain ⟨hv, rfl⟩ := zix_inv hj
        intro ad H locs ls h
        have ea : ad 1 = ad0 1 := h.2.2.2.1 1 hn1
        have k2 := k ad H locs ls (h.stk (zall_cons zvok_int (zall_tl (zall_tl h.sok))))
        show W p l e R s m args below meth c H locs (st.1 - u0) (st.1 - u0) Q (F0 m pc ls (.int i :: .ref (ad 1) :: S'.map (zcv ad)))
        rw [ea]
        exact va_sld hx hb hX hbl hbA h.1.2.2 hv hd k2
    · split at hs
      · rename_i n f hq
        cases hj : zix i n with
        | none => rw [hj] at hs; cases hs
        | some j =>
          rw [hj] at hs
          cases hs
          obtain ⟨hv, rfl⟩ := zix_inv hj
          intro ad H locs ls h
          have hc := zarr_inv hq
          exact va_iald (D := G) (cl := vwCl) (tys := ztys tc) hx hb hK h.1.1 (a - 3) 0 (zws_at (zge3a h.2.1.2 hc) hc) rfl hv hd (k ad H locs ls (h.stk (zall_cons zvok_int (zall_tl (zall_tl h.sok)))))
      · cases hs
  · cases hs
theorem zk_laload (F : ZEv p l s m args meth c G tc A ad0 X mi) (hd : decode (zby mi) pc = .ok (.laload, 1)) (hs : zstep X mi .laload pc L S st = some q) (k : ZW p l e R s m args below meth c G tc A ad0 n0 u0 mi Q q.1 q.2.1 q.2.2.1 q.2.2.2) : ZW p l e R s m args below meth c G tc A ad0 n0 u0 mi Q pc L S st := by
  obtain ⟨⟨hx, hb, hml, hown, hts⟩, ⟨hK, hA, hlk, hst, hrt, hin⟩, hco⟩ := F
  simp only [zstep] at hs
  split at hs
  · rename_i i a S'
    split at hs
    · rename_i n f hq
      cases hj : zix i n with
      | none => rw [hj] at hs; cases hs
      | some j =>
        rw [hj] at hs
        cases hs
        obtain ⟨hv, rfl⟩ := zix_inv hj
        intro ad H locs ls h
        have hc := zarr_inv hq
        exact va_lald (D := G) (cl := vwCl) (tys := ztys tc) hx hb hK h.1.1 (a - 3) 1 (zws_at (zge3a h.2.1.2 hc) hc) rfl hv hd (k ad H locs ls (h.stk (zall_cons zvok_long (zall_tl (zall_tl h.sok)))))
    · cases hs
  · cases hs
theorem zk_daload (F : ZEv p l s m args meth c G tc A ad0 X mi) (hd : decode (zby mi) pc = .ok (.daload, 1)) (hs : zstep X mi .daload pc L S st = some q) (k : ZW p l e R s m args below meth c G tc A ad0 n0 u0 mi Q q.1 q.2.1 q.2.2.1 q.2.2.2) : ZW p l e R s m args below meth c G tc A ad0 n0 u0 mi Q pc L S st := by
  obtain ⟨⟨hx, hb, hml, hown, hts⟩, ⟨hK, hA, hlk, hst, hrt, hin⟩, hco⟩ := F
  simp only [zstep] at hs
  split at hs
  · rename_i i a S'
    split at hs
    · rename_i n f hq
      cases hj : zix i n with
      | none => rw [hj] at hs; cases hs
      | some j =>
        rw [hj] at hs
        cases hs
        obtain ⟨hv, rfl⟩ := zix_inv hj
        intro ad H locs ls h
        have hc := zarr_inv hq
        exact va_dald (D := G) (cl := vwCl) (tys := ztys tc) hx hb hK h.1.1 (a - 3) 2 (zws_at (zge3a h.2.1.2 hc) hc) rfl hv hd (k ad H locs ls (h.stk (zall_cons zvok_double (zall_tl (zall_tl h.sok)))))
    · cases hs
  · cases hs
theorem zcv_rf {ad : Nat → Nat} {r : Option Nat} : zcv ad (va_rf r) = va_rf (r.map ad) := by cases r <;> rfl
theorem zk_aaload (F : ZEv p l s m args meth c G tc A ad0 X mi) (hd : decode (zby mi) pc = .ok (.aaload, 1)) (hs : zstep X mi .aaload pc L S st = some q) (k : ZW p l e R s m args below meth c G tc A ad0 n0 u0 mi Q q.1 q.2.1 q.2.2.1 q.2.2.2) : ZW p l e R s m args below meth c G tc A ad0 n0 u0 mi Q pc L S st := by
  obtain ⟨⟨hx, hb, hml, hown, hts⟩, ⟨hK, hA, hlk, hst, hrt, hin⟩, hco⟩ := F
  simp only [zstep] at hs
  split at hs
  · rename_i i a S'
    split at hs
    · rename_i n f hq
      cases hj : zix i n with
      | none => rw [hj] at hs; cases hs
      | some j =>
        rw [hj] at hs
        cases hs
        obtain ⟨hv, rfl⟩ := zix_inv hj
        intro ad H locs ls h
        have hc := zarr_inv hq
        have hk : zvok st.2.length (va_rf (f i.toNatClampNeg)) := by
          intro y e
          cases hy : f i.toNatClampNeg with
          | none => rw [hy] at e; cases e
          | some w =>
            rw [hy] at e
            cases e
            exact h.2.1.1 _ (List.mem_of_getElem? hc) _ _ hy
        have k2 := k ad H locs ls (h.stk (zall_cons hk (zall_tl (zall_tl h.sok))))
        rw [List.map_cons, zcv_rf] at k2
        exact va_aldq (D := G) (cl := vwCl) (tys := ztys tc) (f := fun i => (f i).map ad) hx hb hK h.1.1 (a - 3) 3 (zws_at (zge3a h.2.1.2 hc) hc) rfl hv hd k2
    · cases hs
  · cases hs
theorem zk_iastore (F : ZEv p l s m args meth c G tc A ad0 X mi) (hd : decode (zby mi) pc = .ok (.iastore, 1)) (hs : zstep X mi .iastore pc L S st = some q) (k : ZW p l e R s m args below meth c G tc A ad0 n0 u0 mi Q q.1 q.2.1 q.2.2.1 q.2.2.2) : ZW p l e R s m args below meth c G tc A ad0 n0 u0 mi Q pc L S st := by
  obtain ⟨⟨hx, hb, hml, hown, hts⟩, ⟨hK, hA, hlk, hst, hrt, hin⟩, hco⟩ := F
  simp only [zstep] at hs
  split at hs
  · rename_i x i a S'
    split at hs
    · rename_i n f hq
      cases hj : zix i n with
      | none => rw [hj] at hs; cases hs
      | some j =>
        rw [hj] at hs
        cases hs
        obtain ⟨hv, rfl⟩ := zix_inv hj
        intro ad H locs ls h
        have hc := zarr_inv hq
        have ha := zge3a h.2.1.2 hc
        exact va_iast (D := G) (cl := vwCl) (tys := ztys tc) hx hb hK h.1.1 h.1.2.1 h.1.2.2 (a - 3) 0 (zws_at ha hc) rfl hv hd fun H1 locs1 p1 d1 s1 => k ad H1 locs1 ls (h.wr (cell := .inl (n, .inl (upd f i.toNatClampNeg x))) ha (List.getElem?_eq_some_iff.mp hc).1 trivial (zall_tl (zall_tl (zall_tl h.sok))) p1 d1 s1)
    · cases hs
  · cases hs
theorem zk_lastore (F : ZEv p l s m args meth c G tc A ad0 X mi) (hd : decode (zby mi) pc = .ok (.lastore, 1)) (hs : zstep X mi .lastore pc L S st = some q) (k : ZW p l e R s m args below meth c G tc A ad0 n0 u0 mi Q q.1 q.2.1 q.2.2.1 q.2.2.2) : ZW p l e R s m args below meth c G tc A ad0 n0 u0 mi Q pc L S st := by
  obtain ⟨⟨hx, hb, hml, hown, hts⟩, ⟨hK, hA, hlk, hst, hrt, hin⟩, hco⟩ := F
  simp only [zstep] at hs
  split at hs
  · rename_i x i a S'
    split at hs
    · rename_i n f hq
      cases hj : zix i n with
      | none => rw [hj] at hs; cases hs
      | some j =>
        rw [hj] at hs
        cases hs
        obtain ⟨hv, rfl⟩ := zix_inv hj
        intro ad H locs ls h
        have hc := zarr_inv hq
        have ha := zge3a h.2.1.2 hc
        exact va_last (D := G) (cl := vwCl) (tys := ztys tc) hx hb hK h.1.1 h.1.2.1 h.1.2.2 (a - 3) 1 (zws_at ha hc) rfl hv hd fun H1 locs1 p1 d1 s1 => k ad H1 locs1 ls (h.wr (cell := .inl (n, .inr (.inl (vp_updL f i.toNatClampNeg x)))) ha (List.getElem?_eq_some_iff.mp hc).1 trivial (zall_tl (zall_tl (zall_tl h.sok))) p1 d1 s1)
    · cases hs
  · cases hs
theorem zk_dastore (F : ZEv p l s m args meth c G tc A ad0 X mi) (hd : decode (zby mi) pc = .ok (.dastore, 1)) (hs : zstep X mi .dastore pc L S st = some q) (k : ZW p l e R s m args below meth c G tc A ad0 n0 u0 mi Q q.1 q.2.1 q.2.2.1 q.2.2.2) : ZW p l e R s m args below meth c G tc A ad0 n0 u0 mi Q pc L S st := by
  obtain ⟨⟨hx, hb, hml, hown, hts⟩, ⟨hK, hA, hlk, hst, hrt, hin⟩, hco⟩ := F
  simp only [zstep] at hs
  split at hs
  · rename_i x i a S'
    split at hs
    · rename_i n f hq
      cases hj : zix i n with
      | none => rw [hj] at hs; cases hs
      | some j =>
        rw [hj] at hs
        cases hs
        obtain ⟨hv, rfl⟩ := zix_inv hj
        intro ad H locs ls h
        have hc := zarr_inv hq
        have ha := zge3a h.2.1.2 hc
        exact va_dast (D := G) (cl := vwCl) (tys := ztys tc) hx hb hK h.1.1 h.1.2.1 h.1.2.2 (a - 3) 2 (zws_at ha hc) rfl hv hd fun H1 locs1 p1 d1 s1 => k ad H1 locs1 ls (h.wr (cell := .inl (n, .inr (.inr (.inr (.inl (vf_upd f i.toNatClampNeg x)))))) ha (List.getElem?_eq_some_iff.mp hc).1 trivial (zall_tl (zall_tl (zall_tl h.sok))) p1 d1 s1)
    · cases hs
  · cases hs
end ZH
