/-! the entry of a method; all calls meet their contracts -/
theorem zm_all : zML.all (fun x => plainName x.1.cls && decide (x.1.cls = zow x.2.2.2.2.1)) = true := by decide +kernel
theorem zm_ok (y : Nat) : plainName (znm y).cls = true ∧ (znm y).cls = zow (zoc y) := by
  unfold znm zoc zm
  rcases Nat.lt_or_ge y zML.length with h | h
  · rw [List.getD_eq_getElem?_getD, List.getElem?_eq_getElem h]
    have h1 := List.all_eq_true.mp zm_all _ (List.getElem_mem h)
    rw [Bool.and_eq_true] at h1
    exact ⟨h1.1, of_decide_eq_true h1.2⟩
  · rw [List.getD_eq_getElem?_getD, List.getElem?_eq_none h]
    exact ⟨by decide +kernel, by decide +kernel⟩
theorem zlva : ∀ (vs : List Value) (i j : Nat) (v : Value), vs.all zc1 = true → vs[j]? = some v → (i + j, v) ∈ lv_args i vs
  | [], _, _, _, _, h => by cases h
  | x :: vs, i, j, v, hc, h => by
    rw [List.all_cons, Bool.and_eq_true] at hc
    have hx : ¬ x.category = 2 := by have := of_decide_eq_true hc.1; omega
    unfold lv_args
    rw [if_neg hx]
    cases j with
    | zero => cases h; exact List.mem_cons_self
    | succ j =>
      have := zlva vs (i + 1) j v hc.2 h
      rw [show i + (j + 1) = i + 1 + j by omega]
      exact List.mem_cons_of_mem _ this
theorem zlgs : ∀ (vs : List Value), vs.all zc1 = true → (lg_sl vs).length = vs.length
  | [], _ => rfl
  | x :: vs, hc => by
    rw [List.all_cons, Bool.and_eq_true] at hc
    have hx : ¬ x.category = 2 := by have := of_decide_eq_true hc.1; omega
    have ih := zlgs vs hc.2
    unfold lg_sl at ih ⊢
    rw [List.flatMap_cons, if_neg hx, List.length_append, ih]
    simp only [List.length_cons, List.length_nil]
    omega
theorem zentry {ad : Nat → Nat} {y : Nat} {as : List Value} (m : MethodId) (hc : as.all zc1 = true) (hl : as.length ≤ zml y) : ∃ ls, entryFrame m (as.map (zcv ad)).toArray (zml y) = F0 m 0 ls [] ∧ ZL ad (zml y) (zini y as) ls := by
  have hc2 : (as.map (zcv ad)).all zc1 = true := by
    rw [List.all_map]
    refine List.all_eq_true.mpr fun v hv => ?_
    have := List.all_eq_true.mp hc v hv
    show decide ((zcv ad v).category = 1) = true
    rw [zcv_cat]
    exact this
  have hlen : (lg_sl (as.map (zcv ad))).length ≤ zml y := by rw [zlgs _ hc2, List.length_map]; exact hl
  refine ⟨_, lg_entry_eq m _ _, ?_⟩
  obtain ⟨h1, h2, h3⟩ := lv_entry (as.map (zcv ad)) hlen
  refine ⟨by unfold zini; rw [List.length_append, List.length_replicate]; omega, h1, h2, ?_⟩
  rintro ⟨j, w⟩ hq
  obtain ⟨v, q1, q2, q3⟩ := zlv_mem.mp hq
  dsimp only at q1 q2 q3
  refine h3 (j, w) ?_
  unfold zini at q1
  rcases Nat.lt_or_ge j as.length with a | a
  · rw [List.getElem?_append_left a] at q1
    have := zlva (as.map (zcv ad)) 0 j w hc2 (by rw [List.getElem?_map, q1, q3]; rfl)
    rw [Nat.zero_add] at this
    exact this
  · rw [List.getElem?_append_right a] at q1
    have hv := List.mem_of_getElem? q1
    rw [(List.mem_replicate.mp hv).2] at q2
    cases q2
theorem zct {l : Launch} {G : va_G} {tc : Nat → ClassId} {X : ZX} (hst : l.stackTraces = false) {n : Nat} : ∀ (d y : Nat) (as : List Value) (st : ZS) (r : ZR), acall X n d y as st = some r → zml y ≤ 12 ∧ ∃ d', d = d' + 1 ∧ ZCt l G tc X d' y as st r := by
  intro d
  induction d with
  | zero => intro y as st r h; cases h
  | succ d ih =>
    intro y as st r h
    have hu := acall_u _ _ _ _ _ h
    unfold acall at h
    by_cases c0 : (as.length ≤ zml y ∧ zml y ≤ 12) ∧ as.all zc1 = true
    · rw [if_pos c0] at h
      refine ⟨c0.1.2, d, rfl, ?_⟩
      intro ad sz hok hspc hasok
      obtain ⟨hpl, hcn⟩ := zm_ok y
      have body : ∀ (p : Program) (e : Env) (s : State) (m : MethodId) (args : Array Value) (below : List Frame) (meth : Method) (c : Code) (s₁ : State), BodyLoose p l (znm y) (headSpec (zwo y) (zrm d (r.2.1 - st.1))) (zby y) (zml y) (zrt y) e s m args below meth c s₁ → c.maxLocals = zml y → c.exceptionTable.toList.map (fun h => (h.startPc, h.endPc, h.handlerPc, h.catchType)) = zhh y → va_Pc (as.map (zcv ad)) (fun U => U.heap.size = sz ∧ ZPre G tc ad X st (va_A (zws tc ad st.2) sz) U) args s →
          W p l e (zrm d (r.2.1 - st.1)) s m args below meth c s.heap [] 0 0 (vx_MQ below (zQ G tc ad st r (va_A (zws tc ad st.2) sz)) (zXo G tc ad st r (va_A (zws tc ad st.2) sz)) args s (r.2.1 - st.1) (r.2.1 - st.1) (va_A (zws tc ad st.2) sz)) (entryFrame m args (zml y)) := by
        intro p e s m args below meth c s₁ B hml htab hv
        obtain ⟨rfl, hsz, hP, hK, hD, hch, hcv⟩ := hv
        have hts := atoms_spec (ws := zwo y) B.pre
        have hD2 : va_D (va_A (zws tc ad st.2) sz) (zws tc ad st.2) := hD.self
        obtain ⟨ls, he, hzl⟩ := zentry (ad := ad) m c0.2 c0.1.1
        rw [he]
        have hF : ZEv p l s m (as.map (zcv ad)).toArray meth c G tc (va_A (zws tc ad st.2) sz) ad X y := by
          refine ⟨⟨B.exec, B.bytes, hml, by rw [← hcn]; exact findClass_of_methodNamed B.named, fun w hw => hts w (List.mem_cons_of_mem _ hw)⟩, ⟨hK, fun q hq => Or.inr (by rw [← hsz]; exact hq), B.notSynchronized, hst, B.returns, fun e9 => ?_⟩, hch, hcv⟩
          rw [(name_of_methodNamed B.named B.method).1]
          exact e9
        have hsim := zsim (R := zrm d (r.2.1 - st.1)) (e := e) (below := below) (n0 := st.2.length) (u0 := st.1) (Q := vx_MQ below (zQ G tc ad st r (va_A (zws tc ad st.2) sz)) (zXo G tc ad st r (va_A (zws tc ad st.2) sz)) (as.map (zcv ad)).toArray s (r.2.1 - st.1) (r.2.1 - st.1) (va_A (zws tc ad st.2) sz)) hF (fun _ => htab) (by have := hspc.1; omega) rfl (Nat.le_refl _) ⟨Nat.le_refl _, Nat.le_refl _⟩ (acall_u d) ih
          (fun pc i len L S st' hd hl hf => zend (u1 := st) hF htab rfl (Nat.le_refl _) ⟨Nat.le_refl _, Nat.le_refl _⟩ hd hl hf rfl rfl rfl) ?_ n 0 (zini y as) [] st h
        · have := hsim ad s.heap [] ls ⟨⟨hP, hD2, va_S.rf⟩, ⟨hok, hspc⟩, ⟨hzl, ?_, fun v hv => absurd hv List.not_mem_nil⟩, ⟨fun k _ => rfl, Nat.le_refl _, hspc.1, Nat.le_refl _⟩⟩
          · rw [Nat.sub_self] at this
            exact this
          · intro v hv
            rcases List.mem_append.mp hv with z | z
            · exact hasok v z
            · rw [(List.mem_replicate.mp z).2]; exact zvok_junk
        · intro pc L st' E hh hr ad' H locs ls' q ce rest h hce hcve hcl
          have hout : ∀ x ∈ c.exceptionTable.toList, covers x pc = false := by
            intro x hx9
            have : (x.startPc, x.endPc, x.handlerPc, x.catchType) ∈ zhh y := by rw [← htab]; exact List.mem_map.mpr ⟨x, hx9, rfl⟩
            rw [hh] at this
            exact absurd this List.not_mem_nil
          have e1 : r.2.1 = st'.1 := by rw [hr]
          have e2 : r.2 = st' := by rw [hr]
          obtain ⟨g1, g2, g3, g4⟩ := h.2.2.2
          refine vx_out hout B.notSynchronized hce hcve hcl (fun t ht hal => ?_) h.1.2.2.2.2 (by omega) (by omega)
          refine ⟨⟨ad', by rw [hr], ?_⟩, h.1.2.2.F ht⟩
          rw [e2]
          exact ⟨g1, by rw [ht]; exact h.1.1, h.1.2.1, h.2.1, g2⟩
      by_cases hh : zhh y = []
      · have hcw : zwo y = .code (znm y) (zby y) (zml y) (zrt y) :: zgw := by unfold zwo; rw [zcw_of hh]
        exact vx_ofW hpl hcw fun p e s m args below meth c s₁ B hml htab hv => body p e s m args below meth c s₁ B hml (by
          rw [hh]
          cases hq : c.exceptionTable.toList with
          | nil => rfl
          | cons x xs => exact (htab x (by rw [hq]; exact List.mem_cons_self)).elim) hv
      · have hcw : zwo y = .codeWith (znm y) (zby y) (zml y) (zrt y) (zhh y) :: zgw := by unfold zwo; rw [zcw_ne hh]
        exact vx_ofWH hpl hcw fun p e s m args below meth c s₁ B hml hv => body p e s m args below meth c s₁ B hml (by
          obtain ⟨m9, meth9, c9, hn9, h1, h2, h3, h4, h7, h5, h6, -⟩ := Cond.codeWith_spec (atoms_spec (ws := zwo y) B.pre _ (by rw [hcw]; exact List.mem_cons_self))
          cases Option.some.inj (hn9.symm.trans B.named)
          cases Option.some.inj (h1.symm.trans B.method)
          cases Option.some.inj (h2.symm.trans (Stand.of_body B).code)
          exact h7) hv
    · rw [if_neg c0] at h; cases h
