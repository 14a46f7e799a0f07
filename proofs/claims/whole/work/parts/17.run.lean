/-! a whole run of a method -/
theorem zfin_u {d mi pc : Nat} {i : Instr} {S : List Value} {st : ZS} {r : ZR} (h : zfin d mi i pc S st = some r) : st.1 ≤ r.2.1 := by
  cases i <;> simp only [zfin] at h <;> (repeat' split at h) <;>
    first
      | (cases h; done)
      | (cases h; exact Nat.le_refl _)
      | skip
  rename_i hz
  cases hq : zthr mi _ pc with
  | none => rw [hq] at h; cases h
  | some E => rw [hq] at h; cases h; show st.1 ≤ st.1 + 7; omega
theorem arun_u {X : ZX} {d mi : Nat} {call : Nat → List Value → ZS → Option ZR} (hc : ∀ y a s r, call y a s = some r → s.1 ≤ r.2.1) : ∀ (k pc : Nat) (L S : List Value) (st : ZS) (r : ZR), arun X d call mi k pc L S st = some r → st.1 ≤ r.2.1 := by
  intro k
  induction k with
  | zero => intro pc L S st r h; cases h
  | succ k ih =>
    intro pc L S st r h
    rw [arun_s] at h
    unfold abod at h
    cases hd : decode (zby mi) pc with
    | error e => rw [hd] at h; cases h
    | ok il =>
      rw [hd] at h
      dsimp only at h
      by_cases hl : zlok il.1 il.2 = false
      · rw [if_pos hl] at h; cases h
      · rw [if_neg hl] at h
        cases hs : zstep X mi il.1 pc L S st with
        | some q => rw [hs] at h; exact Nat.le_trans (zstep_uq q hs) (ih _ _ _ _ _ h)
        | none =>
          rw [hs] at h
          dsimp only at h
          cases hf : zfin d mi il.1 pc S st with
          | some q => rw [hf] at h; cases h; exact zfin_u hf
          | none =>
            rw [hf] at h
            dsimp only at h
            cases hz : zcal mi il.1 S st with
            | none => rw [hz] at h; cases h
            | some c =>
              rw [hz] at h
              dsimp only at h
              cases hq : call c.1 c.2.1 st with
              | none => rw [hq] at h; cases h
              | some w =>
                rw [hq] at h
                have hw := hc _ _ _ _ hq
                obtain ⟨o, st'⟩ := w
                cases o with
                | inl v => exact Nat.le_trans hw (ih _ _ _ _ _ h)
                | inr E =>
                  dsimp only at h
                  cases hh : zhnd mi pc E with
                  | none =>
                    rw [hh] at h
                    dsimp only at h
                    by_cases hg : zhh mi = []
                    · rw [if_pos hg] at h; cases h; exact hw
                    · rw [if_neg hg] at h; cases h
                  | some g =>
                    rw [hh] at h
                    dsimp only at h
                    by_cases hg : g.2.1 < L.length
                    · rw [if_pos hg] at h; exact Nat.le_trans hw (ih _ _ _ _ _ h)
                    · rw [if_neg hg] at h; cases h
theorem acall_u {X : ZX} {n : Nat} : ∀ (d y : Nat) (a : List Value) (s : ZS) (r : ZR), acall X n d y a s = some r → s.1 ≤ r.2.1 := by
  intro d
  induction d with
  | zero => intro y a s r h; cases h
  | succ d ih =>
    intro y a s r h
    unfold acall at h
    by_cases c : (a.length ≤ zml y ∧ zml y ≤ 12) ∧ a.all zc1 = true
    · rw [if_pos c] at h; exact arun_u ih _ _ _ _ _ _ h
    · rw [if_neg c] at h; cases h
theorem zhh_all : (List.range zML.length).all (fun k => (zhh k).all fun t => (decide (t.2.2.2 = 13) || (decide (t.2.2.2 = 19) || decide (t.2.2.2 = 21))) && decide (zoc k = 15)) = true := by decide +kernel
theorem zcl_13 : Cond.classLink (zow 15) 13 (zcn 13) ∈ zgw := zgw_at 195 (by decide +kernel)
theorem zcl_19 : Cond.classLink (zow 15) 19 (zcn 19) ∈ zgw := zgw_at 369 (by decide +kernel)
theorem zcl_21 : Cond.classLink (zow 15) 21 (zcn 21) ∈ zgw := zgw_at 370 (by decide +kernel)
theorem zhh_ok {k : Nat} {t : Nat × Nat × Nat × Nat} (ht : t ∈ zhh k) : t.2.2.2 ≠ 0 ∧ Cond.classLink (zow (zoc k)) t.2.2.2 (zcn t.2.2.2) ∈ zgw ∧ zcn t.2.2.2 ∈ zEX := by
  have hk : k < zML.length := by
    rcases Nat.lt_or_ge k zML.length with q | q
    · exact q
    · have e : zhh k = [] := by
        unfold zhh zm
        rw [List.getD_eq_getElem?_getD, List.getElem?_eq_none q]
        rfl
      rw [e] at ht
      exact absurd ht List.not_mem_nil
  have h1 := List.all_eq_true.mp (List.all_eq_true.mp zhh_all k (List.mem_range.mpr hk)) t ht
  simp only [Bool.and_eq_true, Bool.or_eq_true] at h1
  obtain ⟨h1, h2⟩ := h1
  rw [of_decide_eq_true h2]
  rcases h1 with e | e | e
  · rw [of_decide_eq_true e]; exact ⟨by decide, zcl_13, by decide +kernel⟩
  · rw [of_decide_eq_true e]; exact ⟨by decide, zcl_19, by decide +kernel⟩
  · rw [of_decide_eq_true e]; exact ⟨by decide, zcl_21, by decide +kernel⟩
theorem zsplit_map {α β : Type} {f : α → β} : ∀ {l : List α} {as : List β} {b : β} {bs : List β}, l.map f = as ++ b :: bs → ∃ pre x suf, l = pre ++ x :: suf ∧ pre.map f = as ∧ f x = b
  | [], [], _, _, h => by cases h
  | [], _ :: _, _, _, h => by cases h
  | x :: l, [], b, bs, h => by
    rw [List.map_cons, List.nil_append] at h
    injection h with h1 h2
    exact ⟨[], x, l, rfl, rfl, h1⟩
  | x :: l, a :: as, b, bs, h => by
    rw [List.map_cons, List.cons_append] at h
    injection h with h1 h2
    obtain ⟨pre, y, suf, e1, e2, e3⟩ := zsplit_map h2
    exact ⟨x :: pre, y, suf, by rw [e1]; rfl, by rw [List.map_cons, h1, e2], e3⟩
section ZP1
variable {p : Program} {l : Launch} {e : Env} {R : Room} {s : State} {m : MethodId} {args : Array Value} {below : List Frame} {meth : Method} {c : Code} {G : va_G} {tc : Nat → ClassId} {A : Nat → Prop} {ad0 : Nat → Nat} {n0 u0 mi : Nat} {Q : State → Prop} {X : ZX} {pc : Nat} {L S : List Value} {st : ZS} {q : ZQ}
theorem zcatch (F : ZEv p l s m args meth c G tc A ad0 X mi) (hT : c.exceptionTable.toList.map (fun h => (h.startPc, h.endPc, h.handlerPc, h.catchType)) = zhh mi) {E : String} {h : Nat × Nat × Nat} (hh : zhnd mi pc E = some h) (hl : h.2.1 < L.length) (k : ZW p l e R s m args below meth c G tc A ad0 n0 u0 mi Q h.2.2 (L.set h.2.1 zjk) [] st) : ZWx p l e R s m args below meth c G tc A ad0 n0 u0 mi Q pc L st E := by
  obtain ⟨⟨hx, hb, hml, hown, hts⟩, -, hch, hcv⟩ := F
  unfold zhnd at hh
  cases hf : (zhh mi).find? fun h => decide (h.1 ≤ pc) && (decide (pc < h.2.1) && decide (zcn h.2.2.2 = E)) with
  | none => rw [hf] at hh; cases hh
  | some t =>
    rw [hf] at hh
    simp only [Option.bind_some] at hh
    obtain ⟨ht, as, bs, hsp, has⟩ := List.find?_eq_some_iff_append.mp hf
    have htm : t ∈ zhh mi := List.mem_of_find?_eq_some hf
    simp only [Bool.and_eq_true] at ht
    obtain ⟨t1, t2, t3⟩ := ht
    have t1 := of_decide_eq_true t1
    have t2 := of_decide_eq_true t2
    have t3 := of_decide_eq_true t3
    rw [hsp] at hT
    obtain ⟨pre, x, suf, e1, e2, e3⟩ := zsplit_map hT
    obtain ⟨z0, z1, z2⟩ := zhh_ok htm
    have x1 : x.startPc = t.1 := by rw [← e3]
    have x2 : x.endPc = t.2.1 := by rw [← e3]
    have x3 : x.handlerPc = t.2.2.1 := by rw [← e3]
    have x4 : x.catchType = t.2.2.2 := by rw [← e3]
    have hpass : ∀ z ∈ pre, covers z pc = false ∨ (z.catchType ≠ 0 ∧ ∃ nm : String, (Cond.classLink (zow (zoc mi)) z.catchType nm).before args s = true ∧ va_Nc E nm s) := by
      intro z hz
      have hza : (z.startPc, z.endPc, z.handlerPc, z.catchType) ∈ as := by rw [← e2]; exact List.mem_map.mpr ⟨z, hz, rfl⟩
      have hzm : (z.startPc, z.endPc, z.handlerPc, z.catchType) ∈ zhh mi := by rw [hsp]; exact List.mem_append_left _ hza
      have hno := has _ hza
      by_cases c1 : z.startPc ≤ pc ∧ pc < z.endPc
      · obtain ⟨y0, y1, y2⟩ := zhh_ok hzm
        refine Or.inr ⟨y0, _, hts _ y1, hcv.2.2.2.2.2.2.2.1 _ (by rw [← t3]; exact z2) _ y2 ?_⟩
        intro e
        rw [decide_eq_true c1.1, decide_eq_true c1.2, decide_eq_true e.symm] at hno
        simp at hno
      · refine Or.inl ?_
        simp only [covers, Bool.and_eq_false_iff, decide_eq_false_iff_not]
        omega
    have hcov : covers x pc = true := by
      simp only [covers, Bool.and_eq_true, decide_eq_true_eq]
      omega
    intro ad H locs ls q ce rest h hce hcve hcl
    refine vx_catch (name := zcn x.catchType) hown pre x suf e1 hpass hcov (by rw [x4]; exact z0) (by rw [x4]; exact hts _ z1) ?_ hce hcve hcl ?_
    · rw [x4, t3]
      exact (hcv.2.2.2.2.2.2.1 E (by rw [← t3]; exact z2)).use rfl
    · rw [x3]
      have hlen : L.length = zml mi := h.zl.1
      split at hh
      · rename_i k' hdk
        cases hh
        have hn : (k' : Nat) < zml mi := by rw [← hlen]; exact hl
        exact lv_astore_n hx hb hdk rfl h.zl.2 hn rfl fun ls' hl' => k ad H locs ls' (h.lcl (h.zl.junk hn hl') (zall_set zvok_junk h.lok) (fun v hv => absurd hv List.not_mem_nil))
      · rename_i k' hdk
        cases hh
        have hn : (k' : Nat) < zml mi := by rw [← hlen]; exact hl
        exact lv_astore hx hb hdk h.zl.2 hn rfl fun ls' hl' => k ad H locs ls' (h.lcl (h.zl.junk hn hl') (zall_set zvok_junk h.lok) (fun v hv => absurd hv List.not_mem_nil))
      · cases hh
theorem zsim {d : Nat} {call : Nat → List Value → ZS → Option ZR} {r : ZR} (F : ZEv p l s m args meth c G tc A ad0 X mi) (hT : zhh mi ≠ [] → c.exceptionTable.toList.map (fun h => (h.startPc, h.endPc, h.handlerPc, h.catchType)) = zhh mi) (hn1 : 1 < n0) (hRf : R.frames = d + 1) (hRl : 31 * d + 100 ≤ R.locals) (hRc : r.2.1 - u0 ≤ R.cells ∧ r.2.1 - u0 ≤ R.slots)
    (hcm : ∀ y a s r, call y a s = some r → s.1 ≤ r.2.1) (hcall : ∀ y a s r, call y a s = some r → zml y ≤ 12 ∧ ∃ d', d = d' + 1 ∧ ZCt l G tc X d' y a s r)
    (hfin : ∀ (pc : Nat) (i : Instr) (len : Nat) (L S : List Value) (st : ZS), decode (zby mi) pc = .ok (i, len) → zlok i len = true → zfin d mi i pc S st = some r → ZW p l e R s m args below meth c G tc A ad0 n0 u0 mi Q pc L S st)
    (hunc : ∀ (pc : Nat) (L : List Value) (st : ZS) (E : String), zhh mi = [] → r = (.inr E, st) → ZWx p l e R s m args below meth c G tc A ad0 n0 u0 mi Q pc L st E) :
    ∀ (k pc : Nat) (L S : List Value) (st : ZS), arun X d call mi k pc L S st = some r → ZW p l e R s m args below meth c G tc A ad0 n0 u0 mi Q pc L S st := by
  intro k
  induction k with
  | zero => intro pc L S st h; cases h
  | succ k ih =>
    intro pc L S st h
    rw [arun_s] at h
    unfold abod at h
    cases hd : decode (zby mi) pc with
    | error e => rw [hd] at h; cases h
    | ok il =>
      obtain ⟨i, len⟩ := il
      rw [hd] at h
      dsimp only at h
      by_cases hl : zlok i len = false
      · rw [if_pos hl] at h; cases h
      · rw [if_neg hl] at h
        have hl : zlok i len = true := by cases hq : zlok i len with | true => rfl | false => exact absurd hq hl
        cases hs : zstep X mi i pc L S st with
        | some q =>
          rw [hs] at h
          have hu := arun_u hcm _ _ _ _ _ _ h
          exact zstep_ok F ⟨by omega, by omega⟩ hn1 ⟨by omega, by omega⟩ hd hl hs (ih _ _ _ _ h)
        | none =>
          rw [hs] at h
          dsimp only at h
          cases hf : zfin d mi i pc S st with
          | some q => rw [hf] at h; cases h; exact hfin pc i len L S st hd hl hf
          | none =>
            rw [hf] at h
            dsimp only at h
            cases hz : zcal mi i S st with
            | none => rw [hz] at h; cases h
            | some cc =>
              rw [hz] at h
              dsimp only at h
              obtain ⟨y, as, rest⟩ := cc
              dsimp only at h
              cases hq : call y as st with
              | none => rw [hq] at h; cases h
              | some w =>
                rw [hq] at h
                obtain ⟨h12, d', hd', hct⟩ := hcall _ _ _ _ hq
                have hw := hcm _ _ _ _ hq
                obtain ⟨o, st'⟩ := w
                have hw : st.1 ≤ st'.1 := hw
                have hst' : st'.1 ≤ r.2.1 := by
                  cases o with
                  | inl v => exact arun_u hcm _ _ _ _ _ _ h
                  | inr E =>
                    dsimp only at h
                    cases hh : zhnd mi pc E with
                    | none =>
                      rw [hh] at h
                      dsimp only at h
                      by_cases hg : zhh mi = []
                      · rw [if_pos hg] at h; cases h; exact Nat.le_refl _
                      · rw [if_neg hg] at h; cases h
                    | some g =>
                      rw [hh] at h
                      dsimp only at h
                      by_cases hg : g.2.1 < L.length
                      · rw [if_pos hg] at h; exact arun_u hcm _ _ _ _ _ _ h
                      · rw [if_neg hg] at h; cases h
                intro ad H locs ls hp
                obtain ⟨hrest, a', hrun⟩ := zcall_ok (r := (o, st')) F (by rw [hRf, hd']) (by omega) h12 hz hct hd hl hp hw ⟨by show st'.1 - u0 ≤ R.cells; omega, by show st'.1 - u0 ≤ R.slots; omega⟩
                refine z_aft (r := (o, st')) F hp hrest hw hrun ?_ ?_
                · intro v hv
                  have hv : o = .inl v := hv
                  subst hv
                  exact ih _ _ _ _ h
                · intro E hE
                  have hE : o = .inr E := hE
                  subst hE
                  dsimp only at h
                  cases hh : zhnd mi pc E with
                  | none =>
                    rw [hh] at h
                    dsimp only at h
                    by_cases hg : zhh mi = []
                    · rw [if_pos hg] at h
                      exact hunc pc L st' E hg (Option.some.inj h).symm
                    · rw [if_neg hg] at h; cases h
                  | some g =>
                    rw [hh] at h
                    dsimp only at h
                    by_cases hg : g.2.1 < L.length
                    · rw [if_pos hg] at h
                      exact zcatch F (hT fun z => by unfold zhnd at hh; rw [z] at hh; cases hh) hh hg (ih _ _ _ _ h)
                    · rw [if_neg hg] at h; cases h
end ZP1
