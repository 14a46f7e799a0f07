/-! calls: the four kinds, from the tables -/
theorem zst_split {S : List Value} {n : Nat} {v : Value} {S2 : List Value} (h : S.drop n = v :: S2) : S = S.take n ++ v :: S2 ∧ (S.take n).length = n := by
  refine ⟨by rw [← h, List.take_append_drop], ?_⟩
  rw [List.length_take]
  have : n < S.length := by
    rcases Nat.lt_or_ge n S.length with q | q
    · exact q
    · rw [List.drop_eq_nil_of_le q] at h; cases h
  omega
theorem zow_ne : ∀ o : Nat, zow o ≠ "java/lang/invoke/MethodHandle" ∧ zow o ≠ "java/lang/invoke/VarHandle" := by
  intro o
  rcases Nat.lt_or_ge o 16 with h | h
  · exact (show ∀ o, o < 16 → zow o ≠ "java/lang/invoke/MethodHandle" ∧ zow o ≠ "java/lang/invoke/VarHandle" by decide +kernel) o h
  · have e : zow o = "" := by
      unfold zow
      rw [List.getD_eq_getElem?_getD, List.getElem?_eq_none (by exact h)]
      rfl
    rw [e]
    decide
theorem znmh {y : Nat} (h : (znm y).cls = zow (zoc y)) : (znm y).cls ≠ "java/lang/invoke/MethodHandle" ∧ (znm y).cls ≠ "java/lang/invoke/VarHandle" := by
  rw [h]
  exact zow_ne _
theorem zC0_all : zCL.all (fun x => x.2.1 == 1 || decide (zhh x.2.2 = [])) = true := by decide +kernel
theorem zC0_ok {o i k y : Nat} (h : zCL.lookup (o, i) = some (k, y)) (hk : k ≠ 1) : zhh y = [] := by
  have h1 := List.all_eq_true.mp zC0_all _ (zlk h)
  rw [Bool.or_eq_true] at h1
  rcases h1 with e | e
  · exact absurd (eq_of_beq e) hk
  · exact of_decide_eq_true e
theorem zcw_of {y : Nat} (h : zhh y = []) : zcw y = .code (znm y) (zby y) (zml y) (zrt y) := by
  unfold zcw
  rw [h]
theorem zcw_ne {y : Nat} (h : zhh y ≠ []) : zcw y = .codeWith (znm y) (zby y) (zml y) (zrt y) (zhh y) := by
  unfold zcw
  split
  · rename_i e; exact absurd e h
  · rename_i hh e; rfl
section ZO1
variable {p : Program} {l : Launch} {e : Env} {R : Room} {s : State} {m : MethodId} {args : Array Value} {below : List Frame} {meth : Method} {c : Code} {G : va_G} {tc : Nat → ClassId} {A : Nat → Prop} {ad0 : Nat → Nat} {n0 u0 mi : Nat} {Q : State → Prop} {X : ZX} {pc : Nat} {L S : List Value} {st : ZS} {q : ZQ}
theorem zcall_ok {i : Instr} {y d len : Nat} {as rest : List Value} {r : ZR} {ad : Nat → Nat} {H : Heap} {locs : List Loc} {ls : Array Slot} (F : ZEv p l s m args meth c G tc A ad0 X mi) (hRf : R.frames = d + 2) (hRl : 31 * (d + 1) + 100 ≤ R.locals) (hml12 : zml y ≤ 12) (hc : zcal mi i S st = some (y, as, rest)) (hct : ZCt l G tc X d y as st r) (hd : decode (zby mi) pc = .ok (i, len)) (hl : zlok i len = true) (h : ZPt G tc A s ad0 n0 u0 (zml mi) ad st L S H locs ls) (hu : st.1 ≤ r.2.1) (hR : r.2.1 - u0 ≤ R.cells ∧ r.2.1 - u0 ≤ R.slots) :
    (∀ v ∈ rest, zvok st.2.length v) ∧ ∃ a', vx_Run p l e R s m args below meth c H locs (st.1 - u0) (st.1 - u0) (r.2.1 - st.1) (r.2.1 - st.1) (F0 m pc ls (S.map (zcv ad))) (rest.map (zcv ad)) (zQ G tc ad st r (va_A (zws tc ad st.2) H.size) a') (zXo G tc ad st r (va_A (zws tc ad st.2) H.size)) (va_A (zws tc ad st.2) H.size) := by
  have F' := F
  obtain ⟨⟨hx, hb, hml, hown, hts⟩, ⟨hK, hA, hlk, hst, hrt, hin⟩, hch, hcv⟩ := F
  have hu0 : u0 ≤ st.1 := h.2.2.2.2.2.2
  have hf : st.1 - u0 + (r.2.1 - st.1) ≤ R.cells ∧ st.1 - u0 + (r.2.1 - st.1) ≤ R.slots := ⟨by omega, by omega⟩
  have hsz : ls.size = zml mi := h.zl.2.1
  have hroom : (zrm d (r.2.1 - st.1)).frames + 1 ≤ R.frames ∧ 8 + (zml y + 11) + (zrm d (r.2.1 - st.1)).locals ≤ R.locals := by
    rw [hRf]
    exact ⟨Nat.le_refl _, by show 8 + (zml y + 11) + (31 * d + 100) ≤ R.locals; omega⟩
  have hsum : ∀ S2 : List Value, S2.length ≤ 4 → 2 * (F0 m pc ls (S.map (zcv ad))).monitorRoom + ((S2.map (zcv ad)).map fun v => v.category).sum ≤ 8 := by
    intro S2 h4
    have h0 : (F0 m pc ls (S.map (zcv ad))).monitorRoom = 0 := rfl
    have := zsum (S := S2.map (zcv ad)) (by rw [List.length_map]; exact h4)
    rw [h0]
    omega
  cases i with
  | invokevirtual idx =>
    have e := eq_of_beq hl
    subst e
    simp only [zcal] at hc
    split at hc
    · rename_i y' hcl
      split at hc
      · rename_i a S2 hS
        split at hc
        · rename_i hq
          cases hc
          obtain ⟨hS1, hSn⟩ := zst_split hS
          obtain ⟨cp, hcp⟩ := zall (by decide +kernel) zM_all hcl
          simp only [zMc, Bool.and_eq_true] at hcp
          obtain ⟨hdesc, hcls, hpl, w1, w2, w3, w4, w5, w6⟩ := hcp
          obtain ⟨fs, v0, q1, q2⟩ := zis_inv hq.1
          have ha := zge3 h.2.1.2 q1 q2
          cases hr : vwCl[zvi (zoc y)]? with
          | none => rw [hr] at w6; cases w6
          | some rr =>
            rw [hr] at w6
            have hrn : rr.1 = (znm y).cls := of_decide_eq_true w6
            have hsok : ∀ v ∈ S, zvok st.2.length v := h.sok
            rw [hS1] at hsok
            have hrest : ∀ v ∈ rest, zvok st.2.length v := fun v hv => hsok v (List.mem_append_right _ (List.mem_cons_of_mem _ hv))
            have hargs : ∀ v ∈ Value.ref a :: (S.take (znp y)).reverse, zvok st.2.length v := by
              intro v hv
              rcases List.mem_cons.mp hv with e | e
              · exact hsok v (List.mem_append_right _ (by rw [e]; exact List.mem_cons_self))
              · exact hsok v (List.mem_append_left _ (List.mem_reverse.mp e))
            refine ⟨hrest, (Value.ref (ad a) :: ((S.take (znp y)).reverse).map (zcv ad)).toArray, ?_⟩
            have hcw : zcw y = .code (znm y) (zby y) (zml y) (zrt y) := zcw_of (zC0_ok hcl (by decide))
            have hgz : zcw y ∈ zgw := by rw [hcw]; exact zhas_mem w2
            have hrv := va_recv hK h.1.1 hr (zws_at ha q1)
            rw [hrn] at hrv
            refine vx_runV (As := ((S.take (znp y)).reverse).map (zcv ad)) (b := ad a) (n := znp y) (y := znm y) (bytes := zby y) (maxL := zml y) (ret := zrt y) (ws := zwo y) (rm := zrm d (r.2.1 - st.1)) (Ts := zgw) (C := (znm y).cls) (own := zow (zoc mi)) ⟨hx, hb, hml, hown, hts⟩ (hct ad H.size h.2.1.1 h.2.1.2 hargs) ⟨⟨rfl, rfl, hroom.1, hroom.2, pay_in hts (z_good hgz), ?_, hts _ (zhas_mem w2), hts _ (zhas_mem w5), znmh (of_decide_eq_true hcls), fun sig hs => ?_, hts _ (zhas_mem w1)⟩, hts _ (zhas_mem w3), hts _ (zhas_mem w4)⟩ ⟨ZPre.blind, hrv, fun U hU hW => ⟨rfl, z_pre F' h hU hW⟩⟩ rfl ?_ hsz ?_ (hsum rest hq.2) hd hf
            · rw [← hcw]; exact List.mem_cons_self
            · have h9 := of_decide_eq_true hdesc
              rw [hs] at h9
              exact (Option.some.inj h9).symm
            · rw [List.length_map, List.length_reverse, hSn]
            · show S.map (zcv ad) = _
              rw [← List.map_reverse, List.reverse_reverse]
              conv => lhs; rw [hS1]
              rw [List.map_append]
              rfl
        · cases hc
      · cases hc
    · cases hc
  | invokespecial idx =>
    have e := eq_of_beq hl
    subst e
    simp only [zcal] at hc
    split at hc
    · rename_i y' hcl
      split at hc
      · rename_i a S2 hS
        split at hc
        · rename_i hq
          cases hc
          obtain ⟨hS1, hSn⟩ := zst_split hS
          obtain ⟨cp, hcp⟩ := zall (by decide +kernel) zM_all hcl
          simp only [zMc, Bool.and_eq_true] at hcp
          obtain ⟨hdesc, hcls, hpl, w1, w2, w3, w4, w5, w6⟩ := hcp
          have hsok : ∀ v ∈ S, zvok st.2.length v := h.sok
          rw [hS1] at hsok
          have hrest : ∀ v ∈ rest, zvok st.2.length v := fun v hv => hsok v (List.mem_append_right _ (List.mem_cons_of_mem _ hv))
          have hargs : ∀ v ∈ Value.ref a :: (S.take (znp y)).reverse, zvok st.2.length v := by
            intro v hv
            rcases List.mem_cons.mp hv with e | e
            · exact hsok v (List.mem_append_right _ (by rw [e]; exact List.mem_cons_self))
            · exact hsok v (List.mem_append_left _ (List.mem_reverse.mp e))
          refine ⟨hrest, (Value.ref (ad a) :: ((S.take (znp y)).reverse).map (zcv ad)).toArray, ?_⟩
          have hcw : zcw y = .code (znm y) (zby y) (zml y) (zrt y) := zcw_of (zC0_ok hcl (by decide))
          rw [of_decide_eq_true w6] at hcw w2
          have hgz : zcw y ∈ zgw := by rw [hcw]; exact zhas_mem w2
          refine vx_runI (As := ((S.take (znp y)).reverse).map (zcv ad)) (b := ad a) (n := znp y) (y := znm y) (bytes := zby y) (maxL := zml y) (ws := zwo y) (rm := zrm d (r.2.1 - st.1)) (Ts := zgw) (own := zow (zoc mi)) ⟨hx, hb, hml, hown, hts⟩ (hct ad H.size h.2.1.1 h.2.1.2 hargs) ⟨⟨rfl, rfl, hroom.1, hroom.2, pay_in hts (z_good hgz), ?_, hts _ (zhas_mem w2), hts _ (zhas_mem w4), znmh (of_decide_eq_true hcls), fun sig hs => ?_, hts _ (zhas_mem w1)⟩, of_decide_eq_true w5, hts _ (zhas_mem w3)⟩ ⟨ZPre.blind, fun U hU hW => ⟨rfl, z_pre F' h hU hW⟩⟩ rfl ?_ hsz ?_ (hsum rest hq) hd hf
          · rw [← hcw]; exact List.mem_cons_self
          · have h9 := of_decide_eq_true hdesc
            rw [hs] at h9
            exact (Option.some.inj h9).symm
          · rw [List.length_map, List.length_reverse, hSn]
          · show S.map (zcv ad) = _
            rw [← List.map_reverse, List.reverse_reverse]
            conv => lhs; rw [hS1]
            rw [List.map_append]
            rfl
        · cases hc
      · cases hc
    · rename_i y' hcl
      split at hc
      · rename_i a S2 hS
        split at hc
        · rename_i hq
          cases hc
          obtain ⟨hS1, hSn⟩ := zst_split hS
          obtain ⟨cp, hcp⟩ := zall (by decide +kernel) zM_all hcl
          simp only [zMc, Bool.and_eq_true] at hcp
          obtain ⟨hdesc, hcls, hpl, w1, w2, w3, w4, w5, w6⟩ := hcp
          have hsok : ∀ v ∈ S, zvok st.2.length v := h.sok
          rw [hS1] at hsok
          have hrest : ∀ v ∈ rest, zvok st.2.length v := fun v hv => hsok v (List.mem_append_right _ (List.mem_cons_of_mem _ hv))
          have hargs : ∀ v ∈ Value.ref a :: (S.take (znp y)).reverse, zvok st.2.length v := by
            intro v hv
            rcases List.mem_cons.mp hv with e | e
            · exact hsok v (List.mem_append_right _ (by rw [e]; exact List.mem_cons_self))
            · exact hsok v (List.mem_append_left _ (List.mem_reverse.mp e))
          refine ⟨hrest, (Value.ref (ad a) :: ((S.take (znp y)).reverse).map (zcv ad)).toArray, ?_⟩
          have hcw : zcw y = .code (znm y) (zby y) (zml y) (zrt y) := zcw_of (zC0_ok hcl (by decide))
          rw [of_decide_eq_true w6] at hcw w2
          have hgz : zcw y ∈ zgw := by rw [hcw]; exact zhas_mem w2
          have hnw : va_Nw (.methodLinkNest (zow (zoc mi)) idx (znm y) "Kerfworks") s := hcv.2.2.2.2.2.1 (zow (zoc mi), idx, znm y) (List.mem_map.mpr ⟨((zoc mi, idx), (3, y)), List.mem_filter.mpr ⟨zlk hcl, rfl⟩, rfl⟩)
          refine vx_runIN (host := "Kerfworks") (As := ((S.take (znp y)).reverse).map (zcv ad)) (b := ad a) (n := znp y) (y := znm y) (bytes := zby y) (maxL := zml y) (ws := zwo y) (rm := zrm d (r.2.1 - st.1)) (Ts := zgw) (own := zow (zoc mi)) ⟨hx, hb, hml, hown, hts⟩ (hct ad H.size h.2.1.1 h.2.1.2 hargs) ⟨⟨⟨rfl, rfl, hroom.1, hroom.2, pay_in hts (z_good hgz), ?_⟩, hts _ (zhas_mem w2), hts _ (zhas_mem w4), znmh (of_decide_eq_true hcls), fun sig hs => ?_, hnw.use rfl⟩, of_decide_eq_true w5, hts _ (zhas_mem w3)⟩ ⟨ZPre.blind, fun U hU hW => ⟨rfl, z_pre F' h hU hW⟩⟩ rfl ?_ hsz ?_ (hsum rest hq) hd hf
          · rw [← hcw]; exact List.mem_cons_self
          · have h9 := of_decide_eq_true hdesc
            rw [hs] at h9
            exact (Option.some.inj h9).symm
          · rw [List.length_map, List.length_reverse, hSn]
          · show S.map (zcv ad) = _
            rw [← List.map_reverse, List.reverse_reverse]
            conv => lhs; rw [hS1]
            rw [List.map_append]
            rfl
        · cases hc
      · cases hc
    · cases hc
  | invokestatic idx =>
    have e := eq_of_beq hl
    subst e
    simp only [zcal] at hc
    split at hc
    · rename_i y' hcl
      split at hc
      · rename_i hq
        cases hc
        obtain ⟨cp, hcp⟩ := zall (by decide +kernel) zM_all hcl
        simp only [zMc, Bool.and_eq_true] at hcp
        obtain ⟨hdesc, hcls, hpl, w1, w2, w3, w4⟩ := hcp
        have hsok : ∀ v ∈ S, zvok st.2.length v := h.sok
        have hrest : ∀ v ∈ S.drop (znp y), zvok st.2.length v := fun v hv => hsok v (List.mem_of_mem_drop hv)
        have hargs : ∀ v ∈ (S.take (znp y)).reverse, zvok st.2.length v := fun v hv => hsok v (List.mem_of_mem_take (List.mem_reverse.mp hv))
        refine ⟨hrest, (((S.take (znp y)).reverse).map (zcv ad)).toArray, ?_⟩
        have hsig : ∀ sig, parseMethodDescriptor (znm y).desc = some sig → znp y = sig.parameters.length := fun sig hs => by
          have h9 := of_decide_eq_true hdesc
          rw [hs] at h9
          exact (Option.some.inj h9).symm
        have hlen : (((S.take (znp y)).reverse).map (zcv ad)).length = znp y := by
          rw [List.length_map, List.length_reverse, List.length_take]
          omega
        have hstk : (F0 m pc ls (S.map (zcv ad))).stack = (((S.take (znp y)).reverse).map (zcv ad)).reverse ++ (S.drop (znp y)).map (zcv ad) := by
          show S.map (zcv ad) = _
          rw [← List.map_reverse, List.reverse_reverse, ← List.map_append, List.take_append_drop]
        have hpre : PreS s H (va_Pc (((S.take (znp y)).reverse).map (zcv ad)) (fun U => U.heap.size = H.size ∧ ZPre G tc ad X st (va_A (zws tc ad st.2) H.size) U)) (((S.take (znp y)).reverse).map (zcv ad)) := ⟨ZPre.blind, fun U hU hW => ⟨rfl, z_pre F' h hU hW⟩⟩
        by_cases hh : zhh y = []
        · rw [hh] at w2
          have hcw : zcw y = .code (znm y) (zby y) (zml y) (zrt y) := zcw_of hh
          have hgz : zcw y ∈ zgw := by rw [hcw]; exact zhas_mem w2
          exact vx_runS (n := znp y) (y := znm y) (bytes := zby y) (maxL := zml y) (ret := zrt y) (ws := zwo y) (rm := zrm d (r.2.1 - st.1)) (Ts := zgw) (own := zow (zoc mi)) ⟨hx, hb, hml, hown, hts⟩ (hct ad H.size h.2.1.1 h.2.1.2 hargs) ⟨⟨rfl, rfl, hroom.1, hroom.2, pay_in hts (z_good hgz), by rw [← hcw]; exact List.mem_cons_self, hts _ (zhas_mem w2), hts _ (zhas_mem w4), znmh (of_decide_eq_true hcls), hsig, hts _ (zhas_mem w1)⟩, hts _ (zhas_mem w3)⟩ hpre rfl hlen hsz hstk (hsum _ hq.2) hd hf
        · have w2 : zhas (.codeWith (znm y) (zby y) (zml y) (zrt y) (zhh y)) (cp.getD 1 0) = true := by
            revert w2
            split
            · rename_i e; exact absurd e hh
            · exact id
          have hcw : zcw y = .codeWith (znm y) (zby y) (zml y) (zrt y) (zhh y) := zcw_ne hh
          have hgz : zcw y ∈ zgw := by rw [hcw]; exact zhas_mem w2
          exact vx_runSX (hh := zhh y) (n := znp y) (y := znm y) (bytes := zby y) (maxL := zml y) (ret := zrt y) (ws := zwo y) (rm := zrm d (r.2.1 - st.1)) (Ts := zgw) (own := zow (zoc mi)) ⟨hx, hb, hml, hown, hts⟩ (hct ad H.size h.2.1.1 h.2.1.2 hargs) ⟨⟨rfl, rfl, hroom.1, hroom.2, pay_in hts (z_good hgz), by rw [← hcw]; exact List.mem_cons_self⟩, hts _ (zhas_mem w2), hts _ (zhas_mem w4), znmh (of_decide_eq_true hcls), hsig, hts _ (zhas_mem w1), hts _ (zhas_mem w3)⟩ hpre rfl hlen hsz hstk (hsum _ hq.2) hd hf
      · cases hc
    · cases hc
  | _ => exact absurd hc (by intro z; simp [zcal] at z)
end ZO1
