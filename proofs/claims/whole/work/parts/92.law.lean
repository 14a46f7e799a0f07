/-! THE LAW'S WALK out of the run of the abstract machine -/
def zlaw : Nat := 139
def WholePure : Prop := ∀ X : ZX, X.1 ≤ 2048 → AW X 15 zlaw 0 (zini zlaw [.ref 1]) [] (0, zD0) fun o st' => o = .inl (some (.int 1)) ∧ st'.1 ≤ 601024
theorem zfin_one {d mi pc : Nat} {i : Instr} {S : List Value} {st : ZS} {r : ZR} {x : Int32} (hf : zfin d mi i pc S st = some r) (hr1 : r.1 = .inl (some (.int x))) : i = .ireturn ∧ S = [.int x] ∧ r.2 = st := by
  cases i with
  | ireturn =>
    simp only [zfin] at hf
    split at hf
    · cases hf; cases hr1; exact ⟨rfl, rfl, rfl⟩
    · split at hf
      · cases hf; cases hr1; exact ⟨rfl, rfl, rfl⟩
      · cases hf
    · cases hf
  | return_ =>
    simp only [zfin] at hf
    split at hf
    · cases hf; cases hr1
    · cases hf
  | freturn =>
    simp only [zfin] at hf
    split at hf
    · cases hf; cases hr1
    · cases hf
  | dreturn =>
    simp only [zfin] at hf
    split at hf
    · cases hf; cases hr1
    · cases hf
  | areturn =>
    simp only [zfin] at hf
    split at hf
    · cases hf; cases hr1
    · cases hf; cases hr1
    · cases hf; cases hr1
    · cases hf; cases hr1
    · cases hf
  | new ik =>
    simp only [zfin] at hf
    split at hf
    · cases hq : zthr mi ik pc with
      | none => rw [hq] at hf; cases hf
      | some E => rw [hq] at hf; cases hf; cases hr1
    · cases hf
  | _ => exact absurd hf (by intro z; simp [zfin] at z)
theorem zlaw_start (hpure : WholePure) {p : Program} {e : Env} {s : State} {m : MethodId} {below : List Frame} {meth : Method} {c : Code} (l : Launch) (hflags : l.flags = flags0) {b L : Nat} {xs : Nat → Int32} (hL : L ≤ 2048) (C0 : lw_At p s m meth c b L xs) : W p l e room_1 s m #[Value.ref b] below meth c s.heap [] 0 0 (lw_Z below #[Value.ref b] s) (entryFrame m ([Value.ref b] : List Value).toArray 10) := by
  obtain ⟨hx, hb, hr, hml, hown, hts0, hX, hbl, hlocks, hgv⟩ := id C0
  have hnar : ∀ w ∈ znar, w.before #[Value.ref b] s = true := flat_of_before _ hgv
  have hn1 : ∀ w ∈ [Cond.isRef (.mirror "[Ljava/lang/Object;"), Cond.isRef (.static "java/lang/Throwable" "UNASSIGNED_STACK" "[Ljava/lang/StackTraceElement;"), Cond.isRef (.static "java/lang/Throwable" "SUPPRESSED_SENTINEL" "Ljava/util/List;"), Cond.arrayOf (.static "java/util/ArrayList" "DEFAULTCAPACITY_EMPTY_ELEMENTDATA" "[Ljava/lang/Object;") (.object "java/lang/Object"), Cond.eq (.length (.static "java/util/ArrayList" "DEFAULTCAPACITY_EMPTY_ELEMENTDATA" "[Ljava/lang/Object;")) (.int 0)], w.before #[Value.ref b] s = true := fun w hw => hnar w (List.contains_iff_mem.mp (List.all_eq_true.mp znar_ok w hw))
  have hl1 : ∀ w ∈ [Cond.laysStatic "java/util/ArrayList" "DEFAULTCAPACITY_EMPTY_ELEMENTDATA" "[Ljava/lang/Object;", Cond.initialized "java/util/ArrayList", Cond.laysStatic Bundle.tN "UNASSIGNED_STACK" Bundle.steD, Cond.laysStatic Bundle.tN "SUPPRESSED_SENTINEL" Bundle.listD, Cond.initialized Bundle.tN, Cond.declares ⟨"java/lang/Object", "getClass", "()Ljava/lang/Class;"⟩, Cond.arrayOver (.object "java/lang/Object")], w.before #[Value.ref b] s = true := fun w hw => hts0 w (List.contains_iff_mem.mp (List.all_eq_true.mp zlw_st w hw))
  have hst : l.stackTraces = false := by rw [Launch.stackTraces, hflags]; decide +kernel
  -- the classes
  have hkn : ∀ (ci : Nat) (r : vw_C), vwCl[ci]? = some r → ∃ (cC : ClassId) (iS : Nat → Nat), u_Kn s r.1 r.2.1 r.2.2 cC iS := by
    intro ci r hr
    exact u_known hts0 (fun w hw => zg_w ((zcl_ok ci r hr).1 w hw)) (hts0 _ (zg_w (zcl_in ci r hr)))
  obtain ⟨e0, f0, q0⟩ := hkn 0 _ rfl
  obtain ⟨e1, f1, q1⟩ := hkn 1 _ rfl
  obtain ⟨e2, f2, q2⟩ := hkn 2 _ rfl
  obtain ⟨e3, f3, q3⟩ := hkn 3 _ rfl
  obtain ⟨e4, f4, q4⟩ := hkn 4 _ rfl
  obtain ⟨e5, f5, q5⟩ := hkn 5 _ rfl
  obtain ⟨e6, f6, q6⟩ := hkn 6 _ rfl
  obtain ⟨e7, f7, q7⟩ := hkn 7 _ rfl
  obtain ⟨G, hG⟩ : ∃ G : va_G, ∀ (k : Nat) (q : vw_C), vwCl[k]? = some q → u_Kn s q.1 q.2.1 q.2.2 (G.1 k) (G.2 k) := by
    refine ⟨(fun k => match k with
      | 0 => e0
      | 1 => e1
      | 2 => e2
      | 3 => e3
      | 4 => e4
      | 5 => e5
      | 6 => e6
      | _ => e7, fun k => match k with
      | 0 => f0
      | 1 => f1
      | 2 => f2
      | 3 => f3
      | 4 => f4
      | 5 => f5
      | 6 => f6
      | _ => f7), ?_⟩
    intro k q hq
    match k, hq with
    | 0, hq => cases hq; exact q0
    | 1, hq => cases hq; exact q1
    | 2, hq => cases hq; exact q2
    | 3, hq => cases hq; exact q3
    | 4, hq => cases hq; exact q4
    | 5, hq => cases hq; exact q5
    | 6, hq => cases hq; exact q6
    | 7, hq => cases hq; exact q7
    | k + 8, hq => simp [vwCl] at hq
  -- the arrays' classes
  have harr : ∀ t : FieldType, Cond.arrayClass t ∈ zgw → ∃ cA : ClassId, s.vm.findClass ("[" ++ t.toString) = some cA ∧ ArrOfT s cA t := by
    intro t ht
    obtain ⟨cA, kA, comp, h1, h2, h3⟩ := Cond.arrayClass_spec (hts0 _ (zg_w ht))
    exact ⟨cA, h1, fun n z => ⟨fun k h => (by cases h), kA, h2, comp, h3⟩⟩
  obtain ⟨c0, k0, a0⟩ := harr .int zw_int
  obtain ⟨c1, k1, a1⟩ := harr .long zw_long
  obtain ⟨c2, k2, a2⟩ := harr .double zw_dbl
  obtain ⟨comp3, c3, k3, h31, h32, h33, h34, h35⟩ := Cond.arrayOver_spec (hl1 (.arrayOver (.object "java/lang/Object")) (by simp))
  have a3 : ArrOfT s c3 (.object "java/lang/Object") := fun n z => ⟨fun k h => (by cases h), k3, h33, comp3, h34⟩
  obtain ⟨tc, ht0, ht1, ht2, ht3⟩ : ∃ tc : Nat → ClassId, tc 0 = c0 ∧ tc 1 = c1 ∧ tc 2 = c2 ∧ tc 3 = c3 := ⟨fun k => if k = 0 then c0 else if k = 1 then c1 else if k = 2 then c2 else c3, rfl, rfl, rfl, rfl⟩
  have hK : va_K G vwCl (ztys tc) s := by
    refine ⟨hG, ?_⟩
    intro k q hq
    match k, hq with
    | 0, hq => cases hq; rw [ht0]; exact ⟨a0, k0⟩
    | 1, hq => cases hq; rw [ht1]; exact ⟨a1, k1⟩
    | 2, hq => cases hq; rw [ht2]; exact ⟨a2, k2⟩
    | 3, hq => cases hq; rw [ht3]; exact ⟨a3, k3, comp3, h33, h34, h31, h35⟩
    | k + 4, hq => simp [ztys] at hq
  -- the statics
  have hA0 : ∀ a : Nat, a < s.heap.size → ¬ (fun q : Nat => s.heap.size ≤ q) a := fun a ha => Nat.not_le.mpr ha
  obtain ⟨tE, htE, hT⟩ := va_Tof (ty := .object "java/lang/Object") (N := 0) (f := fun _ => .null) (A := fun q : Nat => s.heap.size ≤ q) (by decide) (hn1 (.arrayOf (.static "java/util/ArrayList" "DEFAULTCAPACITY_EMPTY_ELEMENTDATA" "[Ljava/lang/Object;") (.object "java/lang/Object")) (by simp)) (va_eqt (hn1 _ (by simp))) (fun j hj => absurd hj (Nat.not_lt_zero j)) hA0
  have hZ := va_Zof (v := .ref tE) (A := fun q : Nat => s.heap.size ≤ q) (hl1 (.laysStatic "java/util/ArrayList" "DEFAULTCAPACITY_EMPTY_ELEMENTDATA" "[Ljava/lang/Object;") (by simp)) (hl1 (.initialized "java/util/ArrayList") (by simp)) htE hA0
  obtain ⟨mr, hM⟩ := va_Mi.of (hn1 (.isRef (.mirror "[Ljava/lang/Object;")) (by simp))
  have hU := vx_Zqof (A := fun q : Nat => s.heap.size ≤ q) (hl1 (.laysStatic Bundle.tN "UNASSIGNED_STACK" Bundle.steD) (by simp)) (hl1 (.initialized Bundle.tN) (by simp)) (hn1 (.isRef (.static "java/lang/Throwable" "UNASSIGNED_STACK" "[Ljava/lang/StackTraceElement;")) (by simp)) hA0
  have hN := vx_Zqof (A := fun q : Nat => s.heap.size ≤ q) (hl1 (.laysStatic Bundle.tN "SUPPRESSED_SENTINEL" Bundle.listD) (by simp)) (hl1 (.initialized Bundle.tN) (by simp)) (hn1 (.isRef (.static "java/lang/Throwable" "SUPPRESSED_SENTINEL" "Ljava/util/List;")) (by simp)) hA0
  obtain ⟨ad, hd0, hd1, hd2⟩ : ∃ ad : Nat → Nat, ad 0 = tE ∧ ad 1 = b ∧ ad 2 = mr := ⟨fun k => if k = 0 then tE else if k = 1 then b else mr, rfl, rfl, rfl⟩
  have hch : ZCh s (fun q : Nat => s.heap.size ≤ q) s.heap ad (L, xs) := ⟨⟨by rw [hd0]; exact hZ, by rw [hd0]; exact hT⟩, ⟨by rw [hd1]; exact hX, by rw [hd1]; exact hbl, by rw [hd1]; exact Nat.not_le.mpr hbl⟩, hU, hN⟩
  have hcv : ZCv s (ad 2) := by
    refine ⟨by rw [hd2]; exact hM, va_Dc.of (hl1 (.declares ⟨"java/lang/Object", "getClass", "()Ljava/lang/Class;"⟩) (by simp)), va_AO.of (hl1 (.arrayOver (.object "java/lang/Object")) (by simp)), fun w hw => ?_, fun C hC => ?_, fun w hw => ?_, fun E hE => ?_, fun E hE F hF n => ?_, fun x hx => ?_⟩
    · have h1 := List.all_eq_true.mp znar_st w hw
      rw [Bool.and_eq_true] at h1
      obtain ⟨a, c, cell, k, q1, -⟩ := Cond.exactly_spec (hnar _ (List.contains_iff_mem.mp h1.1))
      exact ⟨a, vk_R.of (hts0 _ (List.contains_iff_mem.mp h1.2)) q1⟩
    · exact va_Nw.of rfl (hts0 _ (List.contains_iff_mem.mp (List.all_eq_true.mp zlw_ca _ (List.mem_append_left _ (List.mem_map.mpr ⟨C, hC, rfl⟩)))))
    · exact va_Nw.of rfl (hts0 _ (List.contains_iff_mem.mp (List.all_eq_true.mp zlw_nw w hw)))
    · exact va_Nw.of rfl (hts0 _ (List.contains_iff_mem.mp (List.all_eq_true.mp zlw_ca _ (List.mem_append_right _ (List.mem_map.mpr ⟨E, hE, rfl⟩)))))
    · have h1 := List.all_eq_true.mp (List.all_eq_true.mp znar_nc E hE) F hF
      rw [Bool.or_eq_true] at h1
      rcases h1 with h1 | h1
      · exact absurd (of_decide_eq_true h1) n
      · exact va_Nc.of (hnar _ (List.contains_iff_mem.mp h1))
    · obtain ⟨w, hw, e⟩ := List.mem_filterMap.mp hx
      split at e
      · cases e
        exact va_Nw.of rfl (hts0 _ hw)
      · cases e
  -- the run
  obtain ⟨n, k, r, hrun, hr1, hr2⟩ := hpure (L, xs) hL
  refine W.base ?_
  have hdr := Drawn.sameBut.refl s.drawn lw_cs
  have hF : ZEv p l (s.setDrawn s.drawn) m #[Value.ref b] meth c G tc (fun q : Nat => s.heap.size ≤ q) ad (L, xs) zlaw := ⟨⟨hx, hb, hml, hown, fun w hw => dr_words hts0 _ w (zg_w hw)⟩, ⟨hK, fun q hq => hq, hlocks, hst, hr, fun e9 => absurd e9 (by decide +kernel)⟩, hch, hcv⟩
  have hz0 : zspc zD0 := ⟨by decide, fun a ha => by
    match a, ha with
    | 0, _ => rfl
    | 1, _ => rfl
    | 2, _ => rfl⟩
  have hok0 : zhok zD0 := by
    intro x hx9
    rcases List.mem_cons.mp hx9 with e | hx9
    · subst e; exact fun v hv => absurd hv List.not_mem_nil
    · rcases List.mem_cons.mp hx9 with e | hx9
      · subst e; exact fun v hv => absurd hv List.not_mem_nil
      · rw [List.mem_singleton.mp hx9]; exact fun v hv => absurd hv List.not_mem_nil
  obtain ⟨ls, he, hzl⟩ := zentry (ad := ad) (y := zlaw) (as := [.ref 1]) m rfl (by decide +kernel)
  have he2 : entryFrame m ([Value.ref b] : List Value).toArray 10 = F0 m 0 ls [] := by
    rw [← he]
    show _ = entryFrame m [zcv ad (.ref 1)].toArray (zml zlaw)
    rw [show zcv ad (.ref 1) = .ref b by simp only [zcv, hd1], show zml zlaw = 10 by decide +kernel]
  rw [he2]
  have hsim := zsim (R := room_1) (e := e) (below := below) (n0 := 3) (u0 := 0) (mi := zlaw) (d := 15) (r := r) (Q := lw_Z below #[Value.ref b] s) hF (fun z => absurd (show zhh zlaw = [] by decide +kernel) z) (by decide) rfl (by decide) ⟨by show r.2.1 - 0 ≤ 601024; omega, by show r.2.1 - 0 ≤ 7293034; omega⟩ (acall_u 15) (zct (l := l) (G := G) (tc := tc) hst (n := n) 15)
    (fun pc i len L' S st' hd hl hf => ?_) (fun pc L' st' E hh hr9 => by rw [hr9] at hr1; cases hr1) k 0 (zini zlaw [.ref 1]) [] (0, zD0) hrun
  · exact hsim ad s.heap [] ls ⟨⟨fun k q h => by simp [zws, zD0] at h, ⟨fun i j p q h => by simp [zws, zD0] at h, fun k q h => by simp [zws, zD0] at h⟩, va_S.rf⟩, ⟨hok0, hz0⟩, ⟨hzl, fun v hv => by
      rcases List.mem_append.mp hv with z | z
      · rw [List.mem_singleton.mp z]; exact zvok_ref (by decide)
      · rw [(List.mem_replicate.mp z).2]; exact zvok_junk, fun v hv => absurd hv List.not_mem_nil⟩, ⟨fun k _ => rfl, Nat.le_refl _, Nat.le_refl _, Nat.le_refl _⟩⟩
  · have hi := zfin_one hf hr1
    obtain ⟨rfl, rfl, e2⟩ := hi
    have e1 := eq_of_beq hl
    subst e1
    intro ad' H locs ls' h
    have hu : st'.1 ≤ 601024 := by rw [← e2]; exact hr2
    refine va_forget (fun q hq => h.1.2.2.2.2 q hq) ?_
    refine W.widen (k := 601024) (n := 7293034) (by omega) (by omega) ?_
    exact lw_ret hdr hx hb hr hlocks hd
