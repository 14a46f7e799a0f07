/-! JOBS: taken off; a try undone -/
section JB
variable {X : ZX} {d : Nat} {st : ZS} {G : CG} {V V' : CV} {P : ZO → ZS → Prop} {x y : Int32} {n m p q r j : Nat} {R : MR} {po pk : Nat → Int32} {f : Nat → Nat}
/-- a job's frame: what trying it or taking it off leaves -/
abbrev fN (V V' : CV) (j : Nat) : Prop := (∀ c k, c < 8 → ¬ (c < 2 ∧ (k = 3 ∨ k = j + 4)) → ¬ ((c = 5 ∨ c = 6) ∧ k = j) → V'.i c k = V.i c k) ∧ (V'.i 14 1 = V.i 14 1 ∧ V'.i 14 2 = V.i 14 2) ∧ (∀ k, V'.r 0 k = V.r 0 k) ∧ (∀ k, k ≠ 3 → k ≠ j + 4 → V'.e k = V.e k ∧ V'.c k = V.c k) ∧ V'.s = V.s ∧ V'.u = V.u ∧ nQ V ≤ nQ V'
theorem fN.i (h : fN V V' j) : ∀ c k, c < 8 → ¬ (c < 2 ∧ (k = 3 ∨ k = j + 4)) → ¬ ((c = 5 ∨ c = 6) ∧ k = j) → V'.i c k = V.i c k := h.1
theorem fN.w (h : fN V V' j) : V'.i 14 1 = V.i 14 1 ∧ V'.i 14 2 = V.i 14 2 := h.2.1
theorem fN.ro (h : fN V V' j) : ∀ k, V'.r 0 k = V.r 0 k := h.2.2.1
theorem fN.e (h : fN V V' j) : ∀ k, k ≠ 3 → k ≠ j + 4 → V'.e k = V.e k ∧ V'.c k = V.c k := h.2.2.2.1
theorem fN.s (h : fN V V' j) : V'.s = V.s := h.2.2.2.2.1
theorem fN.u (h : fN V V' j) : V'.u = V.u := h.2.2.2.2.2.1
theorem fN.qq (h : fN V V' j) : nQ V ≤ nQ V' := h.2.2.2.2.2.2
theorem fN.of (h : fP V V') : fN V V' j := ⟨fun c k hc h1 _ => h.i c k hc (by omega), h.w, h.r, fun k hk _ => h.e k hk, h.s, h.u, h.qq⟩
theorem fN.trans {V1 V2 V3 : CV} (h : fN V1 V2 j) (h2 : fN V2 V3 j) : fN V1 V3 j := ⟨fun c k a b e => (h2.i c k a b e).trans (h.i c k a b e), ⟨h2.w.1.trans h.w.1, h2.w.2.trans h.w.2⟩, fun k => (h2.ro k).trans (h.ro k), fun k a b => ⟨(h2.e k a b).1.trans (h.e k a b).1, (h2.e k a b).2.trans (h.e k a b).2⟩, h2.s.trans h.s, h2.u.trans h.u, Nat.le_trans h.qq h2.qq⟩
theorem fN.vi (h : fN V V' j) {c : Nat} (hc : c = 5 ∨ c = 6) : fN V (vI V' c j x) j := ⟨fun c' k a b e => (vI_oo (fun z => e ⟨by omega, z.2⟩)).trans (h.i c' k a b e), ⟨(vI_oo (by omega)).trans h.w.1, (vI_oo (by omega)).trans h.w.2⟩, h.ro, h.e, h.s, h.u, by
  have : nQ (vI V' c j x) = nQ V' := congrArg tN (vI_oo (by omega))
  rw [this]; exact h.qq⟩
theorem vZ_i {c k : Nat} (h : ¬ (c < 2 ∧ k = n)) : (vZ V n).i c k = V.i c k := by
  show (vI (vI V 0 n (V.i 0 n + 1)) 1 n 0).i c k = _
  rw [vI_oo (fun z => h ⟨by omega, z.2⟩), vI_oo (fun z => h ⟨by omega, z.2⟩)]
theorem vZ_e {k : Nat} : (vZ V n).e k = if k = n then (fun _ => none) else V.e k := rfl
theorem fN.vz (h : fN V V' j) : fN V (vZ V' (j + 4)) j := ⟨fun c k a b e => (vZ_i (by omega)).trans (h.i c k a b e), ⟨(vZ_i (by omega)).trans h.w.1, (vZ_i (by omega)).trans h.w.2⟩, h.ro, fun k a b => ⟨by rw [vZ_e, if_neg b]; exact (h.e k a b).1, (h.e k a b).2⟩, h.s, h.u, by
  have : nQ (vZ V' (j + 4)) = nQ V' := congrArg tN (vZ_i (by omega))
  rw [this]; exact h.qq⟩
theorem pot_vZ (hn : 3 < n) : pot (vZ V n) = pot V := by
  show 4 * sm (vZ V n).c 34 + (12 * tN ((vZ V n).i 1 3) + (33 * tN ((vZ V n).i 1 0) + 39 * tN ((vZ V n).i 1 1))) = 4 * sm V.c 34 + (12 * tN (V.i 1 3) + (33 * tN (V.i 1 0) + 39 * tN (V.i 1 1)))
  rw [vZ_i (by omega), vZ_i (by omega), vZ_i (by omega)]
  rfl
theorem CI.vz (I : CI G V) (hj : j < nJ V) : CI G (vZ V (j + 4)) := by
  have e0 : nD (vZ V (j + 4)) = nD V := congrArg tN (vZ_i (by omega))
  have e1 : nJ (vZ V (j + 4)) = nJ V := congrArg tN (vZ_i (by omega))
  have e2 : nC (vZ V (j + 4)) = nC V := congrArg tN (vZ_i (by omega))
  have e3 : nQ (vZ V (j + 4)) = nQ V := congrArg tN (vZ_i (by omega))
  have ho : ∀ {n m b : Nat}, n ≠ j + 4 → lok V n m b → lok (vZ V (j + 4)) n m b := fun {n m b} hn hl => lok_o hl (Nat.le_refl _) (vZ_i (fun z => hn z.2)) rfl (by rw [vZ_e, if_neg hn])
  refine ⟨?_, ?_, ?_, ?_, ?_, ?_, ?_, ?_, ?_⟩
  · rw [e0, e1, e3]; exact I.gi
  · rw [e0, vZ_e, if_neg (by omega)]; exact ⟨ho (by omega) I.ld.1, I.ld.2⟩
  · rw [e1, vZ_e, if_neg (by omega)]; exact ⟨ho (by omega) I.lj.1, I.lj.2⟩
  · rw [e1, e2]; exact ho (by omega) I.lc
  · rw [e3, vZ_e, if_neg (by omega)]; exact ⟨ho (by omega) I.lq.1, I.lq.2⟩
  · intro k hk
    rw [e1] at hk
    rw [e3]
    by_cases c : k = j
    · subst c
      have hz : nA (vZ V (k + 4)) k = 0 := congrArg tN (show (vZ V (k + 4)).i 1 (k + 4) = nI 0 from vI_ss)
      rw [hz]
      exact ⟨lok_Z (I.la k hk).1, Nat.zero_le _⟩
    · have hz : nA (vZ V (j + 4)) k = nA V k := congrArg tN (vZ_i (by omega))
      rw [hz]
      exact ⟨ho (by omega) (I.la k hk).1, (I.la k hk).2⟩
  · intro k hk
    rw [e1] at hk
    rw [e0]
    exact I.de k hk
  · rw [e3]; exact I.pr
  · rw [e3]; exact I.pw
theorem PI_o (J : PI V R n) (h : ∀ c q, 8 ≤ c → c ≤ 13 → V'.i c q = V.i c q) (h14 : V'.i 14 0 = V.i 14 0) (hQ : V'.i 1 3 = V.i 1 3) (hr : V'.r = V.r) : PI V' R n := by
  have e3 : nQ V' = nQ V := congrArg tN hQ
  refine ⟨h14.trans J.n0, by rw [e3]; exact J.le, fun q hq => ?_⟩
  have hJ := J.pp q hq
  refine ⟨fun c h8 h13 => (h c q h8 h13).trans (hJ.v c h8 h13), ?_, ?_, ?_, ?_⟩
  · rw [hr]; exact hJ.w
  · rw [hr]; exact hJ.ch
  · rw [hr]; exact hJ.lt
  · rw [hr]; exact hJ.no
theorem C_takeOff_l (h : cok st G) {c : Nat} (hn : n ≤ 400) (T : TI (R.1 12) (R.1 11) n) (F : frp (R.1 12) n) (hj : j < nJ V) (hf : ∀ i, i < c → f i < n ∧ R.1 11 (f i) = 1) (hd : ∀ a b, a < b → b < c → f a ≠ f b) (hA : V.i 1 (j + 4) = nI c) (hc : c ≤ 6) (he : ∀ i, i < c → V.e (j + 4) i = some (f i)) (K : ∀ V', fR V V' → CI G V' → PI V' (mA R 11 (tkc n (R.1 12) f (R.1 11) c)) n → AW X (d + 3) 4 33 [.ref (G.A (.jb j)), .int (nI c)] [] (cw st G V') P) : ∀ (k i : Nat) (V1 : CV), i + k = c → fR V V1 → CI G V1 → PI V1 (mA R 11 (tkc n (R.1 12) f (R.1 11) i)) n → AW X (d + 3) 4 2 [.ref (G.A (.jb j)), .int (nI i)] [] (cw st G V1) P := by
  intro k
  induction k with
  | zero =>
    intro i V1 hi F1 I1 J1
    have e : i = c := by omega
    subst e
    have hj1 : j < nJ V1 := by unfold nJ; rw [F1.1 1 1 (by decide)]; exact hj
    have hle : nI i ≤ nI i := nI_le (Nat.le_refl _) (by omega)
    rw [E_X1_takeOff_2]
    simp only [E_X1_takeOff_0, E_X1_takeOff_1, E_X1_takeOff_3, E_X1_takeOff_3n, E_X1_takeOff_4, E_X1_takeOff_7, E_X1_takeOff_10, E_X1_takeOff_13, E_X1_takeOff_13n, E_X1_takeOff_14, E_X1_takeOff_17, E_X1_takeOff_18, E_X1_takeOff_21, E_X1_takeOff_21n, E_X1_takeOff_24, E_X1_takeOff_27, E_X1_takeOff_30, E_X1_takeOff_34, E_X1_takeOff_37, E_X1_takeOff_40, E_X1_takeOff_40n, E_X1_takeOff_41, E_X1_takeOff_42, E_X1_takeOff_45, E_X1_takeOff_45n, E_X1_takeOff_46, E_X1_takeOff_47, E_X1_takeOff_50, zwith_some, zwith_none, zif_true, zaft_inl, Option.toList_some, Option.toList_none, List.cons_append, List.nil_append, zc1_int, zc1_ref, zc1_null, zc1_float, List.length_nil, List.length_cons, Nat.reduceAdd, Nat.reduceLeDiff, Nat.zero_add, z1and, z0and, zl00, zl01, zl02, zl03, ze00, ze10, ze20, ze30, if_true, if_false, cg_jb h (I1.jb hj1), cis_al h (I1.al (n := j + 4) (by omega)), C_size h (I1.al (n := j + 4) (by omega)), (F1.1 1 (j + 4) (by decide)).trans hA, hle]
    exact K V1 F1 I1 J1
  | succ k ih =>
    intro i V1 hi F1 I1 J1
    have hj1 : j < nJ V1 := by unfold nJ; rw [F1.1 1 1 (by decide)]; exact hj
    have hlt : ¬ nI c ≤ nI i := nI_ge (by omega) (by omega)
    have hs1 : V1.i 1 (j + 4) = nI c := (F1.1 1 (j + 4) (by decide)).trans hA
    have hnA : nA V1 j = c := by unfold nA; rw [hs1]; exact tN_nI (by omega)
    have hal := I1.al (n := j + 4) (by omega)
    have hla := (I1.la j hj1).1
    rw [hnA] at hla
    have har := I1.gr hla (by omega) (by omega)
    have hg := fun {d} {P} => C_get (X := X) (d := d) (P := P) (V := V1) (q := f i) h hal har hla (show i < c by omega) (by rw [F1.2.2.2.1]; exact he i (by omega))
    rw [show ek (j + 4) (f i) = CK.pc (f i) from rfl] at hg
    obtain ⟨T1, _, T3⟩ := tkc_RT F hn T hf hd i (by omega)
    have hlp := I1.pc (show f i < nQ V1 by have := J1.le.1; have := (hf i (by omega)).1; omega)
    rw [E_X1_takeOff_2]
    simp only [E_X1_takeOff_0, E_X1_takeOff_1, E_X1_takeOff_3, E_X1_takeOff_3n, E_X1_takeOff_4, E_X1_takeOff_7, E_X1_takeOff_10, E_X1_takeOff_13, E_X1_takeOff_13n, E_X1_takeOff_14, E_X1_takeOff_17, E_X1_takeOff_18, E_X1_takeOff_21, E_X1_takeOff_21n, E_X1_takeOff_24, E_X1_takeOff_27, E_X1_takeOff_30, E_X1_takeOff_34, E_X1_takeOff_37, E_X1_takeOff_40, E_X1_takeOff_40n, E_X1_takeOff_41, E_X1_takeOff_42, E_X1_takeOff_45, E_X1_takeOff_45n, E_X1_takeOff_46, E_X1_takeOff_47, E_X1_takeOff_50, zwith_some, zwith_none, zif_true, zaft_inl, Option.toList_some, Option.toList_none, List.cons_append, List.nil_append, zc1_int, zc1_ref, zc1_null, zc1_float, List.length_nil, List.length_cons, Nat.reduceAdd, Nat.reduceLeDiff, Nat.zero_add, z1and, z0and, zl00, zl01, zl02, zl03, ze00, ze10, ze20, ze30, if_true, if_false, cg_jb h (I1.jb hj1), cis_al h hal, C_size h hal, hs1, hlt, hg, cis_pc h hlp]
    refine C_rel (pk := tkc n (R.1 12) f (R.1 11) i) h I1 J1 T1.1 F (hf i (by omega)).1 (T3 i (Nat.le_refl _) (by omega)) ?_
    intro V2 F2 J2
    simp only [E_X1_takeOff_0, E_X1_takeOff_1, E_X1_takeOff_3, E_X1_takeOff_3n, E_X1_takeOff_4, E_X1_takeOff_7, E_X1_takeOff_10, E_X1_takeOff_13, E_X1_takeOff_13n, E_X1_takeOff_14, E_X1_takeOff_17, E_X1_takeOff_18, E_X1_takeOff_21, E_X1_takeOff_21n, E_X1_takeOff_24, E_X1_takeOff_27, E_X1_takeOff_30, E_X1_takeOff_34, E_X1_takeOff_37, E_X1_takeOff_40, E_X1_takeOff_40n, E_X1_takeOff_41, E_X1_takeOff_42, E_X1_takeOff_45, E_X1_takeOff_45n, E_X1_takeOff_46, E_X1_takeOff_47, E_X1_takeOff_50, zwith_some, zwith_none, zif_true, zaft_inl, Option.toList_some, Option.toList_none, List.cons_append, List.nil_append, zc1_int, zc1_ref, zc1_null, zc1_float, List.length_nil, List.length_cons, Nat.reduceAdd, Nat.reduceLeDiff, Nat.zero_add, z1and, z0and, zl00, zl01, zl02, zl03, ze00, ze10, ze20, ze30, if_true, if_false, nI_1]
    exact ih (i + 1) V2 (by omega) (F1.trans F2) (F2.ci I1) J2
theorem C_takeOff (h : cok st G) (I : CI G V) (J : PI V R n) (T : TI (R.1 12) (R.1 11) n) (F : frp (R.1 12) n) (hj : j < nJ V) {c : Nat} (hA : V.i 1 (j + 4) = nI c) (hc : c ≤ 6) (he : ∀ i, i < c → V.e (j + 4) i = some (f i)) (hf : ∀ i, i < c → f i < n ∧ R.1 11 (f i) = 1) (hd : ∀ a b, a < b → b < c → f a ≠ f b) (K : ∀ V', fN V V' j → CI G V' → pot V' = pot V → PI V' (mA R 11 (tks n (R.1 12) f c (R.1 11))) n → V'.i 1 (j + 4) = 0 → V'.i 5 j = 0 → V'.i 6 j = -1 → P (.inl none) (cw st G V')) : AC X (d + 4) 4 [.ref (G.A (.jb j))] (cw st G V) P := by
  have hn := J.le.2
  rw [A_X1_takeOff]
  simp only [E_X1_takeOff_0, E_X1_takeOff_1, E_X1_takeOff_3, E_X1_takeOff_3n, E_X1_takeOff_4, E_X1_takeOff_7, E_X1_takeOff_10, E_X1_takeOff_13, E_X1_takeOff_13n, E_X1_takeOff_14, E_X1_takeOff_17, E_X1_takeOff_18, E_X1_takeOff_21, E_X1_takeOff_21n, E_X1_takeOff_24, E_X1_takeOff_27, E_X1_takeOff_30, E_X1_takeOff_34, E_X1_takeOff_37, E_X1_takeOff_40, E_X1_takeOff_40n, E_X1_takeOff_41, E_X1_takeOff_42, E_X1_takeOff_45, E_X1_takeOff_45n, E_X1_takeOff_46, E_X1_takeOff_47, E_X1_takeOff_50, zwith_some, zwith_none, zif_true, zaft_inl, Option.toList_some, Option.toList_none, List.cons_append, List.nil_append, zc1_int, zc1_ref, zc1_null, zc1_float, List.length_nil, List.length_cons, Nat.reduceAdd, Nat.reduceLeDiff, Nat.zero_add, z1and, z0and, zl00, zl01, zl02, zl03, ze00, ze10, ze20, ze30, if_true, if_false]
  have J0 : PI V (mA R 11 (tkc n (R.1 12) f (R.1 11) 0)) n := by
    show PI V (mA R 11 (R.1 11)) n
    rw [mA_id]; exact J
  refine C_takeOff_l (f := f) (c := c) h hn T F hj hf hd hA hc he ?_ c 0 V (by omega) fR.refl I J0
  intro V1 F1 I1 J1
  have hj1 : j < nJ V1 := by unfold nJ; rw [F1.1 1 1 (by decide)]; exact hj
  have hal := I1.al (n := j + 4) (by omega)
  have I2 := I1.vz hj1
  have hj2 : j < nJ (vZ V1 (j + 4)) := by
    have : nJ (vZ V1 (j + 4)) = nJ V1 := congrArg tN (vZ_i (by omega))
    rw [this]; exact hj1
  have hcl := fun {d} {P} => C_clear (X := X) (d := d) (P := P) (V := V1) h hal (fun z => I1.ar (by omega) z) (I1.la j hj1).1
  simp only [E_X1_takeOff_0, E_X1_takeOff_1, E_X1_takeOff_3, E_X1_takeOff_3n, E_X1_takeOff_4, E_X1_takeOff_7, E_X1_takeOff_10, E_X1_takeOff_13, E_X1_takeOff_13n, E_X1_takeOff_14, E_X1_takeOff_17, E_X1_takeOff_18, E_X1_takeOff_21, E_X1_takeOff_21n, E_X1_takeOff_24, E_X1_takeOff_27, E_X1_takeOff_30, E_X1_takeOff_33, E_X1_takeOff_33n, E_X1_takeOff_34, E_X1_takeOff_37, E_X1_takeOff_40, E_X1_takeOff_40n, E_X1_takeOff_41, E_X1_takeOff_42, E_X1_takeOff_45, E_X1_takeOff_45n, E_X1_takeOff_46, E_X1_takeOff_47, E_X1_takeOff_50, zwith_some, zwith_none, zif_true, zaft_inl, Option.toList_some, Option.toList_none, List.cons_append, List.nil_append, zc1_int, zc1_ref, zc1_null, zc1_float, List.length_nil, List.length_cons, Nat.reduceAdd, Nat.reduceLeDiff, Nat.zero_add, z1and, z0and, zl00, zl01, zl02, zl03, ze00, ze10, ze20, ze30, if_true, if_false, cg_jb h (I1.jb hj1), cp_jb h (I1.jb hj1), cis_al h hal, hcl]
  have hfN : fN V (vI (vI (vZ V1 (j + 4)) 5 j 0) 6 j (-1)) j := (((fN.of F1.fp).vz).vi (.inl rfl)).vi (.inr rfl)
  refine K _ hfN (CI.vi (CI.vi I2 (by decide)) (by decide)) ?_ ?_ ?_ ?_ ?_
  · rw [pot_vI (by decide), pot_vI (by decide), pot_vZ (by omega)]
    exact F1.pt
  · rw [tks_tkc F hn T hf hd]
    refine PI_o J1 (fun c q h8 h13 => ?_) ?_ ?_ rfl
    · rw [vI_oo (by omega), vI_oo (by omega), vZ_i (by omega)]
    · rw [vI_oo (by omega), vI_oo (by omega), vZ_i (by omega)]
    · rw [vI_oo (by omega), vI_oo (by omega), vZ_i (by omega)]
  · rw [vI_oo (by omega), vI_oo (by omega)]
    exact vI_ss
  · rw [vI_oo (by omega), vI_ss]
  · rw [vI_ss]
/-- a whole that is put together again -/
def vW (V : CV) (k : Nat) : CV := vI (vJ V k) 13 k 0
def ud (w : Nat → Nat) : Nat → CV → CV
  | 0, V => V
  | c + 1, V => ud w c (vW V (w c))
theorem vW_r {a k : Nat} : (vW V k).r a q = if (a = 2 ∨ a = 3 ∨ a = 4) ∧ q = k then none else V.r a q := by
  show (vJ V k).r a q = _
  unfold vJ
  rw [vR_r, vR_r, vR_r]
  by_cases e : q = k
  · by_cases e4 : a = 4
    · rw [if_pos ⟨e4, e⟩, if_pos ⟨.inr (.inr e4), e⟩]
    · rw [if_neg (fun z => e4 z.1)]
      by_cases e3 : a = 3
      · rw [if_pos ⟨e3, e⟩, if_pos ⟨.inr (.inl e3), e⟩]
      · rw [if_neg (fun z => e3 z.1)]
        by_cases e2 : a = 2
        · rw [if_pos ⟨e2, e⟩, if_pos ⟨.inl e2, e⟩]
        · rw [if_neg (fun z => e2 z.1), if_neg (fun z => z.1.elim e2 fun z => z.elim e3 e4)]
  · rw [if_neg (fun z => e z.2), if_neg (fun z => e z.2), if_neg (fun z => e z.2), if_neg (fun z => e z.2)]
theorem vW_fR {k : Nat} : fR V (vW V k) := by
  refine ⟨fun c j hc => vI_oo (fun z => hc z.1), fun j => ⟨?_, ?_⟩, ?_, rfl, rfl, rfl, rfl⟩
  · rw [vW_r, if_neg (by omega)]
  · rw [vW_r, if_neg (by omega)]
  · intro a p q hq
    rw [vW_r] at hq
    split at hq
    · cases hq
    · exact hq
theorem ud_fR {w : Nat → Nat} : ∀ (c : Nat) (V : CV), fR V (ud w c V)
  | 0, V => fR.refl
  | c + 1, V => vW_fR.trans (ud_fR c _)
theorem ud_13 {w : Nat → Nat} : ∀ (c : Nat) (V : CV) (q : Nat), ((∃ a, a < c ∧ w a = q) → (ud w c V).i 13 q = 0 ∧ ∀ a, (a = 2 ∨ a = 3 ∨ a = 4) → (ud w c V).r a q = none) ∧ ((¬ ∃ a, a < c ∧ w a = q) → (ud w c V).i 13 q = V.i 13 q ∧ ∀ a, (ud w c V).r a q = V.r a q)
  | 0, V, q => ⟨fun ⟨a, ha, _⟩ => absurd ha (Nat.not_lt_zero a), fun _ => ⟨rfl, fun _ => rfl⟩⟩
  | c + 1, V, q => by
    obtain ⟨h1, h2⟩ := ud_13 c (vW V (w c)) q
    refine ⟨fun z => ?_, fun z => ?_⟩
    · by_cases e : ∃ a, a < c ∧ w a = q
      · exact h1 e
      · have hw : w c = q := by
          obtain ⟨a, ha, w1⟩ := z
          by_cases e2 : a = c
          · rw [← e2]; exact w1
          · exact absurd ⟨a, by omega, w1⟩ e
        obtain ⟨g1, g2⟩ := h2 e
        refine ⟨g1.trans (by rw [hw]; exact vI_ss), fun a ha => (g2 a).trans ?_⟩
        rw [vW_r, if_pos ⟨ha, hw.symm⟩]
    · have hne : w c ≠ q := fun e => z ⟨c, by omega, e⟩
      obtain ⟨g1, g2⟩ := h2 (fun ⟨a, ha, e⟩ => z ⟨a, by omega, e⟩)
      refine ⟨g1.trans (vI_oo (fun e => hne e.2.symm)), fun a => (g2 a).trans ?_⟩
      rw [vW_r, if_neg (fun e => hne e.2.symm)]
theorem C_undo_l (h : cok st G) {w : Nat → Nat} {n0 : Int32} (hj : j < nJ V) {c : Nat} (hc : c ≤ 6) (hA : V.i 1 (j + 4) = nI c) (he : ∀ i, i < c → V.e (j + 4) i = some (f i)) (hf : ∀ i, i < c → f i < nQ V ∧ V.r 1 (f i) = some (w i)) : ∀ (i : Nat) (V1 : CV) (l4 : Value), i ≤ c → fR V V1 → CI G V1 → AW X (d + 3) 45 7 [.ref (G.A .stk), .ref (G.A (.al (j + 4))), .int n0, .int (nI i - 1), l4] [] (cw st G V1) P = P (.inl none) (cw st G (vI (ud w i V1) 14 0 n0)) := by
  intro i
  induction i with
  | zero =>
    intro V1 l4 hi F1 I1
    rw [E_X4_undo_7]
    simp only [E_X4_undo_0, E_X4_undo_0n, E_X4_undo_1, E_X4_undo_4, E_X4_undo_5, E_X4_undo_6, E_X4_undo_8, E_X4_undo_11, E_X4_undo_11n, E_X4_undo_12, E_X4_undo_13, E_X4_undo_16, E_X4_undo_16n, E_X4_undo_19, E_X4_undo_22, E_X4_undo_22n, E_X4_undo_24, E_X4_undo_24n, E_X4_undo_26, E_X4_undo_26n, E_X4_undo_29, E_X4_undo_29n, E_X4_undo_31, E_X4_undo_34, E_X4_undo_34n, E_X4_undo_36, E_X4_undo_37, E_X4_undo_40, E_X4_undo_43, E_X4_undo_46, E_X4_undo_46n, E_X4_undo_47, E_X4_undo_48, E_X4_undo_51, zwith_some, zwith_none, zif_true, zaft_inl, Option.toList_some, Option.toList_none, List.cons_append, List.nil_append, zc1_int, zc1_ref, zc1_null, zc1_float, List.length_nil, List.length_cons, Nat.reduceAdd, Nat.reduceLeDiff, Nat.zero_add, z1and, z0and, zl00, zl01, zl02, zl03, ze00, ze10, ze20, ze30, if_true, if_false, show nI 0 - 1 = -1 from rfl, lm1, cg_stk h I1.stk, cp_stk h I1.stk]
    rfl
  | succ i ih =>
    intro V1 l4 hi F1 I1
    have hj1 : j < nJ V1 := by unfold nJ; rw [F1.1 1 1 (by decide)]; exact hj
    have hnn : ¬ nI i < 0 := nI_pos (by omega)
    have hs1 : V1.i 1 (j + 4) = nI c := (F1.1 1 (j + 4) (by decide)).trans hA
    have hnA : nA V1 j = c := by unfold nA; rw [hs1]; exact tN_nI (by omega)
    have hal := I1.al (n := j + 4) (by omega)
    have hla := (I1.la j hj1).1
    rw [hnA] at hla
    have har := I1.gr hla (by omega) (by omega)
    have hg := fun {d} {P} => C_get (X := X) (d := d) (P := P) (V := V1) (q := f i) h hal har hla (show i < c by omega) (by rw [F1.2.2.2.1]; exact he i (by omega))
    rw [show ek (j + 4) (f i) = CK.pc (f i) from rfl] at hg
    have hq1 : nQ V1 = nQ V := by unfold nQ; rw [F1.1 1 3 (by decide)]
    have hfi := hf i (by omega)
    have hlp := I1.pc (show f i < nQ V1 by omega)
    have hw : V1.r 1 (f i) = some (w i) := ((F1.2.1 (f i)).2).trans hfi.2
    have hlw := I1.pc (I1.pr (f i) (by omega) 1 (w i) (.inl rfl) hw)
    have e : nI i + (-1) = nI i - 1 := by rw [Int32.sub_eq_add_neg]
    rw [E_X4_undo_7]
    simp only [E_X4_undo_0, E_X4_undo_0n, E_X4_undo_1, E_X4_undo_4, E_X4_undo_5, E_X4_undo_6, E_X4_undo_8, E_X4_undo_11, E_X4_undo_11n, E_X4_undo_12, E_X4_undo_13, E_X4_undo_16, E_X4_undo_16n, E_X4_undo_19, E_X4_undo_22, E_X4_undo_22n, E_X4_undo_24, E_X4_undo_24n, E_X4_undo_26, E_X4_undo_26n, E_X4_undo_29, E_X4_undo_29n, E_X4_undo_31, E_X4_undo_34, E_X4_undo_34n, E_X4_undo_36, E_X4_undo_37, E_X4_undo_40, E_X4_undo_43, E_X4_undo_46, E_X4_undo_46n, E_X4_undo_47, E_X4_undo_48, E_X4_undo_51, zwith_some, zwith_none, zif_true, zaft_inl, Option.toList_some, Option.toList_none, List.cons_append, List.nil_append, zc1_int, zc1_ref, zc1_null, zc1_float, List.length_nil, List.length_cons, Nat.reduceAdd, Nat.reduceLeDiff, Nat.zero_add, z1and, z0and, zl00, zl01, zl02, zl03, ze00, ze10, ze20, ze30, if_true, if_false, nI_p1, hnn, cis_al h hal, hg, cis_pc h hlp, cg_pc h hlp, hw, rfv_s, cis_pc h hlw, C_join h hlw, cp_pc h hlw, cg_pc h hlw, e]
    exact ih (vW V1 (w i)) _ (by omega) (F1.trans vW_fR) (vW_fR.ci I1)
theorem C_undo (h : cok st G) (I : CI G V) {w : Nat → Nat} {n0 : Int32} (hj : j < nJ V) {c : Nat} (hc : c ≤ 6) (hA : V.i 1 (j + 4) = nI c) (he : ∀ i, i < c → V.e (j + 4) i = some (f i)) (hf : ∀ i, i < c → f i < nQ V ∧ V.r 1 (f i) = some (w i)) : AC X (d + 4) 45 [.ref (G.A .stk), .ref (G.A (.al (j + 4))), .int n0] (cw st G V) P = P (.inl none) (cw st G (vI (ud w c V) 14 0 n0)) := by
  have hal := I.al (n := j + 4) (by omega)
  rw [A_X4_undo rfl]
  simp only [E_X4_undo_0, E_X4_undo_0n, E_X4_undo_1, E_X4_undo_4, E_X4_undo_5, E_X4_undo_6, E_X4_undo_8, E_X4_undo_11, E_X4_undo_11n, E_X4_undo_12, E_X4_undo_13, E_X4_undo_16, E_X4_undo_16n, E_X4_undo_19, E_X4_undo_22, E_X4_undo_22n, E_X4_undo_24, E_X4_undo_24n, E_X4_undo_26, E_X4_undo_26n, E_X4_undo_29, E_X4_undo_29n, E_X4_undo_31, E_X4_undo_34, E_X4_undo_34n, E_X4_undo_36, E_X4_undo_37, E_X4_undo_40, E_X4_undo_43, E_X4_undo_46, E_X4_undo_46n, E_X4_undo_47, E_X4_undo_48, E_X4_undo_51, zwith_some, zwith_none, zif_true, zaft_inl, Option.toList_some, Option.toList_none, List.cons_append, List.nil_append, zc1_int, zc1_ref, zc1_null, zc1_float, List.length_nil, List.length_cons, Nat.reduceAdd, Nat.reduceLeDiff, Nat.zero_add, z1and, z0and, zl00, zl01, zl02, zl03, ze00, ze10, ze20, ze30, if_true, if_false, cis_al h hal, C_size h hal, hA]
  exact C_undo_l h hj hc hA he hf c V _ (Nat.le_refl _) fR.refl I
end JB
