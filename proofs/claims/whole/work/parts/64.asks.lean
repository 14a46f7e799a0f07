/-! THE CLASS'S METHODS that change nothing -/
section AS
variable {X : ZX} {d : Nat} {st st0 : ZS} {G G0 : CG} {V V' V0 : CV} {P : ZO → ZS → Prop} {x y z : Int32} {n m p q r j k : Nat} {R R0 R' : MR} {f g : Nat → Nat}
def sI : String := "java/lang/IndexOutOfBoundsException"
def sA : String := "java/lang/IllegalArgumentException"
def sS : String := "java/lang/IllegalStateException"
theorem cw_th : ((cw st G V).1 + 7, (cw st G V).2) = cw (st.1 + 7, st.2) G V := rfl
theorem rng_no {a : Nat} (ha : a < 2 ^ 31) (h : ¬ (0 ≤ x ∧ x ≤ nI a - 1)) : x < 0 ∨ nI a ≤ x := by
  rcases pk_ix x ha with z | z | ⟨j, hj, e⟩
  · exact .inl z
  · exact .inr z
  · refine absurd ⟨?_, ?_⟩ h
    · rw [e]; exact nI_pos' (by omega)
    · rw [e, show (1 : Int32) = nI 1 from rfl, pk_sub (by omega)]
      exact nI_le (by omega) (by omega)
theorem C_dAt (h : cok st G) (I : CI G V) : AC X (d + 6) 64 [.ref (G.A .kx), .int x] (cw st G V) P = if 0 ≤ x ∧ x ≤ nI (nD V) - 1 then P (.inl (some (.ref (G.A (.dr (tN x)))))) (cw st G V) else P (.inr sI) (cw (st.1 + 7, st.2) G V) := by
  have h12 := I.ld.2.1
  have hal := I.al (n := 0) (by omega)
  have z5 : (5 ≤ d + 5) = True := eq_true (by omega)
  rw [A_X5_drawingAt]
  by_cases c : 0 ≤ x ∧ x ≤ nI (nD V) - 1
  · obtain ⟨i, hi, rfl⟩ := nI_of_rng (by omega) c.1 c.2
    have ei : tN (nI i) = i := tN_nI (by omega)
    have hg := fun {d} {P} => C_get (X := X) (d := d) (P := P) (V := V) (q := i) h hal (I.gr I.ld.1 (by omega) (show 0 < nD V by omega)) I.ld.1 hi (I.ld.2.2 i hi)
    rw [show ek 0 i = CK.dr i from rfl] at hg
    rw [if_pos c, ei]
    simp only [E_X5_drawingAt_0, E_X5_drawingAt_1, E_X5_drawingAt_4, E_X5_drawingAt_5, E_X5_drawingAt_5n, E_X5_drawingAt_6, E_X5_drawingAt_9, E_X5_drawingAt_12, E_X5_drawingAt_15, E_X5_drawingAt_25, E_X5_drawingAt_25n, E_X5_drawingAt_26, E_X5_drawingAt_29, E_X5_drawingAt_30, E_X5_drawingAt_33, E_X5_drawingAt_33n, E_X5_drawingAt_36, E_X5_drawingAt_36n, zwith_some, zwith_none, zif_true, zaft_inl, Option.toList_some, Option.toList_none, List.cons_append, List.nil_append, zc1_int, zc1_ref, zc1_null, zc1_float, List.length_nil, List.length_cons, Nat.reduceAdd, Nat.reduceLeDiff, Nat.zero_add, z1and, z0and, zl00, zl01, zl02, zl03, ze00, ze10, ze20, ze30, if_true, if_false, show ¬ nI i < 0 from nI_pos (by omega), cg_kx h I.kx, cis_al h hal, C_size h hal, I.ld.1.sz, show nI i < nI (nD V) from nI_lt hi (by omega), hg, cis_dr h (I.dr hi)]
  · rw [if_neg c]
    rcases rng_no (by omega) c with w | w
    · simp only [E_X5_drawingAt_0, E_X5_drawingAt_1, E_X5_drawingAt_4, E_X5_drawingAt_5, E_X5_drawingAt_5n, E_X5_drawingAt_6, E_X5_drawingAt_9, E_X5_drawingAt_12, E_X5_drawingAt_15, E_X5_drawingAt_25, E_X5_drawingAt_25n, E_X5_drawingAt_26, E_X5_drawingAt_29, E_X5_drawingAt_30, E_X5_drawingAt_33, E_X5_drawingAt_33n, E_X5_drawingAt_36, E_X5_drawingAt_36n, zwith_some, zwith_none, zif_true, zaft_inl, Option.toList_some, Option.toList_none, List.cons_append, List.nil_append, zc1_int, zc1_ref, zc1_null, zc1_float, List.length_nil, List.length_cons, Nat.reduceAdd, Nat.reduceLeDiff, Nat.zero_add, z1and, z0and, zl00, zl01, zl02, zl03, ze00, ze10, ze20, ze30, if_true, if_false, w, z5]
      rfl
    · by_cases w0 : x < 0
      · simp only [E_X5_drawingAt_0, E_X5_drawingAt_1, E_X5_drawingAt_4, E_X5_drawingAt_5, E_X5_drawingAt_5n, E_X5_drawingAt_6, E_X5_drawingAt_9, E_X5_drawingAt_12, E_X5_drawingAt_15, E_X5_drawingAt_25, E_X5_drawingAt_25n, E_X5_drawingAt_26, E_X5_drawingAt_29, E_X5_drawingAt_30, E_X5_drawingAt_33, E_X5_drawingAt_33n, E_X5_drawingAt_36, E_X5_drawingAt_36n, zwith_some, zwith_none, zif_true, zaft_inl, Option.toList_some, Option.toList_none, List.cons_append, List.nil_append, zc1_int, zc1_ref, zc1_null, zc1_float, List.length_nil, List.length_cons, Nat.reduceAdd, Nat.reduceLeDiff, Nat.zero_add, z1and, z0and, zl00, zl01, zl02, zl03, ze00, ze10, ze20, ze30, if_true, if_false, w0, z5]
        rfl
      · simp only [E_X5_drawingAt_0, E_X5_drawingAt_1, E_X5_drawingAt_4, E_X5_drawingAt_5, E_X5_drawingAt_5n, E_X5_drawingAt_6, E_X5_drawingAt_9, E_X5_drawingAt_12, E_X5_drawingAt_15, E_X5_drawingAt_25, E_X5_drawingAt_25n, E_X5_drawingAt_26, E_X5_drawingAt_29, E_X5_drawingAt_30, E_X5_drawingAt_33, E_X5_drawingAt_33n, E_X5_drawingAt_36, E_X5_drawingAt_36n, zwith_some, zwith_none, zif_true, zaft_inl, Option.toList_some, Option.toList_none, List.cons_append, List.nil_append, zc1_int, zc1_ref, zc1_null, zc1_float, List.length_nil, List.length_cons, Nat.reduceAdd, Nat.reduceLeDiff, Nat.zero_add, z1and, z0and, zl00, zl01, zl02, zl03, ze00, ze10, ze20, ze30, if_true, if_false, w0, cg_kx h I.kx, cis_al h hal, C_size h hal, I.ld.1.sz, Int32.not_lt.mpr w, z5]
        rfl
theorem C_jAt (h : cok st G) (I : CI G V) : AC X (d + 6) 65 [.ref (G.A .kx), .int x] (cw st G V) P = if 0 ≤ x ∧ x ≤ nI (nJ V) - 1 then P (.inl (some (.ref (G.A (.jb (tN x)))))) (cw st G V) else P (.inr sI) (cw (st.1 + 7, st.2) G V) := by
  have h12 := I.lj.2.1
  have hal := I.al (n := 1) (by omega)
  have z5 : (5 ≤ d + 5) = True := eq_true (by omega)
  rw [A_X5_jobAt]
  by_cases c : 0 ≤ x ∧ x ≤ nI (nJ V) - 1
  · obtain ⟨i, hi, rfl⟩ := nI_of_rng (by omega) c.1 c.2
    have ei : tN (nI i) = i := tN_nI (by omega)
    have hg := fun {d} {P} => C_get (X := X) (d := d) (P := P) (V := V) (q := i) h hal (I.gr I.lj.1 (by omega) (show 0 < nJ V by omega)) I.lj.1 hi (I.lj.2.2 i hi)
    rw [show ek 1 i = CK.jb i from rfl] at hg
    rw [if_pos c, ei]
    simp only [E_X5_jobAt_0, E_X5_jobAt_1, E_X5_jobAt_4, E_X5_jobAt_5, E_X5_jobAt_5n, E_X5_jobAt_6, E_X5_jobAt_9, E_X5_jobAt_12, E_X5_jobAt_15, E_X5_jobAt_25, E_X5_jobAt_25n, E_X5_jobAt_26, E_X5_jobAt_29, E_X5_jobAt_30, E_X5_jobAt_33, E_X5_jobAt_33n, E_X5_jobAt_36, E_X5_jobAt_36n, zwith_some, zwith_none, zif_true, zaft_inl, Option.toList_some, Option.toList_none, List.cons_append, List.nil_append, zc1_int, zc1_ref, zc1_null, zc1_float, List.length_nil, List.length_cons, Nat.reduceAdd, Nat.reduceLeDiff, Nat.zero_add, z1and, z0and, zl00, zl01, zl02, zl03, ze00, ze10, ze20, ze30, if_true, if_false, show ¬ nI i < 0 from nI_pos (by omega), cg_kx h I.kx, cis_al h hal, C_size h hal, I.lj.1.sz, show nI i < nI (nJ V) from nI_lt hi (by omega), hg, cis_jb h (I.jb hi)]
  · rw [if_neg c]
    rcases rng_no (by omega) c with w | w
    · simp only [E_X5_jobAt_0, E_X5_jobAt_1, E_X5_jobAt_4, E_X5_jobAt_5, E_X5_jobAt_5n, E_X5_jobAt_6, E_X5_jobAt_9, E_X5_jobAt_12, E_X5_jobAt_15, E_X5_jobAt_25, E_X5_jobAt_25n, E_X5_jobAt_26, E_X5_jobAt_29, E_X5_jobAt_30, E_X5_jobAt_33, E_X5_jobAt_33n, E_X5_jobAt_36, E_X5_jobAt_36n, zwith_some, zwith_none, zif_true, zaft_inl, Option.toList_some, Option.toList_none, List.cons_append, List.nil_append, zc1_int, zc1_ref, zc1_null, zc1_float, List.length_nil, List.length_cons, Nat.reduceAdd, Nat.reduceLeDiff, Nat.zero_add, z1and, z0and, zl00, zl01, zl02, zl03, ze00, ze10, ze20, ze30, if_true, if_false, w, z5]
      rfl
    · by_cases w0 : x < 0
      · simp only [E_X5_jobAt_0, E_X5_jobAt_1, E_X5_jobAt_4, E_X5_jobAt_5, E_X5_jobAt_5n, E_X5_jobAt_6, E_X5_jobAt_9, E_X5_jobAt_12, E_X5_jobAt_15, E_X5_jobAt_25, E_X5_jobAt_25n, E_X5_jobAt_26, E_X5_jobAt_29, E_X5_jobAt_30, E_X5_jobAt_33, E_X5_jobAt_33n, E_X5_jobAt_36, E_X5_jobAt_36n, zwith_some, zwith_none, zif_true, zaft_inl, Option.toList_some, Option.toList_none, List.cons_append, List.nil_append, zc1_int, zc1_ref, zc1_null, zc1_float, List.length_nil, List.length_cons, Nat.reduceAdd, Nat.reduceLeDiff, Nat.zero_add, z1and, z0and, zl00, zl01, zl02, zl03, ze00, ze10, ze20, ze30, if_true, if_false, w0, z5]
        rfl
      · simp only [E_X5_jobAt_0, E_X5_jobAt_1, E_X5_jobAt_4, E_X5_jobAt_5, E_X5_jobAt_5n, E_X5_jobAt_6, E_X5_jobAt_9, E_X5_jobAt_12, E_X5_jobAt_15, E_X5_jobAt_25, E_X5_jobAt_25n, E_X5_jobAt_26, E_X5_jobAt_29, E_X5_jobAt_30, E_X5_jobAt_33, E_X5_jobAt_33n, E_X5_jobAt_36, E_X5_jobAt_36n, zwith_some, zwith_none, zif_true, zaft_inl, Option.toList_some, Option.toList_none, List.cons_append, List.nil_append, zc1_int, zc1_ref, zc1_null, zc1_float, List.length_nil, List.length_cons, Nat.reduceAdd, Nat.reduceLeDiff, Nat.zero_add, z1and, z0and, zl00, zl01, zl02, zl03, ze00, ze10, ze20, ze30, if_true, if_false, w0, cg_kx h I.kx, cis_al h hal, C_size h hal, I.lj.1.sz, Int32.not_lt.mpr w, z5]
        rfl
end AS
