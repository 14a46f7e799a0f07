/-! the reference's sheet, job, cancel -/
section RD
variable {X : ZX} {d : Nat} {st : ZS} {mo : Nat} {R : MR} {P : ZO → ZS → Prop} {x y z : Int32}
def sheW (R : MR) (w h : Int32) : Int32 := if ¬ ((1 ≤ w ∧ w ≤ 64) ∧ (1 ≤ h ∧ h ≤ 64)) then 1 else if R.2.1 15 = 8 ∨ R.2.1 14 = 400 then 2 else 0
def sheM (R : MR) (w h : Int32) : MR := mF (mAdd (mF R 25 0) (nP R) (R.2.1 15) 0 0 w h 0 (-1)) 15 (R.2.1 15 + 1)
def sheF (R : MR) (w h : Int32) : MR := trF (sheM R w h)
theorem IR_she {w hh : Int32} (I : IR R) (h1 : R.2.1 15 ≠ 8) (h2 : R.2.1 14 ≠ 400) : IR (sheM R w hh) := by
  have hs := I.s15
  have hp := I.p14
  have hs8 : tN (R.2.1 15) < 8 := by
    rcases Nat.lt_or_ge (tN (R.2.1 15)) 8 with c | c
    · exact c
    · exact absurd (by rw [hs.1, show tN (R.2.1 15) = 8 by omega]; rfl) h1
  have hp4 : nP R < 400 := by
    rcases Nat.lt_or_ge (nP R) 400 with c | c
    · exact c
    · exact absurd (by rw [hp.1, show nP R = 400 by omega]; rfl) h2
  have e14 : nP (sheM R w hh) = nP R + 1 := nI_clamp (by omega)
  have e15 : (sheM R w hh).2.1 15 = nI (tN (R.2.1 15) + 1) := by
    show R.2.1 15 + 1 = _
    rw [← nI_1, ← hs.1]
  have e15' : tN ((sheM R w hh).2.1 15) = tN (R.2.1 15) + 1 := by rw [e15]; exact tN_nI (by omega)
  refine ⟨I.d5, ?_, ?_, I.j21, I.dn, I.dz, I.df, I.pt, ?_, I.jd, I.jn, I.jk, I.jz, ?_⟩
  · rw [e14]; exact ⟨rfl, by omega⟩
  · rw [e15']; exact ⟨e15, by omega⟩
  · rw [e14]
    intro p hp
    show upd (R.1 12) (nP R) (-1) p < 0 ∨ ∃ q, q < p ∧ upd (R.1 12) (nP R) (-1) p = nI q
    by_cases c : p = nP R
    · subst c
      rw [pk_us]
      exact .inl (by decide)
    · rw [pk_un c]
      exact I.fr p (by omega)
  · intro j hj hs i hi
    rw [e14]
    have := I.jp j hj hs i hi
    exact ⟨this.1, Nat.lt_succ_of_lt this.2⟩
theorem l8n {n : Nat} (h : n < 2 ^ 31) : (nI n = 8) = (n = 8) := propext (nI_eq h (by decide))
theorem S_sheet (h : mok st mo) (I : IR R) : AC X (d + 7) 89 [.ref mo, .int x, .int y] (mw st mo R) P = if sheW R x y = 0 then P (.inl (some (.int ((sheF R x y).2.1 15 - 1)))) (mw st mo (sheF R x y)) else P (.inl (some (.int (-1)))) (mw st mo (mF R 25 (sheW R x y))) := by
  rw [A_X6_sheet]
  unfold sheW
  by_cases c1 : 1 ≤ x ∧ x ≤ 64
  · by_cases c2 : 1 ≤ y ∧ y ≤ 64
    · by_cases c3 : R.2.1 15 = 8
      · simp only [E_X6_sheet_0, E_X6_sheet_0n, E_X6_sheet_1, E_X6_sheet_2, E_X6_sheet_3, E_X6_sheet_5, E_X6_sheet_8, E_X6_sheet_11, E_X6_sheet_11n, E_X6_sheet_12, E_X6_sheet_13, E_X6_sheet_14, E_X6_sheet_16, E_X6_sheet_19, E_X6_sheet_22, E_X6_sheet_23, E_X6_sheet_26, E_X6_sheet_27, E_X6_sheet_28, E_X6_sheet_28n, E_X6_sheet_29, E_X6_sheet_30, E_X6_sheet_33, E_X6_sheet_34, E_X6_sheet_37, E_X6_sheet_37n, E_X6_sheet_38, E_X6_sheet_41, E_X6_sheet_43, E_X6_sheet_46, E_X6_sheet_46n, E_X6_sheet_47, E_X6_sheet_50, E_X6_sheet_53, E_X6_sheet_56, E_X6_sheet_57, E_X6_sheet_60, E_X6_sheet_61, E_X6_sheet_64, E_X6_sheet_67, E_X6_sheet_68, E_X6_sheet_69, E_X6_sheet_69n, E_X6_sheet_70, E_X6_sheet_70n, E_X6_sheet_71, E_X6_sheet_74, E_X6_sheet_75, E_X6_sheet_76, E_X6_sheet_77, E_X6_sheet_78, E_X6_sheet_79, E_X6_sheet_80, E_X6_sheet_83, E_X6_sheet_85, E_X6_sheet_85n, E_X6_sheet_86, E_X6_sheet_86n, E_X6_sheet_86i, E_X6_sheet_86f, E_X6_sheet_87, E_X6_sheet_90, E_X6_sheet_91, E_X6_sheet_92, E_X6_sheet_95, E_X6_sheet_95n, E_X6_sheet_96, E_X6_sheet_99, E_X6_sheet_99n, E_X6_sheet_100, E_X6_sheet_103, E_X6_sheet_104, E_X6_sheet_105, zwith_some, zwith_none, zif_true, zaft_inl, Option.toList_some, Option.toList_none, List.cons_append, List.nil_append, zc1_int, zc1_ref, zc1_null, zc1_float, List.length_nil, List.length_cons, Nat.reduceAdd, Nat.reduceLeDiff, Nat.zero_add, z1and, z0and, zl00, zl01, zl02, zl03, ze00, ze10, ze20, ze30, if_true, if_false, mget h, mput h, mis h, S_holds h, S_in, c1, c2, c3, and_self, not_true, not_false_iff, true_or, ze20]
      · by_cases c4 : R.2.1 14 = 400
        · simp only [E_X6_sheet_0, E_X6_sheet_0n, E_X6_sheet_1, E_X6_sheet_2, E_X6_sheet_3, E_X6_sheet_5, E_X6_sheet_8, E_X6_sheet_11, E_X6_sheet_11n, E_X6_sheet_12, E_X6_sheet_13, E_X6_sheet_14, E_X6_sheet_16, E_X6_sheet_19, E_X6_sheet_22, E_X6_sheet_23, E_X6_sheet_26, E_X6_sheet_27, E_X6_sheet_28, E_X6_sheet_28n, E_X6_sheet_29, E_X6_sheet_30, E_X6_sheet_33, E_X6_sheet_34, E_X6_sheet_37, E_X6_sheet_37n, E_X6_sheet_38, E_X6_sheet_41, E_X6_sheet_43, E_X6_sheet_46, E_X6_sheet_46n, E_X6_sheet_47, E_X6_sheet_50, E_X6_sheet_53, E_X6_sheet_56, E_X6_sheet_57, E_X6_sheet_60, E_X6_sheet_61, E_X6_sheet_64, E_X6_sheet_67, E_X6_sheet_68, E_X6_sheet_69, E_X6_sheet_69n, E_X6_sheet_70, E_X6_sheet_70n, E_X6_sheet_71, E_X6_sheet_74, E_X6_sheet_75, E_X6_sheet_76, E_X6_sheet_77, E_X6_sheet_78, E_X6_sheet_79, E_X6_sheet_80, E_X6_sheet_83, E_X6_sheet_85, E_X6_sheet_85n, E_X6_sheet_86, E_X6_sheet_86n, E_X6_sheet_86i, E_X6_sheet_86f, E_X6_sheet_87, E_X6_sheet_90, E_X6_sheet_91, E_X6_sheet_92, E_X6_sheet_95, E_X6_sheet_95n, E_X6_sheet_96, E_X6_sheet_99, E_X6_sheet_99n, E_X6_sheet_100, E_X6_sheet_103, E_X6_sheet_104, E_X6_sheet_105, zwith_some, zwith_none, zif_true, zaft_inl, Option.toList_some, Option.toList_none, List.cons_append, List.nil_append, zc1_int, zc1_ref, zc1_null, zc1_float, List.length_nil, List.length_cons, Nat.reduceAdd, Nat.reduceLeDiff, Nat.zero_add, z1and, z0and, zl00, zl01, zl02, zl03, ze00, ze10, ze20, ze30, if_true, if_false, mget h, mput h, mis h, S_holds h, S_in, c1, c2, c3, c4, and_self, not_true, not_false_iff, or_true, ze20]
        · have I2 := IR_she (w := x) (hh := y) I c3 c4
          have hp := I.p14
          have hp4 : nP R < 400 := by
            rcases Nat.lt_or_ge (nP R) 400 with c | c
            · exact c
            · exact absurd (by rw [hp.1, show nP R = 400 by omega]; rfl) c4
          have ha := fun {d} {P} => S_adds (X := X) (d := d) (P := P) (R := mF R 25 0) (s := R.2.1 15) (x := 0) (y := 0) (w := x) (hh := y) (k := 0) (o := -1) h hp4 hp.1
          have ht := fun {d} {P} => S_tries (X := X) (d := d) (P := P) h I2
          have e15 : (mAdd (mF R 25 0) (nP R) (R.2.1 15) 0 0 x y 0 (-1)).2.1 15 = R.2.1 15 := rfl
          simp only [E_X6_sheet_0, E_X6_sheet_0n, E_X6_sheet_1, E_X6_sheet_2, E_X6_sheet_3, E_X6_sheet_5, E_X6_sheet_8, E_X6_sheet_11, E_X6_sheet_11n, E_X6_sheet_12, E_X6_sheet_13, E_X6_sheet_14, E_X6_sheet_16, E_X6_sheet_19, E_X6_sheet_22, E_X6_sheet_23, E_X6_sheet_26, E_X6_sheet_27, E_X6_sheet_28, E_X6_sheet_28n, E_X6_sheet_29, E_X6_sheet_30, E_X6_sheet_33, E_X6_sheet_34, E_X6_sheet_37, E_X6_sheet_37n, E_X6_sheet_38, E_X6_sheet_41, E_X6_sheet_43, E_X6_sheet_46, E_X6_sheet_46n, E_X6_sheet_47, E_X6_sheet_50, E_X6_sheet_53, E_X6_sheet_56, E_X6_sheet_57, E_X6_sheet_60, E_X6_sheet_61, E_X6_sheet_64, E_X6_sheet_67, E_X6_sheet_68, E_X6_sheet_69, E_X6_sheet_69n, E_X6_sheet_70, E_X6_sheet_70n, E_X6_sheet_71, E_X6_sheet_74, E_X6_sheet_75, E_X6_sheet_76, E_X6_sheet_77, E_X6_sheet_78, E_X6_sheet_79, E_X6_sheet_80, E_X6_sheet_83, E_X6_sheet_85, E_X6_sheet_85n, E_X6_sheet_86, E_X6_sheet_86n, E_X6_sheet_86i, E_X6_sheet_86f, E_X6_sheet_87, E_X6_sheet_90, E_X6_sheet_91, E_X6_sheet_92, E_X6_sheet_95, E_X6_sheet_95n, E_X6_sheet_96, E_X6_sheet_99, E_X6_sheet_99n, E_X6_sheet_100, E_X6_sheet_103, E_X6_sheet_104, E_X6_sheet_105, zwith_some, zwith_none, zif_true, zaft_inl, Option.toList_some, Option.toList_none, List.cons_append, List.nil_append, zc1_int, zc1_ref, zc1_null, zc1_float, List.length_nil, List.length_cons, Nat.reduceAdd, Nat.reduceLeDiff, Nat.zero_add, z1and, z0and, zl00, zl01, zl02, zl03, ze00, ze10, ze20, ze30, if_true, if_false, mget h, mput h, mis h, S_holds h, S_in, c1, c2, c3, c4, and_self, not_true, not_false_iff, or_self, ze00, mF2, Nat.reduceEqDiff, ha, e15, show mF (mAdd (mF R 25 0) (nP R) (R.2.1 15) 0 0 x y 0 (-1)) 15 (R.2.1 15 + 1) = sheM R x y from rfl, ht]
          rfl
    · simp only [E_X6_sheet_0, E_X6_sheet_0n, E_X6_sheet_1, E_X6_sheet_2, E_X6_sheet_3, E_X6_sheet_5, E_X6_sheet_8, E_X6_sheet_11, E_X6_sheet_11n, E_X6_sheet_12, E_X6_sheet_13, E_X6_sheet_14, E_X6_sheet_16, E_X6_sheet_19, E_X6_sheet_22, E_X6_sheet_23, E_X6_sheet_26, E_X6_sheet_27, E_X6_sheet_28, E_X6_sheet_28n, E_X6_sheet_29, E_X6_sheet_30, E_X6_sheet_33, E_X6_sheet_34, E_X6_sheet_37, E_X6_sheet_37n, E_X6_sheet_38, E_X6_sheet_41, E_X6_sheet_43, E_X6_sheet_46, E_X6_sheet_46n, E_X6_sheet_47, E_X6_sheet_50, E_X6_sheet_53, E_X6_sheet_56, E_X6_sheet_57, E_X6_sheet_60, E_X6_sheet_61, E_X6_sheet_64, E_X6_sheet_67, E_X6_sheet_68, E_X6_sheet_69, E_X6_sheet_69n, E_X6_sheet_70, E_X6_sheet_70n, E_X6_sheet_71, E_X6_sheet_74, E_X6_sheet_75, E_X6_sheet_76, E_X6_sheet_77, E_X6_sheet_78, E_X6_sheet_79, E_X6_sheet_80, E_X6_sheet_83, E_X6_sheet_85, E_X6_sheet_85n, E_X6_sheet_86, E_X6_sheet_86n, E_X6_sheet_86i, E_X6_sheet_86f, E_X6_sheet_87, E_X6_sheet_90, E_X6_sheet_91, E_X6_sheet_92, E_X6_sheet_95, E_X6_sheet_95n, E_X6_sheet_96, E_X6_sheet_99, E_X6_sheet_99n, E_X6_sheet_100, E_X6_sheet_103, E_X6_sheet_104, E_X6_sheet_105, zwith_some, zwith_none, zif_true, zaft_inl, Option.toList_some, Option.toList_none, List.cons_append, List.nil_append, zc1_int, zc1_ref, zc1_null, zc1_float, List.length_nil, List.length_cons, Nat.reduceAdd, Nat.reduceLeDiff, Nat.zero_add, z1and, z0and, zl00, zl01, zl02, zl03, ze00, ze10, ze20, ze30, if_true, if_false, mget h, mput h, mis h, S_holds h, S_in, c1, c2, and_self, and_false, false_and, not_true, not_false_iff, ze10]
  · simp only [E_X6_sheet_0, E_X6_sheet_0n, E_X6_sheet_1, E_X6_sheet_2, E_X6_sheet_3, E_X6_sheet_5, E_X6_sheet_8, E_X6_sheet_11, E_X6_sheet_11n, E_X6_sheet_12, E_X6_sheet_13, E_X6_sheet_14, E_X6_sheet_16, E_X6_sheet_19, E_X6_sheet_22, E_X6_sheet_23, E_X6_sheet_26, E_X6_sheet_27, E_X6_sheet_28, E_X6_sheet_28n, E_X6_sheet_29, E_X6_sheet_30, E_X6_sheet_33, E_X6_sheet_34, E_X6_sheet_37, E_X6_sheet_37n, E_X6_sheet_38, E_X6_sheet_41, E_X6_sheet_43, E_X6_sheet_46, E_X6_sheet_46n, E_X6_sheet_47, E_X6_sheet_50, E_X6_sheet_53, E_X6_sheet_56, E_X6_sheet_57, E_X6_sheet_60, E_X6_sheet_61, E_X6_sheet_64, E_X6_sheet_67, E_X6_sheet_68, E_X6_sheet_69, E_X6_sheet_69n, E_X6_sheet_70, E_X6_sheet_70n, E_X6_sheet_71, E_X6_sheet_74, E_X6_sheet_75, E_X6_sheet_76, E_X6_sheet_77, E_X6_sheet_78, E_X6_sheet_79, E_X6_sheet_80, E_X6_sheet_83, E_X6_sheet_85, E_X6_sheet_85n, E_X6_sheet_86, E_X6_sheet_86n, E_X6_sheet_86i, E_X6_sheet_86f, E_X6_sheet_87, E_X6_sheet_90, E_X6_sheet_91, E_X6_sheet_92, E_X6_sheet_95, E_X6_sheet_95n, E_X6_sheet_96, E_X6_sheet_99, E_X6_sheet_99n, E_X6_sheet_100, E_X6_sheet_103, E_X6_sheet_104, E_X6_sheet_105, zwith_some, zwith_none, zif_true, zaft_inl, Option.toList_some, Option.toList_none, List.cons_append, List.nil_append, zc1_int, zc1_ref, zc1_null, zc1_float, List.length_nil, List.length_cons, Nat.reduceAdd, Nat.reduceLeDiff, Nat.zero_add, z1and, z0and, zl00, zl01, zl02, zl03, ze00, ze10, ze20, ze30, if_true, if_false, mget h, mput h, mis h, S_holds h, S_in, c1, and_self, and_false, false_and, not_true, not_false_iff, ze10]
def jobW (R : MR) (x y : Int32) : Int32 := if ¬ (0 ≤ x ∧ x ≤ R.2.1 5 - 1) then 1 else if ¬ (1 ≤ y ∧ y ≤ 6) then 2 else if R.1 0 (tN x) = 0 ∨ R.2.1 21 = 30 then 3 else 0
def jobM (R : MR) (x y : Int32) : MR := mF (mA (mA (mF R 25 0) 13 (upd (R.1 13) (tN (R.2.1 21)) x)) 14 (upd (R.1 14) (tN (R.2.1 21)) y)) 21 (R.2.1 21 + 1)
def jobF (R : MR) (x y : Int32) : MR := nsF (jobM R x y) (tN (R.2.1 21))
theorem IR_job {i c : Nat} (I : IR R) (hi : i < tN (R.2.1 5)) (hc : 1 ≤ c ∧ c ≤ 6) (h30 : tN (R.2.1 21) < 30) : IR (jobM R (nI i) (nI c)) ∧ tN ((jobM R (nI i) (nI c)).2.1 21) = tN (R.2.1 21) + 1 := by
  have e21 : (jobM R (nI i) (nI c)).2.1 21 = nI (tN (R.2.1 21) + 1) := by
    show R.2.1 21 + 1 = _
    rw [← nI_1, ← I.j21.1]
  have e21' : tN ((jobM R (nI i) (nI c)).2.1 21) = tN (R.2.1 21) + 1 := by rw [e21]; exact tN_nI (by omega)
  have h12 := I.d5.2
  refine ⟨⟨I.d5, I.p14, I.s15, ?_, I.dn, I.dz, I.df, I.pt, I.fr, ?_, ?_, ?_, ?_, ?_⟩, e21'⟩
  · rw [e21']; exact ⟨e21, by omega⟩
  · rw [e21']
    intro j hj
    show upd (R.1 13) (tN (R.2.1 21)) (nI i) j = nI (tN (upd (R.1 13) (tN (R.2.1 21)) (nI i) j)) ∧ tN (upd (R.1 13) (tN (R.2.1 21)) (nI i) j) < tN (R.2.1 5)
    by_cases e : j = tN (R.2.1 21)
    · subst e
      rw [pk_us, tN_nI (by omega)]
      exact ⟨rfl, hi⟩
    · rw [pk_un e]
      exact I.jd j (by omega)
  · rw [e21']
    intro j hj
    show upd (R.1 14) (tN (R.2.1 21)) (nI c) j = nI (tN (upd (R.1 14) (tN (R.2.1 21)) (nI c) j)) ∧ 1 ≤ tN (upd (R.1 14) (tN (R.2.1 21)) (nI c) j) ∧ tN (upd (R.1 14) (tN (R.2.1 21)) (nI c) j) ≤ 6
    by_cases e : j = tN (R.2.1 21)
    · subst e
      rw [pk_us, tN_nI (by omega)]
      exact ⟨rfl, hc⟩
    · rw [pk_un e]
      exact I.jn j (by omega)
  · rw [e21']
    intro j hj
    by_cases e : j = tN (R.2.1 21)
    · subst e
      exact .inl (I.jz _ h30 (Nat.le_refl _))
    · exact I.jk j (by omega)
  · rw [e21']
    intro j hj hj2
    exact I.jz j hj (by omega)
  · rw [e21']
    intro j hj hs
    by_cases e : j = tN (R.2.1 21)
    · subst e
      have := I.jz _ h30 (Nat.le_refl _)
      have hs : R.1 15 (tN (R.2.1 21)) = 1 ∨ R.1 15 (tN (R.2.1 21)) = 2 := hs
      rw [this] at hs
      exact absurd hs (by decide)
    · intro a ha
      have ha : a < tN (upd (R.1 14) (tN (R.2.1 21)) (nI c) j) := ha
      rw [pk_un e] at ha
      exact I.jp j (by omega) hs a ha
theorem S_job (h : mok st mo) (I : IR R) : AC X (d + 7) 98 [.ref mo, .int x, .int y] (mw st mo R) P = if jobW R x y = 0 then P (.inl (some (.int ((jobF R x y).2.1 21 - 1)))) (mw st mo (jobF R x y)) else P (.inl (some (.int (-1)))) (mw st mo (mF R 25 (jobW R x y))) := by
  rw [A_X6_job]
  unfold jobW
  by_cases c : 0 ≤ x ∧ x ≤ R.2.1 5 - 1
  · have c' := c
    rw [I.d5.1] at c'
    have h12 := I.d5.2
    obtain ⟨i, hi, rfl⟩ := nI_of_rng (by omega) c'.1 c'.2
    have ei : tN (nI i) = i := tN_nI (by omega)
    have hz := zix_nI (show i < 12 by omega) (by decide)
    by_cases c2 : 1 ≤ y ∧ y ≤ 6
    · by_cases c3 : R.1 0 i = 0
      · simp only [E_X6_job_0, E_X6_job_0n, E_X6_job_1, E_X6_job_2, E_X6_job_5, E_X6_job_6, E_X6_job_6n, E_X6_job_7, E_X6_job_8, E_X6_job_11, E_X6_job_12, E_X6_job_15, E_X6_job_15n, E_X6_job_16, E_X6_job_17, E_X6_job_18, E_X6_job_20, E_X6_job_23, E_X6_job_26, E_X6_job_27, E_X6_job_30, E_X6_job_30n, E_X6_job_31, E_X6_job_34, E_X6_job_35, E_X6_job_36, E_X6_job_39, E_X6_job_39n, E_X6_job_40, E_X6_job_43, E_X6_job_45, E_X6_job_48, E_X6_job_49, E_X6_job_52, E_X6_job_53, E_X6_job_56, E_X6_job_59, E_X6_job_60, E_X6_job_61, E_X6_job_61n, E_X6_job_62, E_X6_job_65, E_X6_job_65n, E_X6_job_66, E_X6_job_69, E_X6_job_70, E_X6_job_71, E_X6_job_71n, E_X6_job_72, E_X6_job_75, E_X6_job_75n, E_X6_job_76, E_X6_job_79, E_X6_job_80, E_X6_job_81, E_X6_job_81n, E_X6_job_82, E_X6_job_82n, E_X6_job_82i, E_X6_job_82f, E_X6_job_83, E_X6_job_86, E_X6_job_87, E_X6_job_88, E_X6_job_91, E_X6_job_91n, E_X6_job_92, E_X6_job_92n, E_X6_job_93, E_X6_job_96, E_X6_job_97, E_X6_job_98, E_X6_job_101, E_X6_job_101n, E_X6_job_102, E_X6_job_105, E_X6_job_106, E_X6_job_107, zwith_some, zwith_none, zif_true, zaft_inl, Option.toList_some, Option.toList_none, List.cons_append, List.nil_append, zc1_int, zc1_ref, zc1_null, zc1_float, List.length_nil, List.length_cons, Nat.reduceAdd, Nat.reduceLeDiff, Nat.zero_add, z1and, z0and, zl00, zl01, zl02, zl03, ze00, ze10, ze20, ze30, if_true, if_false, mget h, mput h, mrd h, mis h, S_holds h, S_isDrawing h, S_in, c, c2, c3, hz, ei, and_self, not_true, not_false_iff, true_or, ze30]
      · by_cases c4 : R.2.1 21 = 30
        · simp only [E_X6_job_0, E_X6_job_0n, E_X6_job_1, E_X6_job_2, E_X6_job_5, E_X6_job_6, E_X6_job_6n, E_X6_job_7, E_X6_job_8, E_X6_job_11, E_X6_job_12, E_X6_job_15, E_X6_job_15n, E_X6_job_16, E_X6_job_17, E_X6_job_18, E_X6_job_20, E_X6_job_23, E_X6_job_26, E_X6_job_27, E_X6_job_30, E_X6_job_30n, E_X6_job_31, E_X6_job_34, E_X6_job_35, E_X6_job_36, E_X6_job_39, E_X6_job_39n, E_X6_job_40, E_X6_job_43, E_X6_job_45, E_X6_job_48, E_X6_job_49, E_X6_job_52, E_X6_job_53, E_X6_job_56, E_X6_job_59, E_X6_job_60, E_X6_job_61, E_X6_job_61n, E_X6_job_62, E_X6_job_65, E_X6_job_65n, E_X6_job_66, E_X6_job_69, E_X6_job_70, E_X6_job_71, E_X6_job_71n, E_X6_job_72, E_X6_job_75, E_X6_job_75n, E_X6_job_76, E_X6_job_79, E_X6_job_80, E_X6_job_81, E_X6_job_81n, E_X6_job_82, E_X6_job_82n, E_X6_job_82i, E_X6_job_82f, E_X6_job_83, E_X6_job_86, E_X6_job_87, E_X6_job_88, E_X6_job_91, E_X6_job_91n, E_X6_job_92, E_X6_job_92n, E_X6_job_93, E_X6_job_96, E_X6_job_97, E_X6_job_98, E_X6_job_101, E_X6_job_101n, E_X6_job_102, E_X6_job_105, E_X6_job_106, E_X6_job_107, zwith_some, zwith_none, zif_true, zaft_inl, Option.toList_some, Option.toList_none, List.cons_append, List.nil_append, zc1_int, zc1_ref, zc1_null, zc1_float, List.length_nil, List.length_cons, Nat.reduceAdd, Nat.reduceLeDiff, Nat.zero_add, z1and, z0and, zl00, zl01, zl02, zl03, ze00, ze10, ze20, ze30, if_true, if_false, mget h, mput h, mrd h, mis h, S_holds h, S_isDrawing h, S_in, c, c2, c3, c4, hz, ei, and_self, not_true, not_false_iff, or_true, ze30]
        · have h30 : tN (R.2.1 21) < 30 := by
            have := I.j21
            rcases Nat.lt_or_ge (tN (R.2.1 21)) 30 with q | q
            · exact q
            · exact absurd (by rw [this.1, show tN (R.2.1 21) = 30 by omega]; rfl) c4
          obtain ⟨k, hk, ek⟩ := nI_of2 (x := y) (M := 6) (n := 6) rfl (fun z => by have := Int32.lt_of_le_of_lt c2.1 z; exact absurd this (by decide)) c2.2
          subst ek
          have hk1 : 1 ≤ k := by
            rcases Nat.eq_zero_or_pos k with q | q
            · subst q; exact absurd c2.1 (by decide)
            · exact q
          obtain ⟨I2, e21⟩ := IR_job (c := k) I hi ⟨hk1, hk⟩ h30
          have hzj := zix_nI (show tN (R.2.1 21) < 30 by omega) (by decide)
          rw [← I.j21.1] at hzj
          have hn := fun {d} {P} => S_nestsI (X := X) (d := d) (P := P) (R := jobM R (nI i) (nI k)) h I2 (j := tN (R.2.1 21)) (by omega)
          rw [← I.j21.1] at hn
          have e1 : R.2.1 21 + 1 - 1 = R.2.1 21 := by rw [I.j21.1, nI_1, nI_p1]
          simp only [E_X6_job_0, E_X6_job_0n, E_X6_job_1, E_X6_job_2, E_X6_job_5, E_X6_job_6, E_X6_job_6n, E_X6_job_7, E_X6_job_8, E_X6_job_11, E_X6_job_12, E_X6_job_15, E_X6_job_15n, E_X6_job_16, E_X6_job_17, E_X6_job_18, E_X6_job_20, E_X6_job_23, E_X6_job_26, E_X6_job_27, E_X6_job_30, E_X6_job_30n, E_X6_job_31, E_X6_job_34, E_X6_job_35, E_X6_job_36, E_X6_job_39, E_X6_job_39n, E_X6_job_40, E_X6_job_43, E_X6_job_45, E_X6_job_48, E_X6_job_49, E_X6_job_52, E_X6_job_53, E_X6_job_56, E_X6_job_59, E_X6_job_60, E_X6_job_61, E_X6_job_61n, E_X6_job_62, E_X6_job_65, E_X6_job_65n, E_X6_job_66, E_X6_job_69, E_X6_job_70, E_X6_job_71, E_X6_job_71n, E_X6_job_72, E_X6_job_75, E_X6_job_75n, E_X6_job_76, E_X6_job_79, E_X6_job_80, E_X6_job_81, E_X6_job_81n, E_X6_job_82, E_X6_job_82n, E_X6_job_82i, E_X6_job_82f, E_X6_job_83, E_X6_job_86, E_X6_job_87, E_X6_job_88, E_X6_job_91, E_X6_job_91n, E_X6_job_92, E_X6_job_92n, E_X6_job_93, E_X6_job_96, E_X6_job_97, E_X6_job_98, E_X6_job_101, E_X6_job_101n, E_X6_job_102, E_X6_job_105, E_X6_job_106, E_X6_job_107, zwith_some, zwith_none, zif_true, zaft_inl, Option.toList_some, Option.toList_none, List.cons_append, List.nil_append, zc1_int, zc1_ref, zc1_null, zc1_float, List.length_nil, List.length_cons, Nat.reduceAdd, Nat.reduceLeDiff, Nat.zero_add, z1and, z0and, zl00, zl01, zl02, zl03, ze00, ze10, ze20, ze30, if_true, if_false, mget h, mput h, mrd h, mrI h, mst h, mis h, S_holds h, S_isDrawing h, S_in, c, c2, c3, c4, hz, ei, and_self, not_true, not_false_iff, or_self, ze00, hzj, mA1, mA2, mF1, mF2, Nat.reduceEqDiff, show mF (mA (mA (mF R 25 0) 13 (upd (R.1 13) (tN (R.2.1 21)) (nI i))) 14 (upd (R.1 14) (tN (R.2.1 21)) (nI k))) 21 (R.2.1 21 + 1) = jobM R (nI i) (nI k) from rfl, show (jobM R (nI i) (nI k)).2.1 21 = R.2.1 21 + 1 from rfl, e1, hn]
          rfl
    · simp only [E_X6_job_0, E_X6_job_0n, E_X6_job_1, E_X6_job_2, E_X6_job_5, E_X6_job_6, E_X6_job_6n, E_X6_job_7, E_X6_job_8, E_X6_job_11, E_X6_job_12, E_X6_job_15, E_X6_job_15n, E_X6_job_16, E_X6_job_17, E_X6_job_18, E_X6_job_20, E_X6_job_23, E_X6_job_26, E_X6_job_27, E_X6_job_30, E_X6_job_30n, E_X6_job_31, E_X6_job_34, E_X6_job_35, E_X6_job_36, E_X6_job_39, E_X6_job_39n, E_X6_job_40, E_X6_job_43, E_X6_job_45, E_X6_job_48, E_X6_job_49, E_X6_job_52, E_X6_job_53, E_X6_job_56, E_X6_job_59, E_X6_job_60, E_X6_job_61, E_X6_job_61n, E_X6_job_62, E_X6_job_65, E_X6_job_65n, E_X6_job_66, E_X6_job_69, E_X6_job_70, E_X6_job_71, E_X6_job_71n, E_X6_job_72, E_X6_job_75, E_X6_job_75n, E_X6_job_76, E_X6_job_79, E_X6_job_80, E_X6_job_81, E_X6_job_81n, E_X6_job_82, E_X6_job_82n, E_X6_job_82i, E_X6_job_82f, E_X6_job_83, E_X6_job_86, E_X6_job_87, E_X6_job_88, E_X6_job_91, E_X6_job_91n, E_X6_job_92, E_X6_job_92n, E_X6_job_93, E_X6_job_96, E_X6_job_97, E_X6_job_98, E_X6_job_101, E_X6_job_101n, E_X6_job_102, E_X6_job_105, E_X6_job_106, E_X6_job_107, zwith_some, zwith_none, zif_true, zaft_inl, Option.toList_some, Option.toList_none, List.cons_append, List.nil_append, zc1_int, zc1_ref, zc1_null, zc1_float, List.length_nil, List.length_cons, Nat.reduceAdd, Nat.reduceLeDiff, Nat.zero_add, z1and, z0and, zl00, zl01, zl02, zl03, ze00, ze10, ze20, ze30, if_true, if_false, mget h, mput h, mrd h, mis h, S_holds h, S_isDrawing h, S_in, c, c2, hz, ei, and_self, not_true, not_false_iff, ze20]
  · simp only [E_X6_job_0, E_X6_job_0n, E_X6_job_1, E_X6_job_2, E_X6_job_5, E_X6_job_6, E_X6_job_6n, E_X6_job_7, E_X6_job_8, E_X6_job_11, E_X6_job_12, E_X6_job_15, E_X6_job_15n, E_X6_job_16, E_X6_job_17, E_X6_job_18, E_X6_job_20, E_X6_job_23, E_X6_job_26, E_X6_job_27, E_X6_job_30, E_X6_job_30n, E_X6_job_31, E_X6_job_34, E_X6_job_35, E_X6_job_36, E_X6_job_39, E_X6_job_39n, E_X6_job_40, E_X6_job_43, E_X6_job_45, E_X6_job_48, E_X6_job_49, E_X6_job_52, E_X6_job_53, E_X6_job_56, E_X6_job_59, E_X6_job_60, E_X6_job_61, E_X6_job_61n, E_X6_job_62, E_X6_job_65, E_X6_job_65n, E_X6_job_66, E_X6_job_69, E_X6_job_70, E_X6_job_71, E_X6_job_71n, E_X6_job_72, E_X6_job_75, E_X6_job_75n, E_X6_job_76, E_X6_job_79, E_X6_job_80, E_X6_job_81, E_X6_job_81n, E_X6_job_82, E_X6_job_82n, E_X6_job_82i, E_X6_job_82f, E_X6_job_83, E_X6_job_86, E_X6_job_87, E_X6_job_88, E_X6_job_91, E_X6_job_91n, E_X6_job_92, E_X6_job_92n, E_X6_job_93, E_X6_job_96, E_X6_job_97, E_X6_job_98, E_X6_job_101, E_X6_job_101n, E_X6_job_102, E_X6_job_105, E_X6_job_106, E_X6_job_107, zwith_some, zwith_none, zif_true, zaft_inl, Option.toList_some, Option.toList_none, List.cons_append, List.nil_append, zc1_int, zc1_ref, zc1_null, zc1_float, List.length_nil, List.length_cons, Nat.reduceAdd, Nat.reduceLeDiff, Nat.zero_add, z1and, z0and, zl00, zl01, zl02, zl03, ze00, ze10, ze20, ze30, if_true, if_false, mget h, mput h, mis h, S_holds h, S_isDrawing h, c, not_true, not_false_iff, ze10]
def canW (R : MR) (x : Int32) : Int32 := if ¬ (0 ≤ x ∧ x ≤ R.2.1 21 - 1) then 1 else if 1 < R.1 15 (tN x) then 2 else 0
def tkF (R : MR) (j : Nat) : MR := mA (mA R 11 (tks (nP R) (R.1 12) (fun k => tN (R.1 17 (6 * j + k))) (tN (R.1 14 j)) (R.1 11))) 15 (upd (R.1 15) j 0)
def canM (R : MR) (j : Nat) : MR := if R.1 15 j = 1 then tkF (mF R 25 0) j else mF R 25 0
def canF (R : MR) (j : Nat) : MR := trF (mA (canM R j) 15 (upd ((canM R j).1 15) j 3))
theorem IR_tk {j : Nat} (I : IR R) (hj : j < tN (R.2.1 21)) : IR (tkF R j) := IR_15 (IR_11 I) hj (.inl rfl) (fun z => absurd z (by decide))
theorem S_tk {j : Nat} (h : mok st mo) (I : IR R) (hj : j < tN (R.2.1 21)) (hs : R.1 15 j = 1) : AC X (d + 3) 95 [.ref mo, .int (nI j), .int (R.1 14 j)] (mw st mo R) P = P (.inl none) (mw st mo (tkF R j)) := by
  have h1 := I.jn j hj
  have h2 := I.j21.2
  rw [h1.1]
  exact S_takesOff h (by omega) I.p14.2 I.p14.1 I.fr h1.2.2 fun k hk => I.jp j hj (.inl hs) k hk
theorem S_cancel (h : mok st mo) (I : IR R) : AC X (d + 7) 99 [.ref mo, .int x] (mw st mo R) P = if canW R x = 0 then P (.inl (some (.int (R.1 15 (tN x))))) (mw st mo (canF R (tN x))) else P (.inl (some (.int (-1)))) (mw st mo (mF R 25 (canW R x))) := by
  rw [A_X6_cancel]
  unfold canW
  by_cases c : 0 ≤ x ∧ x ≤ R.2.1 21 - 1
  · have c' := c
    rw [I.j21.1] at c'
    have h30 := I.j21.2
    obtain ⟨j, hj, rfl⟩ := nI_of_rng (by omega) c'.1 c'.2
    have ej : tN (nI j) = j := tN_nI (by omega)
    have hz := zix_nI (show j < 30 by omega) (by decide)
    by_cases c2 : 1 < R.1 15 j
    · have c2' := Int32.not_le.mpr c2
      simp only [E_X6_cancel_0, E_X6_cancel_0n, E_X6_cancel_1, E_X6_cancel_1n, E_X6_cancel_2, E_X6_cancel_3, E_X6_cancel_6, E_X6_cancel_9, E_X6_cancel_10, E_X6_cancel_13, E_X6_cancel_13n, E_X6_cancel_14, E_X6_cancel_17, E_X6_cancel_18, E_X6_cancel_19, E_X6_cancel_20, E_X6_cancel_23, E_X6_cancel_24, E_X6_cancel_27, E_X6_cancel_28, E_X6_cancel_31, E_X6_cancel_34, E_X6_cancel_35, E_X6_cancel_36, E_X6_cancel_36n, E_X6_cancel_37, E_X6_cancel_40, E_X6_cancel_41, E_X6_cancel_42, E_X6_cancel_43, E_X6_cancel_44, E_X6_cancel_45, E_X6_cancel_48, E_X6_cancel_48n, E_X6_cancel_49, E_X6_cancel_50, E_X6_cancel_50n, E_X6_cancel_51, E_X6_cancel_54, E_X6_cancel_55, E_X6_cancel_56, E_X6_cancel_59, E_X6_cancel_59n, E_X6_cancel_60, E_X6_cancel_63, E_X6_cancel_64, E_X6_cancel_65, E_X6_cancel_66, E_X6_cancel_66n, E_X6_cancel_67, E_X6_cancel_70, E_X6_cancel_71, zwith_some, zwith_none, zif_true, zaft_inl, Option.toList_some, Option.toList_none, List.cons_append, List.nil_append, zc1_int, zc1_ref, zc1_null, zc1_float, List.length_nil, List.length_cons, Nat.reduceAdd, Nat.reduceLeDiff, Nat.zero_add, z1and, z0and, zl00, zl01, zl02, zl03, ze00, ze10, ze20, ze30, if_true, if_false, mget h, mput h, mrd h, mis h, S_holds h, S_isJob h, c, c2, c2', hz, ej, and_self, not_true, not_false_iff, ze20]
    · have c2' := Int32.not_lt.mp c2
      have I1 : IR (mF R 25 0) := IR_25 I
      unfold canF canM
      by_cases c3 : R.1 15 j = 1
      · have ht := fun {d} {P} => S_tk (X := X) (d := d) (P := P) h I1 hj c3
        have I2 := IR_tk I1 hj
        have I3 := IR_15 (v := 3) I2 hj (.inr (.inr (.inr rfl))) (fun z => absurd z (by decide))
        have htr := fun {d} {P} => S_tries (X := X) (d := d) (P := P) h I3
        rw [show (mF R 25 0).1 14 j = R.1 14 j from rfl] at ht
        rw [c3] at c2 c2'
        simp only [E_X6_cancel_0, E_X6_cancel_0n, E_X6_cancel_1, E_X6_cancel_1n, E_X6_cancel_2, E_X6_cancel_3, E_X6_cancel_6, E_X6_cancel_9, E_X6_cancel_10, E_X6_cancel_13, E_X6_cancel_13n, E_X6_cancel_14, E_X6_cancel_17, E_X6_cancel_18, E_X6_cancel_19, E_X6_cancel_20, E_X6_cancel_23, E_X6_cancel_24, E_X6_cancel_27, E_X6_cancel_28, E_X6_cancel_31, E_X6_cancel_34, E_X6_cancel_35, E_X6_cancel_36, E_X6_cancel_36n, E_X6_cancel_37, E_X6_cancel_40, E_X6_cancel_41, E_X6_cancel_42, E_X6_cancel_43, E_X6_cancel_44, E_X6_cancel_45, E_X6_cancel_48, E_X6_cancel_48n, E_X6_cancel_49, E_X6_cancel_50, E_X6_cancel_50n, E_X6_cancel_51, E_X6_cancel_54, E_X6_cancel_55, E_X6_cancel_56, E_X6_cancel_59, E_X6_cancel_59n, E_X6_cancel_60, E_X6_cancel_63, E_X6_cancel_64, E_X6_cancel_65, E_X6_cancel_66, E_X6_cancel_66n, E_X6_cancel_67, E_X6_cancel_70, E_X6_cancel_71, zwith_some, zwith_none, zif_true, zaft_inl, Option.toList_some, Option.toList_none, List.cons_append, List.nil_append, zc1_int, zc1_ref, zc1_null, zc1_float, List.length_nil, List.length_cons, Nat.reduceAdd, Nat.reduceLeDiff, Nat.zero_add, z1and, z0and, zl00, zl01, zl02, zl03, ze00, ze10, ze20, ze30, if_true, if_false, mget h, mput h, mrd h, mrI h, mst h, mis h, S_holds h, S_isJob h, c, c2', c3, hz, ej, and_self, not_true, not_false_iff, ze00, mF1, ht, htr, show ¬ ((1 : Int32) < 1) from by decide]
      · have I3 := IR_15 (v := 3) I1 hj (.inr (.inr (.inr rfl))) (fun z => absurd z (by decide))
        have htr := fun {d} {P} => S_tries (X := X) (d := d) (P := P) h I3
        rw [show (mF R 25 0).1 15 = R.1 15 from rfl] at htr
        simp only [E_X6_cancel_0, E_X6_cancel_0n, E_X6_cancel_1, E_X6_cancel_1n, E_X6_cancel_2, E_X6_cancel_3, E_X6_cancel_6, E_X6_cancel_9, E_X6_cancel_10, E_X6_cancel_13, E_X6_cancel_13n, E_X6_cancel_14, E_X6_cancel_17, E_X6_cancel_18, E_X6_cancel_19, E_X6_cancel_20, E_X6_cancel_23, E_X6_cancel_24, E_X6_cancel_27, E_X6_cancel_28, E_X6_cancel_31, E_X6_cancel_34, E_X6_cancel_35, E_X6_cancel_36, E_X6_cancel_36n, E_X6_cancel_37, E_X6_cancel_40, E_X6_cancel_41, E_X6_cancel_42, E_X6_cancel_43, E_X6_cancel_44, E_X6_cancel_45, E_X6_cancel_48, E_X6_cancel_48n, E_X6_cancel_49, E_X6_cancel_50, E_X6_cancel_50n, E_X6_cancel_51, E_X6_cancel_54, E_X6_cancel_55, E_X6_cancel_56, E_X6_cancel_59, E_X6_cancel_59n, E_X6_cancel_60, E_X6_cancel_63, E_X6_cancel_64, E_X6_cancel_65, E_X6_cancel_66, E_X6_cancel_66n, E_X6_cancel_67, E_X6_cancel_70, E_X6_cancel_71, zwith_some, zwith_none, zif_true, zaft_inl, Option.toList_some, Option.toList_none, List.cons_append, List.nil_append, zc1_int, zc1_ref, zc1_null, zc1_float, List.length_nil, List.length_cons, Nat.reduceAdd, Nat.reduceLeDiff, Nat.zero_add, z1and, z0and, zl00, zl01, zl02, zl03, ze00, ze10, ze20, ze30, if_true, if_false, mget h, mput h, mrd h, mrI h, mst h, mis h, S_holds h, S_isJob h, c, c2, c2', c3, hz, ej, and_self, not_true, not_false_iff, ze00, mF1, htr]
  · simp only [E_X6_cancel_0, E_X6_cancel_0n, E_X6_cancel_1, E_X6_cancel_1n, E_X6_cancel_2, E_X6_cancel_3, E_X6_cancel_6, E_X6_cancel_9, E_X6_cancel_10, E_X6_cancel_13, E_X6_cancel_13n, E_X6_cancel_14, E_X6_cancel_17, E_X6_cancel_18, E_X6_cancel_19, E_X6_cancel_20, E_X6_cancel_23, E_X6_cancel_24, E_X6_cancel_27, E_X6_cancel_28, E_X6_cancel_31, E_X6_cancel_34, E_X6_cancel_35, E_X6_cancel_36, E_X6_cancel_36n, E_X6_cancel_37, E_X6_cancel_40, E_X6_cancel_41, E_X6_cancel_42, E_X6_cancel_43, E_X6_cancel_44, E_X6_cancel_45, E_X6_cancel_48, E_X6_cancel_48n, E_X6_cancel_49, E_X6_cancel_50, E_X6_cancel_50n, E_X6_cancel_51, E_X6_cancel_54, E_X6_cancel_55, E_X6_cancel_56, E_X6_cancel_59, E_X6_cancel_59n, E_X6_cancel_60, E_X6_cancel_63, E_X6_cancel_64, E_X6_cancel_65, E_X6_cancel_66, E_X6_cancel_66n, E_X6_cancel_67, E_X6_cancel_70, E_X6_cancel_71, zwith_some, zwith_none, zif_true, zaft_inl, Option.toList_some, Option.toList_none, List.cons_append, List.nil_append, zc1_int, zc1_ref, zc1_null, zc1_float, List.length_nil, List.length_cons, Nat.reduceAdd, Nat.reduceLeDiff, Nat.zero_add, z1and, z0and, zl00, zl01, zl02, zl03, ze00, ze10, ze20, ze30, if_true, if_false, mget h, mput h, mis h, S_holds h, S_isJob h, c, not_true, not_false_iff, ze10]
end RD
