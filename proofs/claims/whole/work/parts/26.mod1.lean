/-! the reference's small methods -/
section R1
variable {X : ZX} {d : Nat} {st : ZS} {mo : Nat} {R : MR} {P : ZO → ZS → Prop} {x y z : Int32}
def zb01 (c : Prop) [Decidable c] : Int32 := if c then 1 else 0
theorem z1and : ((1 : Int32) &&& 1 = 1) = True := by decide
theorem z0and : ((0 : Int32) &&& 1 = 0) = True := by decide
theorem zl00 : ((0 : Int32) < 0) = False := by decide
theorem zl01 : ((0 : Int32) < 1) = True := by decide
theorem zl02 : ((0 : Int32) < 2) = True := by decide
theorem zl03 : ((0 : Int32) < 3) = True := by decide
theorem ze00 : ((0 : Int32) = 0) = True := by decide
theorem ze10 : ((1 : Int32) = 0) = False := by decide
theorem ze20 : ((2 : Int32) = 0) = False := by decide
theorem ze30 : ((3 : Int32) = 0) = False := by decide
theorem S_in : AC X (d + 1) 75 [.ref mo, .int x, .int y, .int z] st P = P (.inl (some (.int (if y ≤ x ∧ x ≤ z then 1 else 0)))) st := by
  rw [A_X6_in]
  simp only [E_X6_in_0, E_X6_in_1, E_X6_in_2, E_X6_in_5, E_X6_in_6, E_X6_in_7, E_X6_in_10, E_X6_in_11, E_X6_in_14, E_X6_in_15, zwith_some, zwith_none, zif_true, zaft_inl, Option.toList_some, Option.toList_none, List.cons_append, List.nil_append, zc1_int, zc1_ref, zc1_null, zc1_float, List.length_nil, List.length_cons, Nat.reduceAdd, Nat.reduceLeDiff, Nat.zero_add, z1and, z0and, zl00, zl01, zl02, zl03, ze00, ze10, ze20, ze30, if_true, if_false]
  by_cases h1 : x < y
  · rw [if_pos h1, if_neg (fun e => Int32.not_lt.mpr e.1 h1)]
  · rw [if_neg h1]
    by_cases h2 : z < x
    · rw [if_pos h2, if_neg (fun e => Int32.not_lt.mpr e.2 h2)]
    · rw [if_neg h2, if_pos ⟨Int32.not_lt.mp h1, Int32.not_lt.mp h2⟩]
theorem S_holds (h : mok st mo) : AC X (d + 1) 74 [.ref mo, .int x] (mw st mo R) P = P (.inl (some (.int (if 0 < x then 1 else 0)))) (mw st mo (mF R 25 x)) := by
  rw [A_X6_holds]
  simp only [E_X6_holds_0, E_X6_holds_0n, E_X6_holds_1, E_X6_holds_2, E_X6_holds_5, E_X6_holds_6, E_X6_holds_9, E_X6_holds_10, E_X6_holds_13, E_X6_holds_14, zwith_some, zwith_none, zif_true, zaft_inl, Option.toList_some, Option.toList_none, List.cons_append, List.nil_append, zc1_int, zc1_ref, zc1_null, zc1_float, List.length_nil, List.length_cons, Nat.reduceAdd, Nat.reduceLeDiff, Nat.zero_add, z1and, z0and, zl00, zl01, zl02, zl03, ze00, ze10, ze20, ze30, if_true, if_false, mget h, mput h]
  by_cases h1 : x ≤ 0
  · rw [if_pos h1, if_neg (fun e => Int32.not_lt.mpr h1 e)]
  · rw [if_neg h1, if_pos (Int32.not_le.mp h1)]
theorem S_isDrawing (h : mok st mo) : AC X (d + 2) 76 [.ref mo, .int x] (mw st mo R) P = P (.inl (some (.int (if 0 ≤ x ∧ x ≤ R.2.1 5 - 1 then 1 else 0)))) (mw st mo R) := by
  rw [A_X6_isDrawing]
  simp only [E_X6_isDrawing_0, E_X6_isDrawing_0n, E_X6_isDrawing_1, E_X6_isDrawing_2, E_X6_isDrawing_3, E_X6_isDrawing_3n, E_X6_isDrawing_4, E_X6_isDrawing_7, E_X6_isDrawing_8, E_X6_isDrawing_9, E_X6_isDrawing_12, zwith_some, zwith_none, zif_true, zaft_inl, Option.toList_some, Option.toList_none, List.cons_append, List.nil_append, zc1_int, zc1_ref, zc1_null, zc1_float, List.length_nil, List.length_cons, Nat.reduceAdd, Nat.reduceLeDiff, Nat.zero_add, z1and, z0and, zl00, zl01, zl02, zl03, ze00, ze10, ze20, ze30, if_true, if_false, mget h, mis h, S_in]
  split <;> simp only [z1and, z0and, zif_true]
theorem S_isJob (h : mok st mo) : AC X (d + 2) 94 [.ref mo, .int x] (mw st mo R) P = P (.inl (some (.int (if 0 ≤ x ∧ x ≤ R.2.1 21 - 1 then 1 else 0)))) (mw st mo R) := by
  rw [A_X6_isJob]
  simp only [E_X6_isJob_0, E_X6_isJob_0n, E_X6_isJob_1, E_X6_isJob_2, E_X6_isJob_3, E_X6_isJob_3n, E_X6_isJob_4, E_X6_isJob_7, E_X6_isJob_8, E_X6_isJob_9, E_X6_isJob_12, zwith_some, zwith_none, zif_true, zaft_inl, Option.toList_some, Option.toList_none, List.cons_append, List.nil_append, zc1_int, zc1_ref, zc1_null, zc1_float, List.length_nil, List.length_cons, Nat.reduceAdd, Nat.reduceLeDiff, Nat.zero_add, z1and, z0and, zl00, zl01, zl02, zl03, ze00, ze10, ze20, ze30, if_true, if_false, mget h, mis h, S_in]
  split <;> simp only [z1and, z0and, zif_true]
theorem S_thrown (h : mok st mo) : AC X (d + 1) 73 [.ref mo] (mw st mo R) P = P (.inl (some (.int (R.2.1 25)))) (mw st mo R) := by
  rw [A_X6_thrown]
  simp only [E_X6_thrown_0, E_X6_thrown_0n, E_X6_thrown_1, E_X6_thrown_4, zwith_some, zwith_none, zif_true, zaft_inl, Option.toList_some, Option.toList_none, List.cons_append, List.nil_append, zc1_int, zc1_ref, zc1_null, zc1_float, List.length_nil, List.length_cons, Nat.reduceAdd, Nat.reduceLeDiff, Nat.zero_add, z1and, z0and, zl00, zl01, zl02, zl03, ze00, ze10, ze20, ze30, if_true, if_false, mget h]
theorem S_minutes (h : mok st mo) : AC X (d + 2) 107 [.ref mo] (mw st mo R) P = P (.inl (some (.int (R.2.1 23)))) (mw st mo (mF R 25 0)) := by
  rw [A_X6_minutes]
  simp only [E_X6_minutes_0, E_X6_minutes_0n, E_X6_minutes_1, E_X6_minutes_2, E_X6_minutes_5, E_X6_minutes_5n, E_X6_minutes_5i, E_X6_minutes_5f, E_X6_minutes_6, E_X6_minutes_6n, E_X6_minutes_7, E_X6_minutes_10, zwith_some, zwith_none, zif_true, zaft_inl, Option.toList_some, Option.toList_none, List.cons_append, List.nil_append, zc1_int, zc1_ref, zc1_null, zc1_float, List.length_nil, List.length_cons, Nat.reduceAdd, Nat.reduceLeDiff, Nat.zero_add, z1and, z0and, zl00, zl01, zl02, zl03, ze00, ze10, ze20, ze30, if_true, if_false, mget h, mis h, S_holds h]
  rfl
theorem S_cutLength (h : mok st mo) : AC X (d + 2) 108 [.ref mo] (mw st mo R) P = P (.inl (some (.float R.2.2))) (mw st mo (mF R 25 0)) := by
  rw [A_X6_cutLength]
  simp only [E_X6_cutLength_0, E_X6_cutLength_0n, E_X6_cutLength_1, E_X6_cutLength_2, E_X6_cutLength_5, E_X6_cutLength_5n, E_X6_cutLength_5i, E_X6_cutLength_5f, E_X6_cutLength_6, E_X6_cutLength_6n, E_X6_cutLength_7, E_X6_cutLength_10, zwith_some, zwith_none, zif_true, zaft_inl, Option.toList_some, Option.toList_none, List.cons_append, List.nil_append, zc1_int, zc1_ref, zc1_null, zc1_float, List.length_nil, List.length_cons, Nat.reduceAdd, Nat.reduceLeDiff, Nat.zero_add, z1and, z0and, zl00, zl01, zl02, zl03, ze00, ze10, ze20, ze30, if_true, if_false, mget h, mis h, S_holds h]
  rfl
theorem S_cutAnew (h : mok st mo) : AC X (d + 2) 109 [.ref mo] (mw st mo R) P = P (.inl (some (.float R.2.2))) (mw st mo (mF R 25 0)) := by
  rw [A_X6_cutAnew]
  simp only [E_X6_cutAnew_0, E_X6_cutAnew_0n, E_X6_cutAnew_1, E_X6_cutAnew_2, E_X6_cutAnew_5, E_X6_cutAnew_5n, E_X6_cutAnew_5i, E_X6_cutAnew_5f, E_X6_cutAnew_6, E_X6_cutAnew_6n, E_X6_cutAnew_7, E_X6_cutAnew_10, zwith_some, zwith_none, zif_true, zaft_inl, Option.toList_some, Option.toList_none, List.cons_append, List.nil_append, zc1_int, zc1_ref, zc1_null, zc1_float, List.length_nil, List.length_cons, Nat.reduceAdd, Nat.reduceLeDiff, Nat.zero_add, z1and, z0and, zl00, zl01, zl02, zl03, ze00, ze10, ze20, ze30, if_true, if_false, mget h, mis h, S_holds h]
  rfl
theorem S_drawing (h : mok st mo) : AC X (d + 2) 77 [.ref mo] (mw st mo R) P = if R.2.1 5 = 12 then P (.inl (some (.int (-1)))) (mw st mo (mF R 25 1)) else P (.inl (some (.int (R.2.1 5 + 1 - 1)))) (mw st mo (mF (mF R 25 0) 5 (R.2.1 5 + 1))) := by
  rw [A_X6_drawing]
  simp only [E_X6_drawing_0, E_X6_drawing_0n, E_X6_drawing_1, E_X6_drawing_1n, E_X6_drawing_2, E_X6_drawing_5, E_X6_drawing_7, E_X6_drawing_10, E_X6_drawing_11, E_X6_drawing_14, E_X6_drawing_15, E_X6_drawing_18, E_X6_drawing_21, E_X6_drawing_22, E_X6_drawing_23, E_X6_drawing_23n, E_X6_drawing_24, E_X6_drawing_24n, E_X6_drawing_24i, E_X6_drawing_24f, E_X6_drawing_25, E_X6_drawing_28, E_X6_drawing_29, E_X6_drawing_30, E_X6_drawing_33, E_X6_drawing_33n, E_X6_drawing_34, E_X6_drawing_37, E_X6_drawing_38, E_X6_drawing_39, zwith_some, zwith_none, zif_true, zaft_inl, Option.toList_some, Option.toList_none, List.cons_append, List.nil_append, zc1_int, zc1_ref, zc1_null, zc1_float, List.length_nil, List.length_cons, Nat.reduceAdd, Nat.reduceLeDiff, Nat.zero_add, z1and, z0and, zl00, zl01, zl02, zl03, ze00, ze10, ze20, ze30, if_true, if_false, mget h, mput h, mis h, S_holds h]
  by_cases h1 : R.2.1 5 = 12
  · simp only [h1, not_true, if_true, if_false]
  · simp only [h1, not_false_iff, if_true, if_false]
    rfl
end R1
