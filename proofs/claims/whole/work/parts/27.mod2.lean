/-! numbers as naturals; the reference's strokes -/
theorem zix_nI {j n : Nat} (h : j < n) (hn : n ≤ 1000000) : zix (nI j) n = some j := by
  unfold zix
  rw [if_neg (nI_in h (by omega)), nI_clamp (by omega)]
theorem nI_of_rng {x : Int32} {n : Nat} (hn : n ≤ 1000000) (h1 : 0 ≤ x) (h2 : x ≤ nI n - 1) : ∃ j, j < n ∧ x = nI j := by
  obtain ⟨j, hj, rfl⟩ := nI_of (Int32.not_lt.mpr h1)
  refine ⟨j, ?_, rfl⟩
  rcases Nat.eq_zero_or_pos n with e | e
  · subst e
    exact absurd h2 (by
      rw [show nI 0 - 1 = (-1 : Int32) by decide]
      intro z
      have := Int32.le_trans h1 z
      exact absurd this (by decide))
  · rw [show (1 : Int32) = nI 1 from rfl, pk_sub e] at h2
    have := (nI_leI (by omega) (by omega)).mp h2
    omega
theorem l24 : (24 : Int32) = nI 24 := rfl
theorem upd_s {f : Nat → Int32} {k : Nat} {x : Int32} : upd f k x k = x := pk_us
section R2
variable {X : ZX} {d : Nat} {st : ZS} {mo : Nat} {R : MR} {P : ZO → ZS → Prop} {x y z : Int32}
/-- what stroke answers: 1, 2, 3 thrown, 0 done -/
def sw (R : MR) (x y z : Int32) : Int32 := if ¬ ((0 ≤ x ∧ x ≤ R.2.1 5 - 1) ∧ (0 ≤ y ∧ y ≤ 1023) ∧ (0 ≤ z ∧ z ≤ 1023)) then 1 else if y = z then 2 else if R.1 0 x.toNatClampNeg = 1 ∨ R.1 1 x.toNatClampNeg = 24 then 3 else 0
theorem S_stroke (h : mok st mo) {nd : Nat} (hd : R.2.1 5 = nI nd) (hd12 : nd ≤ 12) {n : Nat → Nat} (hn : ∀ i, i < nd → R.1 1 i = nI (n i) ∧ n i ≤ 24) : AC X (d + 3) 78 [.ref mo, .int x, .int y, .int z] (mw st mo R) P =
    if sw R x y z = 0 then P (.inl (some (.int (nI (n x.toNatClampNeg + 1))))) (mw st mo (mA (mA (mA (mF R 25 0) 3 (upd (R.1 3) (24 * x.toNatClampNeg + n x.toNatClampNeg) y)) 4 (upd (R.1 4) (24 * x.toNatClampNeg + n x.toNatClampNeg) z)) 1 (upd (R.1 1) x.toNatClampNeg (nI (n x.toNatClampNeg + 1))))) else P (.inl (some (.int (-1)))) (mw st mo (mF R 25 (sw R x y z))) := by
  rw [A_X6_stroke]
  by_cases c : (0 ≤ x ∧ x ≤ R.2.1 5 - 1) ∧ (0 ≤ y ∧ y ≤ 1023) ∧ (0 ≤ z ∧ z ≤ 1023)
  · obtain ⟨c1, c2, c3⟩ := c
    have c1' := c1
    rw [hd] at c1'
    obtain ⟨i, hi, rfl⟩ := nI_of_rng (by omega) c1'.1 c1'.2
    have ei : (nI i).toNatClampNeg = i := nI_clamp (by omega)
    obtain ⟨hn1, hn2⟩ := hn i hi
    have hsw : sw R (nI i) y z = if y = z then 2 else if R.1 0 i = 1 ∨ R.1 1 i = 24 then 3 else 0 := by
      unfold sw
      rw [if_neg (fun e => e ⟨c1, c2, c3⟩), ei]
    simp only [E_X6_stroke_0, E_X6_stroke_0n, E_X6_stroke_1, E_X6_stroke_2, E_X6_stroke_5, E_X6_stroke_8, E_X6_stroke_8n, E_X6_stroke_9, E_X6_stroke_10, E_X6_stroke_11, E_X6_stroke_14, E_X6_stroke_17, E_X6_stroke_20, E_X6_stroke_20n, E_X6_stroke_21, E_X6_stroke_22, E_X6_stroke_23, E_X6_stroke_26, E_X6_stroke_29, E_X6_stroke_32, E_X6_stroke_33, E_X6_stroke_36, E_X6_stroke_37, E_X6_stroke_39, E_X6_stroke_39n, E_X6_stroke_40, E_X6_stroke_42, E_X6_stroke_45, E_X6_stroke_46, E_X6_stroke_49, E_X6_stroke_50, E_X6_stroke_51, E_X6_stroke_54, E_X6_stroke_55, E_X6_stroke_58, E_X6_stroke_58n, E_X6_stroke_59, E_X6_stroke_62, E_X6_stroke_63, E_X6_stroke_64, E_X6_stroke_65, E_X6_stroke_68, E_X6_stroke_68n, E_X6_stroke_69, E_X6_stroke_72, E_X6_stroke_73, E_X6_stroke_74, E_X6_stroke_76, E_X6_stroke_79, E_X6_stroke_80, E_X6_stroke_83, E_X6_stroke_84, E_X6_stroke_87, E_X6_stroke_90, E_X6_stroke_91, E_X6_stroke_92, E_X6_stroke_92n, E_X6_stroke_93, E_X6_stroke_96, E_X6_stroke_98, E_X6_stroke_99, E_X6_stroke_100, E_X6_stroke_100n, E_X6_stroke_101, E_X6_stroke_104, E_X6_stroke_105, E_X6_stroke_106, E_X6_stroke_107, E_X6_stroke_108, E_X6_stroke_109, E_X6_stroke_109n, E_X6_stroke_110, E_X6_stroke_113, E_X6_stroke_115, E_X6_stroke_116, E_X6_stroke_117, E_X6_stroke_117n, E_X6_stroke_118, E_X6_stroke_121, E_X6_stroke_122, E_X6_stroke_123, E_X6_stroke_124, E_X6_stroke_125, E_X6_stroke_126, E_X6_stroke_126n, E_X6_stroke_127, E_X6_stroke_130, E_X6_stroke_131, E_X6_stroke_131i, E_X6_stroke_131j, E_X6_stroke_132, E_X6_stroke_133, E_X6_stroke_134, E_X6_stroke_135, E_X6_stroke_136, E_X6_stroke_136n, E_X6_stroke_137, E_X6_stroke_140, E_X6_stroke_141, E_X6_stroke_142, zwith_some, zwith_none, zif_true, zaft_inl, Option.toList_some, Option.toList_none, List.cons_append, List.nil_append, zc1_int, zc1_ref, zc1_null, zc1_float, List.length_nil, List.length_cons, Nat.reduceAdd, Nat.reduceLeDiff, Nat.zero_add, z1and, z0and, zl00, zl01, zl02, zl03, ze00, ze10, ze20, ze30, if_true, if_false, mget h, mput h, mis h, S_holds h, S_isDrawing h, S_in, mrd h, mrI h, mst h, c1, c2, c3, and_self, not_true, not_false_iff, zix_nI (show i < 12 by omega) (show 12 ≤ 1000000 by decide), hsw, ei]
    by_cases e1 : y = z
    · simp only [e1, if_true, not_true, if_false, ze20]
    · simp only [e1, if_false, not_false_iff, if_true]
      by_cases e2 : R.1 0 i = 1
      · simp only [e2, if_true, true_or, ze30, if_false]
      · simp only [e2, if_false, false_or]
        by_cases e3 : R.1 1 i = 24
        · simp only [e3, not_true, if_true, if_false, ze30]
        · have h24 : n i < 24 := by
            rcases Nat.lt_or_ge (n i) 24 with q | q
            · exact q
            · exact absurd (by rw [hn1, show n i = 24 by omega]; rfl) e3
          have hz : zix (nI 24 * nI i + nI (n i)) 288 = some (24 * i + n i) := by
            rw [pk_mul, nI_add]
            exact zix_nI (by omega) (by decide)
          have e3' : ¬ nI (n i) = nI 24 := by rw [← hn1]; exact e3
          simp only [e3', not_false_iff, if_true, if_false, mF1, mA1, Nat.reduceEqDiff, l24, hn1, hz, zwith_some, ze00, nI_1, upd_s]
  · have hsw : sw R x y z = 1 := by
      unfold sw
      rw [if_pos c]
    simp only [hsw, ze10, if_false]
    by_cases c1 : 0 ≤ x ∧ x ≤ R.2.1 5 - 1
    · by_cases c2 : 0 ≤ y ∧ y ≤ 1023
      · by_cases c3 : 0 ≤ z ∧ z ≤ 1023
        · exact absurd ⟨c1, c2, c3⟩ c
        · simp only [E_X6_stroke_0, E_X6_stroke_0n, E_X6_stroke_1, E_X6_stroke_2, E_X6_stroke_5, E_X6_stroke_8, E_X6_stroke_8n, E_X6_stroke_9, E_X6_stroke_10, E_X6_stroke_11, E_X6_stroke_14, E_X6_stroke_17, E_X6_stroke_20, E_X6_stroke_20n, E_X6_stroke_21, E_X6_stroke_22, E_X6_stroke_23, E_X6_stroke_26, E_X6_stroke_29, E_X6_stroke_32, E_X6_stroke_33, E_X6_stroke_36, E_X6_stroke_37, E_X6_stroke_39, E_X6_stroke_39n, E_X6_stroke_40, E_X6_stroke_42, E_X6_stroke_45, E_X6_stroke_46, E_X6_stroke_49, E_X6_stroke_50, E_X6_stroke_51, E_X6_stroke_54, E_X6_stroke_55, E_X6_stroke_58, E_X6_stroke_58n, E_X6_stroke_59, E_X6_stroke_62, E_X6_stroke_63, E_X6_stroke_64, E_X6_stroke_65, E_X6_stroke_68, E_X6_stroke_68n, E_X6_stroke_69, E_X6_stroke_72, E_X6_stroke_73, E_X6_stroke_74, E_X6_stroke_76, E_X6_stroke_79, E_X6_stroke_80, E_X6_stroke_83, E_X6_stroke_84, E_X6_stroke_87, E_X6_stroke_90, E_X6_stroke_91, E_X6_stroke_92, E_X6_stroke_92n, E_X6_stroke_93, E_X6_stroke_96, E_X6_stroke_98, E_X6_stroke_99, E_X6_stroke_100, E_X6_stroke_100n, E_X6_stroke_101, E_X6_stroke_104, E_X6_stroke_105, E_X6_stroke_106, E_X6_stroke_107, E_X6_stroke_108, E_X6_stroke_109, E_X6_stroke_109n, E_X6_stroke_110, E_X6_stroke_113, E_X6_stroke_115, E_X6_stroke_116, E_X6_stroke_117, E_X6_stroke_117n, E_X6_stroke_118, E_X6_stroke_121, E_X6_stroke_122, E_X6_stroke_123, E_X6_stroke_124, E_X6_stroke_125, E_X6_stroke_126, E_X6_stroke_126n, E_X6_stroke_127, E_X6_stroke_130, E_X6_stroke_131, E_X6_stroke_131i, E_X6_stroke_131j, E_X6_stroke_132, E_X6_stroke_133, E_X6_stroke_134, E_X6_stroke_135, E_X6_stroke_136, E_X6_stroke_136n, E_X6_stroke_137, E_X6_stroke_140, E_X6_stroke_141, E_X6_stroke_142, zwith_some, zwith_none, zif_true, zaft_inl, Option.toList_some, Option.toList_none, List.cons_append, List.nil_append, zc1_int, zc1_ref, zc1_null, zc1_float, List.length_nil, List.length_cons, Nat.reduceAdd, Nat.reduceLeDiff, Nat.zero_add, z1and, z0and, zl00, zl01, zl02, zl03, ze00, ze10, ze20, ze30, if_true, if_false, mget h, mput h, mis h, S_holds h, S_isDrawing h, S_in, c1, c2, c3, and_self, not_true, not_false_iff]
      · simp only [E_X6_stroke_0, E_X6_stroke_0n, E_X6_stroke_1, E_X6_stroke_2, E_X6_stroke_5, E_X6_stroke_8, E_X6_stroke_8n, E_X6_stroke_9, E_X6_stroke_10, E_X6_stroke_11, E_X6_stroke_14, E_X6_stroke_17, E_X6_stroke_20, E_X6_stroke_20n, E_X6_stroke_21, E_X6_stroke_22, E_X6_stroke_23, E_X6_stroke_26, E_X6_stroke_29, E_X6_stroke_32, E_X6_stroke_33, E_X6_stroke_36, E_X6_stroke_37, E_X6_stroke_39, E_X6_stroke_39n, E_X6_stroke_40, E_X6_stroke_42, E_X6_stroke_45, E_X6_stroke_46, E_X6_stroke_49, E_X6_stroke_50, E_X6_stroke_51, E_X6_stroke_54, E_X6_stroke_55, E_X6_stroke_58, E_X6_stroke_58n, E_X6_stroke_59, E_X6_stroke_62, E_X6_stroke_63, E_X6_stroke_64, E_X6_stroke_65, E_X6_stroke_68, E_X6_stroke_68n, E_X6_stroke_69, E_X6_stroke_72, E_X6_stroke_73, E_X6_stroke_74, E_X6_stroke_76, E_X6_stroke_79, E_X6_stroke_80, E_X6_stroke_83, E_X6_stroke_84, E_X6_stroke_87, E_X6_stroke_90, E_X6_stroke_91, E_X6_stroke_92, E_X6_stroke_92n, E_X6_stroke_93, E_X6_stroke_96, E_X6_stroke_98, E_X6_stroke_99, E_X6_stroke_100, E_X6_stroke_100n, E_X6_stroke_101, E_X6_stroke_104, E_X6_stroke_105, E_X6_stroke_106, E_X6_stroke_107, E_X6_stroke_108, E_X6_stroke_109, E_X6_stroke_109n, E_X6_stroke_110, E_X6_stroke_113, E_X6_stroke_115, E_X6_stroke_116, E_X6_stroke_117, E_X6_stroke_117n, E_X6_stroke_118, E_X6_stroke_121, E_X6_stroke_122, E_X6_stroke_123, E_X6_stroke_124, E_X6_stroke_125, E_X6_stroke_126, E_X6_stroke_126n, E_X6_stroke_127, E_X6_stroke_130, E_X6_stroke_131, E_X6_stroke_131i, E_X6_stroke_131j, E_X6_stroke_132, E_X6_stroke_133, E_X6_stroke_134, E_X6_stroke_135, E_X6_stroke_136, E_X6_stroke_136n, E_X6_stroke_137, E_X6_stroke_140, E_X6_stroke_141, E_X6_stroke_142, zwith_some, zwith_none, zif_true, zaft_inl, Option.toList_some, Option.toList_none, List.cons_append, List.nil_append, zc1_int, zc1_ref, zc1_null, zc1_float, List.length_nil, List.length_cons, Nat.reduceAdd, Nat.reduceLeDiff, Nat.zero_add, z1and, z0and, zl00, zl01, zl02, zl03, ze00, ze10, ze20, ze30, if_true, if_false, mget h, mput h, mis h, S_holds h, S_isDrawing h, S_in, c1, c2, and_self, not_true, not_false_iff]
    · simp only [E_X6_stroke_0, E_X6_stroke_0n, E_X6_stroke_1, E_X6_stroke_2, E_X6_stroke_5, E_X6_stroke_8, E_X6_stroke_8n, E_X6_stroke_9, E_X6_stroke_10, E_X6_stroke_11, E_X6_stroke_14, E_X6_stroke_17, E_X6_stroke_20, E_X6_stroke_20n, E_X6_stroke_21, E_X6_stroke_22, E_X6_stroke_23, E_X6_stroke_26, E_X6_stroke_29, E_X6_stroke_32, E_X6_stroke_33, E_X6_stroke_36, E_X6_stroke_37, E_X6_stroke_39, E_X6_stroke_39n, E_X6_stroke_40, E_X6_stroke_42, E_X6_stroke_45, E_X6_stroke_46, E_X6_stroke_49, E_X6_stroke_50, E_X6_stroke_51, E_X6_stroke_54, E_X6_stroke_55, E_X6_stroke_58, E_X6_stroke_58n, E_X6_stroke_59, E_X6_stroke_62, E_X6_stroke_63, E_X6_stroke_64, E_X6_stroke_65, E_X6_stroke_68, E_X6_stroke_68n, E_X6_stroke_69, E_X6_stroke_72, E_X6_stroke_73, E_X6_stroke_74, E_X6_stroke_76, E_X6_stroke_79, E_X6_stroke_80, E_X6_stroke_83, E_X6_stroke_84, E_X6_stroke_87, E_X6_stroke_90, E_X6_stroke_91, E_X6_stroke_92, E_X6_stroke_92n, E_X6_stroke_93, E_X6_stroke_96, E_X6_stroke_98, E_X6_stroke_99, E_X6_stroke_100, E_X6_stroke_100n, E_X6_stroke_101, E_X6_stroke_104, E_X6_stroke_105, E_X6_stroke_106, E_X6_stroke_107, E_X6_stroke_108, E_X6_stroke_109, E_X6_stroke_109n, E_X6_stroke_110, E_X6_stroke_113, E_X6_stroke_115, E_X6_stroke_116, E_X6_stroke_117, E_X6_stroke_117n, E_X6_stroke_118, E_X6_stroke_121, E_X6_stroke_122, E_X6_stroke_123, E_X6_stroke_124, E_X6_stroke_125, E_X6_stroke_126, E_X6_stroke_126n, E_X6_stroke_127, E_X6_stroke_130, E_X6_stroke_131, E_X6_stroke_131i, E_X6_stroke_131j, E_X6_stroke_132, E_X6_stroke_133, E_X6_stroke_134, E_X6_stroke_135, E_X6_stroke_136, E_X6_stroke_136n, E_X6_stroke_137, E_X6_stroke_140, E_X6_stroke_141, E_X6_stroke_142, zwith_some, zwith_none, zif_true, zaft_inl, Option.toList_some, Option.toList_none, List.cons_append, List.nil_append, zc1_int, zc1_ref, zc1_null, zc1_float, List.length_nil, List.length_cons, Nat.reduceAdd, Nat.reduceLeDiff, Nat.zero_add, z1and, z0and, zl00, zl01, zl02, zl03, ze00, ze10, ze20, ze30, if_true, if_false, mget h, mput h, mis h, S_holds h, S_isDrawing h, S_in, c1, and_self, not_true, not_false_iff]
end R2
