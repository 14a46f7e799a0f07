/-! ofJob, minutes, cutLength -/
section AS
variable {X : ZX} {d : Nat} {st st0 : ZS} {G G0 : CG} {V V' V0 : CV} {P : ZO → ZS → Prop} {x y z : Int32} {n m p q r j k : Nat} {R R0 R' : MR} {f g : Nat → Nat}
theorem C_ofJob (h : cok st G) (I : CI G V) (L : REL V R) : AC X (d + 7) 58 [.ref (G.A .kx), .int x, .int y] (cw st G V) P = if ojW R x y = 0 then P (.inl (some (.int (ojA R (tN x) y)))) (cw st G V) else P (.inr (if ojW R x y = 1 then sI else sA)) (cw (st.1 + 7, st.2) G V) := by
  have h30 := I.lj.2.1
  have z5 : (5 ≤ d + 6) = True := eq_true (by omega)
  rw [A_X5_ofJob]
  by_cases c : 0 ≤ x ∧ x ≤ nI (nJ V) - 1
  · have c' := c
    obtain ⟨j, hj, rfl⟩ := nI_of_rng (by omega) c.1 c.2
    have ej : tN (nI j) = j := tN_nI (by omega)
    have hjR : j < tN (R.2.1 21) := by rw [← L.nn.2]; exact hj
    obtain ⟨j4, j5, jr0, ja, jb⟩ := L.jr j hj
    have hlj := I.jb hj
    have hjd := L.ir.jd j hjR
    have hld := I.dr (show tN (R.1 13 j) < nD V by rw [L.nn.1]; exact hjd.2)
    have e13 : nI (tN (R.1 13 j)) = R.1 13 j := hjd.1.symm
    have e0 : ojW R (nI j) y = if 0 ≤ y ∧ y ≤ 3 then 0 else 2 := by
      unfold ojW
      rw [L.n21, if_neg (fun w => w c)]
    by_cases c2 : 0 ≤ y ∧ y ≤ 3
    · rw [if_pos c2] at e0
      rw [e0, if_pos rfl, ej]
      unfold ojA
      rcases nI_cases3 c2 with rfl | rfl | rfl | rfl
      · simp only [E_X5_ofJob_0, E_X5_ofJob_0n, E_X5_ofJob_1, E_X5_ofJob_2, E_X5_ofJob_5, E_X5_ofJob_5n, E_X5_ofJob_6, E_X5_ofJob_7_0, E_X5_ofJob_7_1, E_X5_ofJob_7_2, E_X5_ofJob_7_3, E_X5_ofJob_7_o, E_X5_ofJob_36, E_X5_ofJob_36n, E_X5_ofJob_37, E_X5_ofJob_40, E_X5_ofJob_41, E_X5_ofJob_41n, E_X5_ofJob_42, E_X5_ofJob_45, E_X5_ofJob_48, E_X5_ofJob_49, E_X5_ofJob_49n, E_X5_ofJob_50, E_X5_ofJob_53, E_X5_ofJob_54, E_X5_ofJob_54n, E_X5_ofJob_55, E_X5_ofJob_58, E_X5_ofJob_59, zwith_some, zwith_none, zif_true, zaft_inl, Option.toList_some, Option.toList_none, List.cons_append, List.nil_append, zc1_int, zc1_ref, zc1_null, zc1_float, List.length_nil, List.length_cons, Nat.reduceAdd, Nat.reduceLeDiff, Nat.zero_add, z1and, z0and, zl00, zl01, zl02, zl03, ze00, ze10, ze20, ze30, if_true, if_false, cis_kx h I.kx, C_jAt h I, c, and_self, ej, cg_jb h hlj, j5]
      · simp only [E_X5_ofJob_0, E_X5_ofJob_0n, E_X5_ofJob_1, E_X5_ofJob_2, E_X5_ofJob_5, E_X5_ofJob_5n, E_X5_ofJob_6, E_X5_ofJob_7_0, E_X5_ofJob_7_1, E_X5_ofJob_7_2, E_X5_ofJob_7_3, E_X5_ofJob_7_o, E_X5_ofJob_36, E_X5_ofJob_36n, E_X5_ofJob_37, E_X5_ofJob_40, E_X5_ofJob_41, E_X5_ofJob_41n, E_X5_ofJob_42, E_X5_ofJob_45, E_X5_ofJob_48, E_X5_ofJob_49, E_X5_ofJob_49n, E_X5_ofJob_50, E_X5_ofJob_53, E_X5_ofJob_54, E_X5_ofJob_54n, E_X5_ofJob_55, E_X5_ofJob_58, E_X5_ofJob_59, zwith_some, zwith_none, zif_true, zaft_inl, Option.toList_some, Option.toList_none, List.cons_append, List.nil_append, zc1_int, zc1_ref, zc1_null, zc1_float, List.length_nil, List.length_cons, Nat.reduceAdd, Nat.reduceLeDiff, Nat.zero_add, z1and, z0and, zl00, zl01, zl02, zl03, ze00, ze10, ze20, ze30, if_true, if_false, cis_kx h I.kx, C_jAt h I, c, and_self, ej, cg_jb h hlj, jr0, rfv_s, cg_dr h hld, e13, show ((1 : Int32) = 0) = False from by decide]
      · simp only [E_X5_ofJob_0, E_X5_ofJob_0n, E_X5_ofJob_1, E_X5_ofJob_2, E_X5_ofJob_5, E_X5_ofJob_5n, E_X5_ofJob_6, E_X5_ofJob_7_0, E_X5_ofJob_7_1, E_X5_ofJob_7_2, E_X5_ofJob_7_3, E_X5_ofJob_7_o, E_X5_ofJob_36, E_X5_ofJob_36n, E_X5_ofJob_37, E_X5_ofJob_40, E_X5_ofJob_41, E_X5_ofJob_41n, E_X5_ofJob_42, E_X5_ofJob_45, E_X5_ofJob_48, E_X5_ofJob_49, E_X5_ofJob_49n, E_X5_ofJob_50, E_X5_ofJob_53, E_X5_ofJob_54, E_X5_ofJob_54n, E_X5_ofJob_55, E_X5_ofJob_58, E_X5_ofJob_59, zwith_some, zwith_none, zif_true, zaft_inl, Option.toList_some, Option.toList_none, List.cons_append, List.nil_append, zc1_int, zc1_ref, zc1_null, zc1_float, List.length_nil, List.length_cons, Nat.reduceAdd, Nat.reduceLeDiff, Nat.zero_add, z1and, z0and, zl00, zl01, zl02, zl03, ze00, ze10, ze20, ze30, if_true, if_false, cis_kx h I.kx, C_jAt h I, c, and_self, ej, cg_jb h hlj, j4, show ((2 : Int32) = 0) = False from by decide, show ((2 : Int32) = 1) = False from by decide]
      · have e6 : V.i 6 j = if R.1 15 j = 1 ∨ R.1 15 j = 2 then R.1 16 j else -1 := by
          by_cases w : R.1 15 j = 1 ∨ R.1 15 j = 2
          · rw [if_pos w]; exact (ja w).1
          · rw [if_neg w]
            refine (jb ?_).1
            rcases L.ir.jk j hjR with q | q | q | q
            · exact .inl q
            · exact absurd (.inl q) w
            · exact absurd (.inr q) w
            · exact .inr q
        simp only [E_X5_ofJob_0, E_X5_ofJob_0n, E_X5_ofJob_1, E_X5_ofJob_2, E_X5_ofJob_5, E_X5_ofJob_5n, E_X5_ofJob_6, E_X5_ofJob_7_0, E_X5_ofJob_7_1, E_X5_ofJob_7_2, E_X5_ofJob_7_3, E_X5_ofJob_7_o, E_X5_ofJob_36, E_X5_ofJob_36n, E_X5_ofJob_37, E_X5_ofJob_40, E_X5_ofJob_41, E_X5_ofJob_41n, E_X5_ofJob_42, E_X5_ofJob_45, E_X5_ofJob_48, E_X5_ofJob_49, E_X5_ofJob_49n, E_X5_ofJob_50, E_X5_ofJob_53, E_X5_ofJob_54, E_X5_ofJob_54n, E_X5_ofJob_55, E_X5_ofJob_58, E_X5_ofJob_59, zwith_some, zwith_none, zif_true, zaft_inl, Option.toList_some, Option.toList_none, List.cons_append, List.nil_append, zc1_int, zc1_ref, zc1_null, zc1_float, List.length_nil, List.length_cons, Nat.reduceAdd, Nat.reduceLeDiff, Nat.zero_add, z1and, z0and, zl00, zl01, zl02, zl03, ze00, ze10, ze20, ze30, if_true, if_false, cis_kx h I.kx, C_jAt h I, c, and_self, ej, cg_jb h hlj, e6, show ((3 : Int32) = 0) = False from by decide, show ((3 : Int32) = 1) = False from by decide, show ((3 : Int32) = 2) = False from by decide]
    · have ho : y.toInt < 0 ∨ 3 < y.toInt := by
        rcases Int32.lt_or_le y 0 with w | w
        · exact .inl (Int32.lt_iff_toInt_lt.mp w)
        · rcases Int32.lt_or_le 3 y with w2 | w2
          · exact .inr (Int32.lt_iff_toInt_lt.mp w2)
          · exact absurd ⟨w, w2⟩ c2
      rw [if_neg c2] at e0
      rw [e0, if_neg (by decide), if_neg (by decide)]
      simp only [E_X5_ofJob_0, E_X5_ofJob_0n, E_X5_ofJob_1, E_X5_ofJob_2, E_X5_ofJob_5, E_X5_ofJob_5n, E_X5_ofJob_6, E_X5_ofJob_36, E_X5_ofJob_36n, E_X5_ofJob_37, E_X5_ofJob_40, E_X5_ofJob_41, E_X5_ofJob_41n, E_X5_ofJob_42, E_X5_ofJob_45, E_X5_ofJob_48, E_X5_ofJob_49, E_X5_ofJob_49n, E_X5_ofJob_50, E_X5_ofJob_53, E_X5_ofJob_54, E_X5_ofJob_54n, E_X5_ofJob_55, E_X5_ofJob_58, E_X5_ofJob_59, zwith_some, zwith_none, zif_true, zaft_inl, Option.toList_some, Option.toList_none, List.cons_append, List.nil_append, zc1_int, zc1_ref, zc1_null, zc1_float, List.length_nil, List.length_cons, Nat.reduceAdd, Nat.reduceLeDiff, Nat.zero_add, z1and, z0and, zl00, zl01, zl02, zl03, ze00, ze10, ze20, ze30, if_true, if_false, cis_kx h I.kx, C_jAt h I, c, and_self, ej]
      rw [E_X5_ofJob_7_o ho]
      simp only [E_X5_ofJob_0, E_X5_ofJob_0n, E_X5_ofJob_1, E_X5_ofJob_2, E_X5_ofJob_5, E_X5_ofJob_5n, E_X5_ofJob_6, E_X5_ofJob_36, E_X5_ofJob_36n, E_X5_ofJob_37, E_X5_ofJob_40, E_X5_ofJob_41, E_X5_ofJob_41n, E_X5_ofJob_42, E_X5_ofJob_45, E_X5_ofJob_48, E_X5_ofJob_49, E_X5_ofJob_49n, E_X5_ofJob_50, E_X5_ofJob_53, E_X5_ofJob_54, E_X5_ofJob_54n, E_X5_ofJob_55, E_X5_ofJob_58, E_X5_ofJob_59, zwith_some, zwith_none, zif_true, zaft_inl, Option.toList_some, Option.toList_none, List.cons_append, List.nil_append, zc1_int, zc1_ref, zc1_null, zc1_float, List.length_nil, List.length_cons, Nat.reduceAdd, Nat.reduceLeDiff, Nat.zero_add, z1and, z0and, zl00, zl01, zl02, zl03, ze00, ze10, ze20, ze30, if_true, if_false, z5]
      rfl
  · have e0 : ojW R x y = 1 := by
      unfold ojW
      rw [L.n21, if_pos c]
    rw [e0, if_neg (by decide), if_pos rfl]
    simp only [E_X5_ofJob_0, E_X5_ofJob_0n, E_X5_ofJob_1, E_X5_ofJob_2, E_X5_ofJob_5, E_X5_ofJob_5n, E_X5_ofJob_6, E_X5_ofJob_36, E_X5_ofJob_36n, E_X5_ofJob_37, E_X5_ofJob_40, E_X5_ofJob_41, E_X5_ofJob_41n, E_X5_ofJob_42, E_X5_ofJob_45, E_X5_ofJob_48, E_X5_ofJob_49, E_X5_ofJob_49n, E_X5_ofJob_50, E_X5_ofJob_53, E_X5_ofJob_54, E_X5_ofJob_54n, E_X5_ofJob_55, E_X5_ofJob_58, E_X5_ofJob_59, zwith_some, zwith_none, zif_true, zaft_inl, Option.toList_some, Option.toList_none, List.cons_append, List.nil_append, zc1_int, zc1_ref, zc1_null, zc1_float, List.length_nil, List.length_cons, Nat.reduceAdd, Nat.reduceLeDiff, Nat.zero_add, z1and, z0and, zl00, zl01, zl02, zl03, ze00, ze10, ze20, ze30, if_true, if_false, cis_kx h I.kx, C_jAt h I, c, zaft_inr zh_X5_ofJob]
theorem C_minutes (h : cok st G) (I : CI G V) (L : REL V R) : AC X (d + 1) 61 [.ref (G.A .kx)] (cw st G V) P = P (.inl (some (.int (R.2.1 23)))) (cw st G V) := by
  rw [A_X5_minutes]
  simp only [E_X5_minutes_0, E_X5_minutes_0n, E_X5_minutes_1, E_X5_minutes_4, zwith_some, zwith_none, zif_true, zaft_inl, Option.toList_some, Option.toList_none, List.cons_append, List.nil_append, zc1_int, zc1_ref, zc1_null, zc1_float, List.length_nil, List.length_cons, Nat.reduceAdd, Nat.reduceLeDiff, Nat.zero_add, z1and, z0and, zl00, zl01, zl02, zl03, ze00, ze10, ze20, ze30, if_true, if_false, cg_kx h I.kx, L.nu.2.1]
theorem C_cutLength (h : cok st G) (I : CI G V) (L : REL V R) : AC X (d + 1) 62 [.ref (G.A .kx)] (cw st G V) P = P (.inl (some (.float R.2.2))) (cw st G V) := by
  rw [A_X5_cutLength]
  simp only [E_X5_cutLength_0, E_X5_cutLength_0n, E_X5_cutLength_1, E_X5_cutLength_4, zwith_some, zwith_none, zif_true, zaft_inl, Option.toList_some, Option.toList_none, List.cons_append, List.nil_append, zc1_int, zc1_ref, zc1_null, zc1_float, List.length_nil, List.length_cons, Nat.reduceAdd, Nat.reduceLeDiff, Nat.zero_add, z1and, z0and, zl00, zl01, zl02, zl03, ze00, ze10, ze20, ze30, if_true, if_false, cg_kx h I.kx, L.nu.2.2.1]
end AS
