/-! free -/
section AS
variable {X : ZX} {d : Nat} {st st0 : ZS} {G G0 : CG} {V V' V0 : CV} {P : ZO → ZS → Prop} {x y z : Int32} {n m p q r j k : Nat} {R R0 R' : MR} {f g : Nat → Nat}
theorem C_freeAt_l (h : cok st G) (I : CI G V) (J : PI V R n) (hx : 0 ≤ x) : ∀ (k i : Nat) (l4 : Value), i + k = n → frf R x i = none → AW X (d + 3) 46 4 [.ref (G.A .stk), .int x, .int (nI (frc R i)), .int (nI i), l4] [] (cw st G V) P = P (.inl (some (rfv G.A .pc (frf R x n)))) (cw st G V) := by
  have h4 := J.le.2
  have hQ := J.le.1
  have hQ4 := I.lq.2.1
  have hal := I.al (n := 3) (by omega)
  intro k
  induction k with
  | zero =>
    intro i l4 hi hf
    have e : i = n := by omega
    subst e
    have hle : nI i ≤ nI i := nI_le (Nat.le_refl _) (by omega)
    rw [E_X4_freeAt_4, hf, rfv_n]
    simp only [E_X4_freeAt_0, E_X4_freeAt_1, E_X4_freeAt_2, E_X4_freeAt_3, E_X4_freeAt_5, E_X4_freeAt_5n, E_X4_freeAt_6, E_X4_freeAt_9, E_X4_freeAt_12, E_X4_freeAt_13, E_X4_freeAt_13n, E_X4_freeAt_14, E_X4_freeAt_17, E_X4_freeAt_20, E_X4_freeAt_23, E_X4_freeAt_23n, E_X4_freeAt_24, E_X4_freeAt_27, E_X4_freeAt_28, E_X4_freeAt_31, E_X4_freeAt_31n, E_X4_freeAt_34, E_X4_freeAt_34n, E_X4_freeAt_36, E_X4_freeAt_36n, E_X4_freeAt_38, E_X4_freeAt_41, E_X4_freeAt_44, E_X4_freeAt_45, E_X4_freeAt_46, E_X4_freeAt_49, E_X4_freeAt_49n, E_X4_freeAt_51, E_X4_freeAt_51n, E_X4_freeAt_52, E_X4_freeAt_55, E_X4_freeAt_58, E_X4_freeAt_61, E_X4_freeAt_62, E_X4_freeAt_62n, zwith_some, zwith_none, zif_true, zaft_inl, Option.toList_some, Option.toList_none, List.cons_append, List.nil_append, zc1_int, zc1_ref, zc1_null, zc1_float, List.length_nil, List.length_cons, Nat.reduceAdd, Nat.reduceLeDiff, Nat.zero_add, z1and, z0and, zl00, zl01, zl02, zl03, ze00, ze10, ze20, ze30, if_true, if_false, cg_stk h I.stk, J.n0, hle]
  | succ k ih =>
    intro i l4 hi hf
    have hin : i < nQ V := by omega
    have ih := ih (i + 1) (.ref (G.A (.pc i))) (by omega)
    have hf1 := frf_one hf
    have hlt : ¬ nI n ≤ nI i := nI_ge (by omega) (by omega)
    have hlt2 : ¬ nI (nQ V) ≤ nI i := nI_ge (by omega) (by omega)
    have hg := fun {d} {P} => C_get (X := X) (d := d) (P := P) (V := V) (q := i) h hal (I.gr I.lq.1 (by omega) (show 0 < nQ V by omega)) I.lq.1 hin (I.lq.2.2 i hin)
    rw [show ek 3 i = CK.pc i from rfl] at hg
    have hli := I.pc hin
    have v13 : V.i 13 i = R.1 11 i := (J.pp i (by omega)).v 13 (by decide) (by decide)
    have es : frc R (i + 1) = frc R i + (if R.1 11 i = 0 then 1 else 0) := rfl
    rw [es] at ih
    rw [E_X4_freeAt_4]
    simp only [E_X4_freeAt_0, E_X4_freeAt_1, E_X4_freeAt_2, E_X4_freeAt_3, E_X4_freeAt_5, E_X4_freeAt_5n, E_X4_freeAt_6, E_X4_freeAt_9, E_X4_freeAt_12, E_X4_freeAt_13, E_X4_freeAt_13n, E_X4_freeAt_14, E_X4_freeAt_17, E_X4_freeAt_20, E_X4_freeAt_23, E_X4_freeAt_23n, E_X4_freeAt_24, E_X4_freeAt_27, E_X4_freeAt_28, E_X4_freeAt_31, E_X4_freeAt_31n, E_X4_freeAt_34, E_X4_freeAt_34n, E_X4_freeAt_36, E_X4_freeAt_36n, E_X4_freeAt_38, E_X4_freeAt_41, E_X4_freeAt_44, E_X4_freeAt_45, E_X4_freeAt_46, E_X4_freeAt_49, E_X4_freeAt_49n, E_X4_freeAt_51, E_X4_freeAt_51n, E_X4_freeAt_52, E_X4_freeAt_55, E_X4_freeAt_58, E_X4_freeAt_61, E_X4_freeAt_62, E_X4_freeAt_62n, zwith_some, zwith_none, zif_true, zaft_inl, Option.toList_some, Option.toList_none, List.cons_append, List.nil_append, zc1_int, zc1_ref, zc1_null, zc1_float, List.length_nil, List.length_cons, Nat.reduceAdd, Nat.reduceLeDiff, Nat.zero_add, z1and, z0and, zl00, zl01, zl02, zl03, ze00, ze10, ze20, ze30, if_true, if_false, cg_stk h I.stk, J.n0, hlt, cis_al h hal, C_size h hal, I.lq.1.sz, hlt2, hg, cis_pc h hli, cg_pc h hli, v13]
    by_cases c : R.1 11 i = 0
    · by_cases c2 : nI (frc R i) = x
      · rw [if_pos ⟨c, c2⟩] at hf1
        have hk := frf_keep hf1 k
        rw [show i + 1 + k = n by omega] at hk
        rw [hk, rfv_s]
        simp only [c, c2, not_true, if_false]
      · rw [if_neg (fun w => c2 w.2)] at hf1
        have ih := ih hf1
        simp only [c, if_true] at ih
        simp only [c, c2, not_true, not_false_iff, if_true, if_false, nI_1]
        exact ih
    · rw [if_neg (fun w => c w.1)] at hf1
      have ih := ih hf1
      simp only [c, if_false, Nat.add_zero] at ih
      simp only [c, not_false_iff, if_true, nI_1]
      exact ih
theorem C_free (h : cok st G) (I : CI G V) (L : REL V R) : AC X (d + 6) 60 [.ref (G.A .kx), .int x] (cw st G V) P = if x < 0 then P (.inr sI) (cw (st.1 + 7, st.2) G V) else P (.inl (some (.int (frV R (frf R x (nP R)))))) (cw st G V) := by
  have z5 : (5 ≤ d + 5) = True := eq_true (by omega)
  rw [A_X5_free]
  by_cases c : x < 0
  · rw [if_pos c]
    simp only [E_X5_free_0, E_X5_free_1, E_X5_free_4, E_X5_free_14, E_X5_free_14n, E_X5_free_15, E_X5_free_18, E_X5_free_19, E_X5_free_22, E_X5_free_22n, E_X5_free_23, E_X5_free_23n, E_X5_free_24, E_X5_free_24n, E_X5_free_27, E_X5_free_28, E_X5_free_31, E_X5_free_34, E_X5_free_34n, E_X5_free_35, E_X5_free_38, E_X5_free_39, E_X5_free_41, E_X5_free_41n, E_X5_free_42, E_X5_free_45, E_X5_free_46, E_X5_free_47, E_X5_free_47n, E_X5_free_48, E_X5_free_51, E_X5_free_52, zwith_some, zwith_none, zif_true, zaft_inl, Option.toList_some, Option.toList_none, List.cons_append, List.nil_append, zc1_int, zc1_ref, zc1_null, zc1_float, List.length_nil, List.length_cons, Nat.reduceAdd, Nat.reduceLeDiff, Nat.zero_add, z1and, z0and, zl00, zl01, zl02, zl03, ze00, ze10, ze20, ze30, if_true, if_false, Int32.not_le.mpr c, z5, cw_th, if_false]
    rfl
  · have c' := Int32.not_lt.mp c
    rw [if_neg c]
    have hf : ∀ {d P}, AC X (d + 4) 46 [.ref (G.A .stk), .int x] (cw st G V) P = P (.inl (some (rfv G.A .pc (frf R x (nP R))))) (cw st G V) := by
      intro d P
      rw [A_X4_freeAt]
      simp only [E_X4_freeAt_0, E_X4_freeAt_1, E_X4_freeAt_2, E_X4_freeAt_3, E_X4_freeAt_5, E_X4_freeAt_5n, E_X4_freeAt_6, E_X4_freeAt_9, E_X4_freeAt_12, E_X4_freeAt_13, E_X4_freeAt_13n, E_X4_freeAt_14, E_X4_freeAt_17, E_X4_freeAt_20, E_X4_freeAt_23, E_X4_freeAt_23n, E_X4_freeAt_24, E_X4_freeAt_27, E_X4_freeAt_28, E_X4_freeAt_31, E_X4_freeAt_31n, E_X4_freeAt_34, E_X4_freeAt_34n, E_X4_freeAt_36, E_X4_freeAt_36n, E_X4_freeAt_38, E_X4_freeAt_41, E_X4_freeAt_44, E_X4_freeAt_45, E_X4_freeAt_46, E_X4_freeAt_49, E_X4_freeAt_49n, E_X4_freeAt_51, E_X4_freeAt_51n, E_X4_freeAt_52, E_X4_freeAt_55, E_X4_freeAt_58, E_X4_freeAt_61, E_X4_freeAt_62, E_X4_freeAt_62n, zwith_some, zwith_none, zif_true, zaft_inl, Option.toList_some, Option.toList_none, List.cons_append, List.nil_append, zc1_int, zc1_ref, zc1_null, zc1_float, List.length_nil, List.length_cons, Nat.reduceAdd, Nat.reduceLeDiff, Nat.zero_add, z1and, z0and, zl00, zl01, zl02, zl03, ze00, ze10, ze20, ze30, if_true, if_false]
      exact C_freeAt_l h I L.pt.1 c' (nP R) 0 _ (by omega) rfl
    simp only [E_X5_free_0, E_X5_free_1, E_X5_free_4, E_X5_free_14, E_X5_free_14n, E_X5_free_15, E_X5_free_18, E_X5_free_19, E_X5_free_22, E_X5_free_22n, E_X5_free_23, E_X5_free_23n, E_X5_free_24, E_X5_free_24n, E_X5_free_27, E_X5_free_28, E_X5_free_31, E_X5_free_34, E_X5_free_34n, E_X5_free_35, E_X5_free_38, E_X5_free_39, E_X5_free_41, E_X5_free_41n, E_X5_free_42, E_X5_free_45, E_X5_free_46, E_X5_free_47, E_X5_free_47n, E_X5_free_48, E_X5_free_51, E_X5_free_52, zwith_some, zwith_none, zif_true, zaft_inl, Option.toList_some, Option.toList_none, List.cons_append, List.nil_append, zc1_int, zc1_ref, zc1_null, zc1_float, List.length_nil, List.length_cons, Nat.reduceAdd, Nat.reduceLeDiff, Nat.zero_add, z1and, z0and, zl00, zl01, zl02, zl03, ze00, ze10, ze20, ze30, if_true, if_false, c', cg_kx h I.kx, cis_stk h I.stk, hf]
    cases e : frf R x (nP R) with
    | none =>
      simp only [rfv_n, E_X5_free_0, E_X5_free_1, E_X5_free_4, E_X5_free_14, E_X5_free_14n, E_X5_free_15, E_X5_free_18, E_X5_free_19, E_X5_free_22, E_X5_free_22n, E_X5_free_23, E_X5_free_23n, E_X5_free_24, E_X5_free_24n, E_X5_free_27, E_X5_free_28, E_X5_free_31, E_X5_free_34, E_X5_free_34n, E_X5_free_35, E_X5_free_38, E_X5_free_39, E_X5_free_41, E_X5_free_41n, E_X5_free_42, E_X5_free_45, E_X5_free_46, E_X5_free_47, E_X5_free_47n, E_X5_free_48, E_X5_free_51, E_X5_free_52, zwith_some, zwith_none, zif_true, zaft_inl, Option.toList_some, Option.toList_none, List.cons_append, List.nil_append, zc1_int, zc1_ref, zc1_null, zc1_float, List.length_nil, List.length_cons, Nat.reduceAdd, Nat.reduceLeDiff, Nat.zero_add, z1and, z0and, zl00, zl01, zl02, zl03, ze00, ze10, ze20, ze30, if_true, if_false]
      rfl
    | some p =>
      have hp : p < nP R := by
        have : ∀ n p, frf R x n = some p → p < n := by
          intro n
          induction n with
          | zero => intro p hp; cases hp
          | succ n ih =>
            intro p hp
            cases e2 : frf R x n with
            | some q =>
              have := frf_keep e2 1
              rw [this] at hp
              cases hp
              exact Nat.lt_succ_of_lt (ih _ e2)
            | none =>
              rw [frf_one e2] at hp
              split at hp
              · cases hp; omega
              · cases hp
        exact this _ _ e
      have hlp := I.pc (show p < nQ V by have := L.pt.1.le.1; omega)
      have hv := (L.pt.1.pp p hp).v
      have v8 : V.i 8 p = R.1 6 p := hv 8 (by decide) (by decide)
      have v11 : V.i 11 p = R.1 9 p := hv 11 (by decide) (by decide)
      have v12 : V.i 12 p = R.1 10 p := hv 12 (by decide) (by decide)
      simp only [rfv_s, E_X5_free_0, E_X5_free_1, E_X5_free_4, E_X5_free_14, E_X5_free_14n, E_X5_free_15, E_X5_free_18, E_X5_free_19, E_X5_free_22, E_X5_free_22n, E_X5_free_23, E_X5_free_23n, E_X5_free_24, E_X5_free_24n, E_X5_free_27, E_X5_free_28, E_X5_free_31, E_X5_free_34, E_X5_free_34n, E_X5_free_35, E_X5_free_38, E_X5_free_39, E_X5_free_41, E_X5_free_41n, E_X5_free_42, E_X5_free_45, E_X5_free_46, E_X5_free_47, E_X5_free_47n, E_X5_free_48, E_X5_free_51, E_X5_free_52, zwith_some, zwith_none, zif_true, zaft_inl, Option.toList_some, Option.toList_none, List.cons_append, List.nil_append, zc1_int, zc1_ref, zc1_null, zc1_float, List.length_nil, List.length_cons, Nat.reduceAdd, Nat.reduceLeDiff, Nat.zero_add, z1and, z0and, zl00, zl01, zl02, zl03, ze00, ze10, ze20, ze30, if_true, if_false, cg_pc h hlp, v8, v11, v12]
      rfl
end AS
