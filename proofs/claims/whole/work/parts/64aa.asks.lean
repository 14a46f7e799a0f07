/-! length -/
section AS
variable {X : ZX} {d : Nat} {st st0 : ZS} {G G0 : CG} {V V' V0 : CV} {P : ZO → ZS → Prop} {x y z : Int32} {n m p q r j k : Nat} {R R0 R' : MR} {f g : Nat → Nat}
theorem C_length (h : cok st G) (I : CI G V) (L : REL V R) : AC X (d + 7) 53 [.ref (G.A .kx), .int x] (cw st G V) P = if lenW R x = 0 then P (.inl (some (.float (lnF R (tN x))))) (cw st G V) else P (.inr sI) (cw (st.1 + 7, st.2) G V) := by
  have h12 := I.ld.2.1
  rw [A_X5_length]
  by_cases c : 0 ≤ x ∧ x ≤ nI (nD V) - 1
  · have c' := c
    obtain ⟨i, hi, rfl⟩ := nI_of_rng (by omega) c.1 c.2
    have ei : tN (nI i) = i := tN_nI (by omega)
    obtain ⟨d2, d3, dou⟩ := L.dr i hi
    have hpt := L.ir.pt i (by omega)
    have hs := fun {d} {P} => C_sum (X := X) (d := d) (P := P) h (I.ou0 hi) (I.sk0 hi) dou (fun k hk => (hpt k hk).1.2.2)
    have e0 : lenW R (nI i) = 0 := by
      unfold lenW
      rw [L.n5, if_pos c]
    rw [e0, if_pos rfl, ei]
    simp only [E_X5_length_0, E_X5_length_0n, E_X5_length_1, E_X5_length_2, E_X5_length_5, E_X5_length_8, E_X5_length_11, zwith_some, zwith_none, zif_true, zaft_inl, Option.toList_some, Option.toList_none, List.cons_append, List.nil_append, zc1_int, zc1_ref, zc1_null, zc1_float, List.length_nil, List.length_cons, Nat.reduceAdd, Nat.reduceLeDiff, Nat.zero_add, z1and, z0and, zl00, zl01, zl02, zl03, ze00, ze10, ze20, ze30, if_true, if_false, cis_kx h I.kx, C_dAt h I, c, and_self, ei, cg_dr h (I.dr hi), cis_ou h (I.ou0 hi), hs]
    rfl
  · have e0 : lenW R x = 1 := by
      unfold lenW
      rw [L.n5, if_neg c]
    rw [e0, if_neg (by decide)]
    simp only [E_X5_length_0, E_X5_length_0n, E_X5_length_1, E_X5_length_2, E_X5_length_5, E_X5_length_8, E_X5_length_11, zwith_some, zwith_none, zif_true, zaft_inl, Option.toList_some, Option.toList_none, List.cons_append, List.nil_append, zc1_int, zc1_ref, zc1_null, zc1_float, List.length_nil, List.length_cons, Nat.reduceAdd, Nat.reduceLeDiff, Nat.zero_add, z1and, z0and, zl00, zl01, zl02, zl03, ze00, ze10, ze20, ze30, if_true, if_false, cis_kx h I.kx, C_dAt h I, c, zaft_inr zh_X5_length]
end AS
