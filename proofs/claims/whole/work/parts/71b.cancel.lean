section CC2
variable {X : ZX} {d : Nat} {st st0 S : ZS} {G G0 : CG} {V V' V0 : CV} {P : ZO → ZS → Prop} {x y z : Int32} {n m p q r j k a i dd : Nat} {R R0 R' : MR} {f g : Nat → Nat}
theorem C_tk (h : cok st G) (I : CI G V) (L : REL V R) (hj : j < nJ V) (hs : R.1 15 j = 1) (K : ∀ V', fN V V' j → CI G V' → pot V' = pot V → REL V' (tkF R j) → P (.inl none) (cw st G V')) : AC X (d + 4) 4 [.ref (G.A (.jb j))] (cw st G V) P := by
  have hjR : j < tN (R.2.1 21) := by rw [← L.nn.2]; exact hj
  have hpj : plc R j := ⟨hjR, .inl hs⟩
  obtain ⟨a1, a2, a3, a4, a5⟩ := L.jr j hj
  obtain ⟨b1, b2, b3⟩ := a4 (.inl hs)
  have hn := L.ir.jn j hjR
  refine C_takeOff h I L.pt.1 L.pt.2.1 L.pt.2.2 hj (c := tN (R.1 14 j)) (f := jf R j) (b2.trans hn.1) hn.2.2 b3 (fun i hi => ⟨(L.jt.1 j i hpj hi).2, (L.jt.1 j i hpj hi).1⟩) (fun a b hab hb e => ?_) ?_
  · have := (L.jt.2 j a j b hpj hpj (by omega) hb e).2
    omega
  · intro V1 F I1 hp J h1 h5 h6
    exact K V1 F I1 hp (REL_tk L I hj hs F J h1 h5 h6)
theorem C_tk0 (h : cok st G) (I : CI G V) (L : REL V R) (hj : j < nJ V) (hs : R.1 15 j = 0) (K : ∀ V', fN V V' j → CI G V' → pot V' = pot V → REL V' R → P (.inl none) (cw st G V')) : AC X (d + 4) 4 [.ref (G.A (.jb j))] (cw st G V) P := by
  obtain ⟨a1, a2, a3, a4, a5⟩ := L.jr j hj
  obtain ⟨b1, b2⟩ := a5 (.inl hs)
  refine C_takeOff h I L.pt.1 L.pt.2.1 L.pt.2.2 hj (c := 0) (f := jf R j) b2 (Nat.zero_le _) (fun i hi => absurd hi (Nat.not_lt_zero i)) (fun i hi => absurd hi (Nat.not_lt_zero i)) (fun a b hab hb e => absurd hb (Nat.not_lt_zero b)) ?_
  intro V1 F I1 hp J h1 h5 h6
  have J : PI V1 (mA R 11 (R.1 11)) (nP R) := J
  rw [mA_id] at J
  exact K V1 F I1 hp (REL_tk0 L I hj hs F J h1 h5 h6)
theorem C_cancel (h : cok st G) (I : CI G V) (L : REL V R) (K0 : canW R x ≠ 0 → P (.inr (if canW R x = 1 then sI else sS)) (cw (st.1 + 7, st.2) G V)) (K : canW R x = 0 → ∀ st' G' V', Sta st G V st' G' V' → CI G' V' → REL V' (canF R (tN x)) → nC V' = nC V → P (.inl (some (.int (R.1 15 (tN x))))) (cw st' G' V')) : AC X (d + 12) 56 [.ref (G.A .kx), .int x] (cw st G V) P := by
  have h30 := I.lj.2.1
  have z5 : (5 ≤ d + 11) = True := eq_true (by omega)
  have n21 := L.n21
  rw [A_X5_cancel]
  by_cases c : 0 ≤ x ∧ x ≤ nI (nJ V) - 1
  · have c' := c
    obtain ⟨j, hj, rfl⟩ := nI_of_rng (by omega) c.1 c.2
    have ej : tN (nI j) = j := tN_nI (by omega)
    have hjd : ∀ {P : ZO → ZS → Prop}, AC X (d + 11) 65 [.ref (G.A .kx), .int (nI j)] (cw st G V) P = P (.inl (some (.ref (G.A (.jb j))))) (cw st G V) := fun {P} => by rw [C_jAt (d := d + 5) h I, if_pos c, ej]
    have hjR : j < tN (R.2.1 21) := by rw [← L.nn.2]; exact hj
    obtain ⟨a1, a2, a3, a4, a5⟩ := L.jr j hj
    have hlj := I.jb hj
    have hcw : canW R (nI j) = if 1 < R.1 15 j then 2 else 0 := by
      unfold canW
      rw [if_neg (fun w => w (by rw [n21]; exact c)), ej]
    rcases L.ir.jk j hjR with s | s | s | s
    · rw [s, if_neg (by decide)] at hcw
      have K := K hcw
      rw [ej] at K
      rw [s] at K
      have hs : V.i 5 j = 0 := a2.trans s
      simp only [E_X5_cancel_0, E_X5_cancel_0n, E_X5_cancel_1, E_X5_cancel_2, E_X5_cancel_5, E_X5_cancel_5n, E_X5_cancel_6, E_X5_cancel_6n, E_X5_cancel_7, E_X5_cancel_10, E_X5_cancel_11, E_X5_cancel_12, E_X5_cancel_13, E_X5_cancel_16, E_X5_cancel_17, E_X5_cancel_18, E_X5_cancel_21, E_X5_cancel_31, E_X5_cancel_31n, E_X5_cancel_32, E_X5_cancel_35, E_X5_cancel_35n, E_X5_cancel_36, E_X5_cancel_37, E_X5_cancel_40, E_X5_cancel_40n, E_X5_cancel_41, E_X5_cancel_44, E_X5_cancel_45, zwith_some, zwith_none, zif_true, zaft_inl, Option.toList_some, Option.toList_none, List.cons_append, List.nil_append, zc1_int, zc1_ref, zc1_null, zc1_float, List.length_nil, List.length_cons, Nat.reduceAdd, Nat.reduceLeDiff, Nat.zero_add, z1and, z0and, zl00, zl01, zl02, zl03, ze00, ze10, ze20, ze30, if_true, if_false, cis_kx h I.kx, hjd, cg_jb h hlj, hs, show ¬ (0 : Int32) = 2 from by decide, show ¬ (0 : Int32) = 3 from by decide, if_false, if_true, not_false_iff, cis_jb h hlj]
      refine C_tk0 h I L hj s ?_
      intro V1 F I1 hp L1
      have hj1 : j < nJ V1 := by
        have : nJ V1 = nJ V := congrArg tN (F.i 1 1 (by decide) (by omega) (by omega))
        rw [this]; exact hj
      have L2 := REL_25 (x := 0) (REL_st L1 I1 hj1 (v := 3) (.inl ⟨s, rfl⟩))
      have hl1 := I1.jb hj1
      simp only [E_X5_cancel_0, E_X5_cancel_0n, E_X5_cancel_1, E_X5_cancel_2, E_X5_cancel_5, E_X5_cancel_5n, E_X5_cancel_6, E_X5_cancel_6n, E_X5_cancel_7, E_X5_cancel_10, E_X5_cancel_11, E_X5_cancel_12, E_X5_cancel_13, E_X5_cancel_16, E_X5_cancel_17, E_X5_cancel_18, E_X5_cancel_21, E_X5_cancel_31, E_X5_cancel_31n, E_X5_cancel_32, E_X5_cancel_35, E_X5_cancel_35n, E_X5_cancel_36, E_X5_cancel_37, E_X5_cancel_40, E_X5_cancel_40n, E_X5_cancel_41, E_X5_cancel_44, E_X5_cancel_45, zwith_some, zwith_none, zif_true, zaft_inl, Option.toList_some, Option.toList_none, List.cons_append, List.nil_append, zc1_int, zc1_ref, zc1_null, zc1_float, List.length_nil, List.length_cons, Nat.reduceAdd, Nat.reduceLeDiff, Nat.zero_add, z1and, z0and, zl00, zl01, zl02, zl03, ze00, ze10, ze20, ze30, if_true, if_false, cp_jb h hl1, cg_jb h hl1, cis_kx h I.kx]
      refine C_try h (CI.vi I1 (by decide)) L2 ?_
      intro st2 G2 V2 S2 I2 L3 hC _
      simp only [E_X5_cancel_0, E_X5_cancel_0n, E_X5_cancel_1, E_X5_cancel_2, E_X5_cancel_5, E_X5_cancel_5n, E_X5_cancel_6, E_X5_cancel_6n, E_X5_cancel_7, E_X5_cancel_10, E_X5_cancel_11, E_X5_cancel_12, E_X5_cancel_13, E_X5_cancel_16, E_X5_cancel_17, E_X5_cancel_18, E_X5_cancel_21, E_X5_cancel_31, E_X5_cancel_31n, E_X5_cancel_32, E_X5_cancel_35, E_X5_cancel_35n, E_X5_cancel_36, E_X5_cancel_37, E_X5_cancel_40, E_X5_cancel_40n, E_X5_cancel_41, E_X5_cancel_44, E_X5_cancel_45, zwith_some, zwith_none, zif_true, zaft_inl, Option.toList_some, Option.toList_none, List.cons_append, List.nil_append, zc1_int, zc1_ref, zc1_null, zc1_float, List.length_nil, List.length_cons, Nat.reduceAdd, Nat.reduceLeDiff, Nat.zero_add, z1and, z0and, zl00, zl01, zl02, zl03, ze00, ze10, ze20, ze30, if_true, if_false]
      refine K st2 G2 V2 ⟨S2.ex, ?_⟩ I2 ?_ ?_
      · have := S2.pt
        rw [pot_vI (by decide), hp] at this
        exact this
      · have e : canF R j = trF (mF (mA R 15 (upd (R.1 15) j 3)) 25 0) := by
          unfold canF canM
          rw [s, if_neg (by decide)]
          rfl
        rw [e]
        exact L3
      · rw [hC]
        exact congrArg tN ((vI_oo (by omega)).trans (F.i 1 2 (by decide) (by omega) (by omega)))
    · rw [s, if_neg (by decide)] at hcw
      have K := K hcw
      rw [ej] at K
      rw [s] at K
      have hs : V.i 5 j = 1 := a2.trans s
      simp only [E_X5_cancel_0, E_X5_cancel_0n, E_X5_cancel_1, E_X5_cancel_2, E_X5_cancel_5, E_X5_cancel_5n, E_X5_cancel_6, E_X5_cancel_6n, E_X5_cancel_7, E_X5_cancel_10, E_X5_cancel_11, E_X5_cancel_12, E_X5_cancel_13, E_X5_cancel_16, E_X5_cancel_17, E_X5_cancel_18, E_X5_cancel_21, E_X5_cancel_31, E_X5_cancel_31n, E_X5_cancel_32, E_X5_cancel_35, E_X5_cancel_35n, E_X5_cancel_36, E_X5_cancel_37, E_X5_cancel_40, E_X5_cancel_40n, E_X5_cancel_41, E_X5_cancel_44, E_X5_cancel_45, zwith_some, zwith_none, zif_true, zaft_inl, Option.toList_some, Option.toList_none, List.cons_append, List.nil_append, zc1_int, zc1_ref, zc1_null, zc1_float, List.length_nil, List.length_cons, Nat.reduceAdd, Nat.reduceLeDiff, Nat.zero_add, z1and, z0and, zl00, zl01, zl02, zl03, ze00, ze10, ze20, ze30, if_true, if_false, cis_kx h I.kx, hjd, cg_jb h hlj, hs, show ¬ (1 : Int32) = 2 from by decide, show ¬ (1 : Int32) = 3 from by decide, if_false, if_true, not_false_iff, cis_jb h hlj]
      refine C_tk h I (REL_25 (x := 0) L) hj s ?_
      intro V1 F I1 hp L1
      have hj1 : j < nJ V1 := by
        have : nJ V1 = nJ V := congrArg tN (F.i 1 1 (by decide) (by omega) (by omega))
        rw [this]; exact hj
      have L2 := REL_st L1 I1 hj1 (v := 3) (.inl ⟨by rw [tkF_15, pk_us], rfl⟩)
      have hl1 := I1.jb hj1
      simp only [E_X5_cancel_0, E_X5_cancel_0n, E_X5_cancel_1, E_X5_cancel_2, E_X5_cancel_5, E_X5_cancel_5n, E_X5_cancel_6, E_X5_cancel_6n, E_X5_cancel_7, E_X5_cancel_10, E_X5_cancel_11, E_X5_cancel_12, E_X5_cancel_13, E_X5_cancel_16, E_X5_cancel_17, E_X5_cancel_18, E_X5_cancel_21, E_X5_cancel_31, E_X5_cancel_31n, E_X5_cancel_32, E_X5_cancel_35, E_X5_cancel_35n, E_X5_cancel_36, E_X5_cancel_37, E_X5_cancel_40, E_X5_cancel_40n, E_X5_cancel_41, E_X5_cancel_44, E_X5_cancel_45, zwith_some, zwith_none, zif_true, zaft_inl, Option.toList_some, Option.toList_none, List.cons_append, List.nil_append, zc1_int, zc1_ref, zc1_null, zc1_float, List.length_nil, List.length_cons, Nat.reduceAdd, Nat.reduceLeDiff, Nat.zero_add, z1and, z0and, zl00, zl01, zl02, zl03, ze00, ze10, ze20, ze30, if_true, if_false, cp_jb h hl1, cg_jb h hl1, cis_kx h I.kx]
      refine C_try h (CI.vi I1 (by decide)) L2 ?_
      intro st2 G2 V2 S2 I2 L3 hC _
      simp only [E_X5_cancel_0, E_X5_cancel_0n, E_X5_cancel_1, E_X5_cancel_2, E_X5_cancel_5, E_X5_cancel_5n, E_X5_cancel_6, E_X5_cancel_6n, E_X5_cancel_7, E_X5_cancel_10, E_X5_cancel_11, E_X5_cancel_12, E_X5_cancel_13, E_X5_cancel_16, E_X5_cancel_17, E_X5_cancel_18, E_X5_cancel_21, E_X5_cancel_31, E_X5_cancel_31n, E_X5_cancel_32, E_X5_cancel_35, E_X5_cancel_35n, E_X5_cancel_36, E_X5_cancel_37, E_X5_cancel_40, E_X5_cancel_40n, E_X5_cancel_41, E_X5_cancel_44, E_X5_cancel_45, zwith_some, zwith_none, zif_true, zaft_inl, Option.toList_some, Option.toList_none, List.cons_append, List.nil_append, zc1_int, zc1_ref, zc1_null, zc1_float, List.length_nil, List.length_cons, Nat.reduceAdd, Nat.reduceLeDiff, Nat.zero_add, z1and, z0and, zl00, zl01, zl02, zl03, ze00, ze10, ze20, ze30, if_true, if_false]
      refine K st2 G2 V2 ⟨S2.ex, ?_⟩ I2 ?_ ?_
      · have := S2.pt
        rw [pot_vI (by decide), hp] at this
        exact this
      · have e : canF R j = trF (mA (tkF (mF R 25 0) j) 15 (upd ((tkF (mF R 25 0) j).1 15) j 3)) := by
          unfold canF canM
          rw [s, if_pos rfl]
        rw [e]
        exact L3
      · rw [hC]
        exact congrArg tN ((vI_oo (by omega)).trans (F.i 1 2 (by decide) (by omega) (by omega)))
    · rw [s, if_pos (by decide)] at hcw
      rw [hcw] at K0
      have hs : V.i 5 j = 2 := a2.trans s
      simp only [E_X5_cancel_0, E_X5_cancel_0n, E_X5_cancel_1, E_X5_cancel_2, E_X5_cancel_5, E_X5_cancel_5n, E_X5_cancel_6, E_X5_cancel_6n, E_X5_cancel_7, E_X5_cancel_10, E_X5_cancel_11, E_X5_cancel_12, E_X5_cancel_13, E_X5_cancel_16, E_X5_cancel_17, E_X5_cancel_18, E_X5_cancel_21, E_X5_cancel_31, E_X5_cancel_31n, E_X5_cancel_32, E_X5_cancel_35, E_X5_cancel_35n, E_X5_cancel_36, E_X5_cancel_37, E_X5_cancel_40, E_X5_cancel_40n, E_X5_cancel_41, E_X5_cancel_44, E_X5_cancel_45, zwith_some, zwith_none, zif_true, zaft_inl, Option.toList_some, Option.toList_none, List.cons_append, List.nil_append, zc1_int, zc1_ref, zc1_null, zc1_float, List.length_nil, List.length_cons, Nat.reduceAdd, Nat.reduceLeDiff, Nat.zero_add, z1and, z0and, zl00, zl01, zl02, zl03, ze00, ze10, ze20, ze30, if_true, if_false, cis_kx h I.kx, hjd, cg_jb h hlj, hs, if_true, z5]
      exact K0 (by decide)
    · rw [s, if_pos (by decide)] at hcw
      rw [hcw] at K0
      have hs : V.i 5 j = 3 := a2.trans s
      simp only [E_X5_cancel_0, E_X5_cancel_0n, E_X5_cancel_1, E_X5_cancel_2, E_X5_cancel_5, E_X5_cancel_5n, E_X5_cancel_6, E_X5_cancel_6n, E_X5_cancel_7, E_X5_cancel_10, E_X5_cancel_11, E_X5_cancel_12, E_X5_cancel_13, E_X5_cancel_16, E_X5_cancel_17, E_X5_cancel_18, E_X5_cancel_21, E_X5_cancel_31, E_X5_cancel_31n, E_X5_cancel_32, E_X5_cancel_35, E_X5_cancel_35n, E_X5_cancel_36, E_X5_cancel_37, E_X5_cancel_40, E_X5_cancel_40n, E_X5_cancel_41, E_X5_cancel_44, E_X5_cancel_45, zwith_some, zwith_none, zif_true, zaft_inl, Option.toList_some, Option.toList_none, List.cons_append, List.nil_append, zc1_int, zc1_ref, zc1_null, zc1_float, List.length_nil, List.length_cons, Nat.reduceAdd, Nat.reduceLeDiff, Nat.zero_add, z1and, z0and, zl00, zl01, zl02, zl03, ze00, ze10, ze20, ze30, if_true, if_false, cis_kx h I.kx, hjd, cg_jb h hlj, hs, show ¬ (3 : Int32) = 2 from by decide, if_false, not_true, z5]
      exact K0 (by decide)
  · have hcw : canW R x = 1 := by
      unfold canW
      rw [n21, if_pos c]
    rw [hcw] at K0
    simp only [E_X5_cancel_0, E_X5_cancel_0n, E_X5_cancel_1, E_X5_cancel_2, E_X5_cancel_5, E_X5_cancel_5n, E_X5_cancel_6, E_X5_cancel_6n, E_X5_cancel_7, E_X5_cancel_10, E_X5_cancel_11, E_X5_cancel_12, E_X5_cancel_13, E_X5_cancel_16, E_X5_cancel_17, E_X5_cancel_18, E_X5_cancel_21, E_X5_cancel_31, E_X5_cancel_31n, E_X5_cancel_32, E_X5_cancel_35, E_X5_cancel_35n, E_X5_cancel_36, E_X5_cancel_37, E_X5_cancel_40, E_X5_cancel_40n, E_X5_cancel_41, E_X5_cancel_44, E_X5_cancel_45, zwith_some, zwith_none, zif_true, zaft_inl, Option.toList_some, Option.toList_none, List.cons_append, List.nil_append, zc1_int, zc1_ref, zc1_null, zc1_float, List.length_nil, List.length_cons, Nat.reduceAdd, Nat.reduceLeDiff, Nat.zero_add, z1and, z0and, zl00, zl01, zl02, zl03, ze00, ze10, ze20, ze30, if_true, if_false, cis_kx h I.kx, C_jAt h I, if_neg c, zaft_inr zh_X5_cancel]
    exact K0 (by decide)
end CC2
