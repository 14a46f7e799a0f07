/-! sheet -/
section SE
variable {X : ZX} {d : Nat} {st st0 S : ZS} {G G0 : CG} {V V' V0 : CV} {P : ZO → ZS → Prop} {x y z : Int32} {n m p q r j k a i : Nat} {R R0 R' : MR} {f g : Nat → Nat}
theorem nsF_2 (I : IR R) (hj : j < tN (R.2.1 21)) (hi : i ≠ 14) : (nsF R j).2.1 i = R.2.1 i := by
  have hc6 := (I.jn j hj).2.2
  have I0 : nsI R j 0 R := ⟨I.p14.2, I.p14.1, I.fr, fun _ _ => rfl, fun i hi => absurd hi (Nat.not_lt_zero i), fun _ _ => rfl, fun _ _ => rfl, rfl, Nat.le_refl _, fun _ _ _ _ _ => rfl⟩
  obtain ⟨I1, hk, hkt⟩ := nsl_I (w := nsW R j true) (hh := nsW R j false) (tN (R.1 14 j)) 0 R (by omega) I0
  have f21 := I1.fl i hi
  unfold nsF nsE
  split
  · exact f21
  · show (mF _ 14 _).2.1 i = _
    rw [mF2, if_neg hi]
    exact f21
theorem trl_2 (hi : i ≠ 14) : ∀ (m j : Nat) (R : MR), IR R → j + m = tN (R.2.1 21) → (trl m j R).2.1 i = R.2.1 i
  | 0, j, R, _, _ => rfl
  | m + 1, j, R, I, hj => by
    have hj' : j < tN (R.2.1 21) := by omega
    show (trl m (j + 1) (if R.1 15 j = 0 ∧ R.1 0 (tN (R.1 13 j)) = 1 then nsF R j else R)).2.1 i = _
    by_cases c : R.1 15 j = 0 ∧ R.1 0 (tN (R.1 13 j)) = 1
    · rw [if_pos c, trl_2 hi m (j + 1) _ (nsF_IR I hj') (by rw [nsF_21 I hj']; omega), nsF_2 I hj' hi]
    · rw [if_neg c, trl_2 hi m (j + 1) R I (by omega)]
theorem trF_2 (I : IR R) (hi : i ≠ 14) : (trF R).2.1 i = R.2.1 i := trl_2 hi _ 0 R I (by omega)
theorem C_isSide : AC X (d + 1) 67 [.int x] st P = P (.inl (some (.int (if 1 ≤ x ∧ x ≤ 64 then 1 else 0)))) st := by
  rw [A_X5_isSide]
  by_cases c1 : x < 1
  · rw [if_neg (fun z => Int32.not_lt.mpr z.1 c1)]
    simp only [E_X5_isSide_0, E_X5_isSide_1, E_X5_isSide_2, E_X5_isSide_5, E_X5_isSide_6, E_X5_isSide_8, E_X5_isSide_11, E_X5_isSide_12, E_X5_isSide_15, E_X5_isSide_16, zwith_some, zwith_none, zif_true, zaft_inl, Option.toList_some, Option.toList_none, List.cons_append, List.nil_append, zc1_int, zc1_ref, zc1_null, zc1_float, List.length_nil, List.length_cons, Nat.reduceAdd, Nat.reduceLeDiff, Nat.zero_add, z1and, z0and, zl00, zl01, zl02, zl03, ze00, ze10, ze20, ze30, if_true, if_false, c1]
  · by_cases c2 : 64 < x
    · rw [if_neg (fun z => Int32.not_lt.mpr z.2 c2)]
      simp only [E_X5_isSide_0, E_X5_isSide_1, E_X5_isSide_2, E_X5_isSide_5, E_X5_isSide_6, E_X5_isSide_8, E_X5_isSide_11, E_X5_isSide_12, E_X5_isSide_15, E_X5_isSide_16, zwith_some, zwith_none, zif_true, zaft_inl, Option.toList_some, Option.toList_none, List.cons_append, List.nil_append, zc1_int, zc1_ref, zc1_null, zc1_float, List.length_nil, List.length_cons, Nat.reduceAdd, Nat.reduceLeDiff, Nat.zero_add, z1and, z0and, zl00, zl01, zl02, zl03, ze00, ze10, ze20, ze30, if_true, if_false, c1, c2]
    · rw [if_pos ⟨Int32.not_lt.mp c1, Int32.not_lt.mp c2⟩]
      simp only [E_X5_isSide_0, E_X5_isSide_1, E_X5_isSide_2, E_X5_isSide_5, E_X5_isSide_6, E_X5_isSide_8, E_X5_isSide_11, E_X5_isSide_12, E_X5_isSide_15, E_X5_isSide_16, zwith_some, zwith_none, zif_true, zaft_inl, Option.toList_some, Option.toList_none, List.cons_append, List.nil_append, zc1_int, zc1_ref, zc1_null, zc1_float, List.length_nil, List.length_cons, Nat.reduceAdd, Nat.reduceLeDiff, Nat.zero_add, z1and, z0and, zl00, zl01, zl02, zl03, ze00, ze10, ze20, ze30, if_true, if_false, c1, c2]
theorem C_bring (h : cok st G) (I : CI G V) (hn : V.i 14 0 = nI n) (hq : n ≤ nQ V) (h4 : n < 400) {w hh : Int32} (K : ∀ st' G' V', Sta st G V st' G' V' → pcd G' V V' n none (V.i 14 1) 0 0 w hh → P (.inl (some (.int (V.i 14 1)))) (cw st' G' (vI V' 14 1 (V.i 14 1 + 1)))) : AC X (d + 8) 39 [.ref (G.A .stk), .int w, .int hh] (cw st G V) P := by
  rw [A_X4_bring]
  simp only [E_X4_bring_0, E_X4_bring_0n, E_X4_bring_1, E_X4_bring_4, E_X4_bring_5, E_X4_bring_5n, E_X4_bring_6, E_X4_bring_9, E_X4_bring_10, E_X4_bring_11, E_X4_bring_12, E_X4_bring_13, E_X4_bring_14, E_X4_bring_15, E_X4_bring_18, E_X4_bring_18n, E_X4_bring_19, E_X4_bring_19n, E_X4_bring_19i, E_X4_bring_19f, E_X4_bring_20, E_X4_bring_23, E_X4_bring_24, E_X4_bring_25, E_X4_bring_28, E_X4_bring_29, zwith_some, zwith_none, zif_true, zaft_inl, Option.toList_some, Option.toList_none, List.cons_append, List.nil_append, zc1_int, zc1_ref, zc1_null, zc1_float, List.length_nil, List.length_cons, Nat.reduceAdd, Nat.reduceLeDiff, Nat.zero_add, z1and, z0and, zl00, zl01, zl02, zl03, ze00, ze10, ze20, ze30, if_true, if_false, cg_stk h I.stk, cis_stk h I.stk]
  refine C_next h I hn hq h4 ?_
  intro st' G' V' S hx
  have hln : G'.live (.pc n) := hx.1.pc (by have := hx.2.2.2.1; omega)
  have hls : G'.live .stk := S.ex.lv _ I.stk
  have eA := S.ex.A .stk (by decide) I.stk
  have hb := fun {d} {P} => C_begin (X := X) (d := d) (P := P) (V := V') (o := none) (s := V.i 14 1) (l := 0) (t := 0) (w := w) (hh := hh) S.ok hln
  rw [rfv_n] at hb
  have e1 : (vB V' n none (V.i 14 1) 0 0 w hh).i 14 1 = V.i 14 1 := (vB_i (by omega)).trans hx.2.1.w.1
  simp only [E_X4_bring_0, E_X4_bring_0n, E_X4_bring_1, E_X4_bring_4, E_X4_bring_5, E_X4_bring_5n, E_X4_bring_6, E_X4_bring_9, E_X4_bring_10, E_X4_bring_11, E_X4_bring_12, E_X4_bring_13, E_X4_bring_14, E_X4_bring_15, E_X4_bring_18, E_X4_bring_18n, E_X4_bring_19, E_X4_bring_19n, E_X4_bring_19i, E_X4_bring_19f, E_X4_bring_20, E_X4_bring_23, E_X4_bring_24, E_X4_bring_25, E_X4_bring_28, E_X4_bring_29, zwith_some, zwith_none, zif_true, zaft_inl, Option.toList_some, Option.toList_none, List.cons_append, List.nil_append, zc1_int, zc1_ref, zc1_null, zc1_float, List.length_nil, List.length_cons, Nat.reduceAdd, Nat.reduceLeDiff, Nat.zero_add, z1and, z0and, zl00, zl01, zl02, zl03, ze00, ze10, ze20, ze30, if_true, if_false]
  rw [← eA]
  simp only [E_X4_bring_0, E_X4_bring_0n, E_X4_bring_1, E_X4_bring_4, E_X4_bring_5, E_X4_bring_5n, E_X4_bring_6, E_X4_bring_9, E_X4_bring_10, E_X4_bring_11, E_X4_bring_12, E_X4_bring_13, E_X4_bring_14, E_X4_bring_15, E_X4_bring_18, E_X4_bring_18n, E_X4_bring_19, E_X4_bring_19n, E_X4_bring_19i, E_X4_bring_19f, E_X4_bring_20, E_X4_bring_23, E_X4_bring_24, E_X4_bring_25, E_X4_bring_28, E_X4_bring_29, zwith_some, zwith_none, zif_true, zaft_inl, Option.toList_some, Option.toList_none, List.cons_append, List.nil_append, zc1_int, zc1_ref, zc1_null, zc1_float, List.length_nil, List.length_cons, Nat.reduceAdd, Nat.reduceLeDiff, Nat.zero_add, z1and, z0and, zl00, zl01, zl02, zl03, ze00, ze10, ze20, ze30, if_true, if_false, cis_pc S.ok hln, hb, cg_stk S.ok hls, cp_stk S.ok hls, e1]
  exact K st' G' _ ⟨S.ex, S.pt⟩ (pcd_of hx (fun q hq => by cases hq))
theorem C_sheet (h : cok st G) (I : CI G V) (L : REL V R) (K0 : sheW R x y ≠ 0 → P (.inr (if sheW R x y = 1 then sA else sS)) (cw (st.1 + 7, st.2) G V)) (K : sheW R x y = 0 → ∀ st' G' V', Sta st G V st' G' V' → CI G' V' → REL V' (sheF R x y) → nC V' = nC V → P (.inl (some (.int ((sheF R x y).2.1 15 - 1)))) (cw st' G' V')) : AC X (d + 12) 54 [.ref (G.A .kx), .int x, .int y] (cw st G V) P := by
  have z5 : (5 ≤ d + 11) = True := eq_true (by omega)
  have hs15 := L.ir.s15
  have hp14 := L.ir.p14
  have e15 : V.i 14 1 = R.2.1 15 := L.nu.1
  have e14 : V.i 14 0 = R.2.1 14 := L.pt.1.n0.trans hp14.1.symm
  rw [A_X5_sheet]
  unfold sheW at K0 K
  by_cases c1 : 1 ≤ x ∧ x ≤ 64
  · by_cases c2 : 1 ≤ y ∧ y ≤ 64
    · rw [if_neg (fun w => w ⟨c1, c2⟩)] at K0 K
      by_cases c3 : R.2.1 15 = 8 ∨ R.2.1 14 = 400
      · rw [if_pos c3] at K0
        have hge : ¬ (V.i 14 1 < 8 ∧ V.i 14 0 < 400) := by
          rw [e15, e14]
          rintro ⟨w1, w2⟩
          rcases c3 with w | w
          · rw [w] at w1; exact absurd w1 (by decide)
          · rw [w] at w2; exact absurd w2 (by decide)
        by_cases c4 : 8 ≤ V.i 14 1
        · simp only [E_X5_sheet_0, E_X5_sheet_1, E_X5_sheet_4, E_X5_sheet_7, E_X5_sheet_8, E_X5_sheet_11, E_X5_sheet_14, E_X5_sheet_24, E_X5_sheet_24n, E_X5_sheet_25, E_X5_sheet_28, E_X5_sheet_31, E_X5_sheet_33, E_X5_sheet_36, E_X5_sheet_36n, E_X5_sheet_37, E_X5_sheet_40, E_X5_sheet_43, E_X5_sheet_46, E_X5_sheet_49, E_X5_sheet_59, E_X5_sheet_59n, E_X5_sheet_60, E_X5_sheet_63, E_X5_sheet_64, E_X5_sheet_65, E_X5_sheet_68, E_X5_sheet_69, E_X5_sheet_69n, E_X5_sheet_70, E_X5_sheet_73, E_X5_sheet_74, zwith_some, zwith_none, zif_true, zaft_inl, Option.toList_some, Option.toList_none, List.cons_append, List.nil_append, zc1_int, zc1_ref, zc1_null, zc1_float, List.length_nil, List.length_cons, Nat.reduceAdd, Nat.reduceLeDiff, Nat.zero_add, z1and, z0and, zl00, zl01, zl02, zl03, ze00, ze10, ze20, ze30, if_true, if_false, C_isSide, c1, c2, and_self, cg_kx h I.kx, cg_stk h I.stk, c4, z5]
          exact K0 (by decide)
        · have c5 : ¬ V.i 14 0 < 400 := fun w => hge ⟨Int32.not_le.mp c4, w⟩
          simp only [E_X5_sheet_0, E_X5_sheet_1, E_X5_sheet_4, E_X5_sheet_7, E_X5_sheet_8, E_X5_sheet_11, E_X5_sheet_14, E_X5_sheet_24, E_X5_sheet_24n, E_X5_sheet_25, E_X5_sheet_28, E_X5_sheet_31, E_X5_sheet_33, E_X5_sheet_36, E_X5_sheet_36n, E_X5_sheet_37, E_X5_sheet_40, E_X5_sheet_43, E_X5_sheet_46, E_X5_sheet_49, E_X5_sheet_59, E_X5_sheet_59n, E_X5_sheet_60, E_X5_sheet_63, E_X5_sheet_64, E_X5_sheet_65, E_X5_sheet_68, E_X5_sheet_69, E_X5_sheet_69n, E_X5_sheet_70, E_X5_sheet_73, E_X5_sheet_74, zwith_some, zwith_none, zif_true, zaft_inl, Option.toList_some, Option.toList_none, List.cons_append, List.nil_append, zc1_int, zc1_ref, zc1_null, zc1_float, List.length_nil, List.length_cons, Nat.reduceAdd, Nat.reduceLeDiff, Nat.zero_add, z1and, z0and, zl00, zl01, zl02, zl03, ze00, ze10, ze20, ze30, if_true, if_false, C_isSide, c1, c2, and_self, cg_kx h I.kx, cg_stk h I.stk, c4, c5, z5]
          exact K0 (by decide)
      · rw [if_neg c3] at K
        have c15 : tN (R.2.1 15) < 8 := by
          rcases Nat.lt_or_ge (tN (R.2.1 15)) 8 with w | w
          · exact w
          · exact absurd (.inl (by rw [hs15.1, show tN (R.2.1 15) = 8 by omega]; rfl)) c3
        have c14 : nP R < 400 := by
          rcases Nat.lt_or_ge (nP R) 400 with w | w
          · exact w
          · exact absurd (.inr (by rw [hp14.1, show nP R = 400 by omega]; rfl)) c3
        have c4 : ¬ 8 ≤ V.i 14 1 := by
          rw [e15, hs15.1]
          exact nI_ge (b := 8) c15 (by decide)
        have c5 : V.i 14 0 < 400 := by
          rw [L.pt.1.n0]
          exact nI_lt (b := 400) c14 (by decide)
        simp only [E_X5_sheet_0, E_X5_sheet_1, E_X5_sheet_4, E_X5_sheet_7, E_X5_sheet_8, E_X5_sheet_11, E_X5_sheet_14, E_X5_sheet_24, E_X5_sheet_24n, E_X5_sheet_25, E_X5_sheet_28, E_X5_sheet_31, E_X5_sheet_33, E_X5_sheet_36, E_X5_sheet_36n, E_X5_sheet_37, E_X5_sheet_40, E_X5_sheet_43, E_X5_sheet_46, E_X5_sheet_49, E_X5_sheet_59, E_X5_sheet_59n, E_X5_sheet_60, E_X5_sheet_63, E_X5_sheet_64, E_X5_sheet_65, E_X5_sheet_68, E_X5_sheet_69, E_X5_sheet_69n, E_X5_sheet_70, E_X5_sheet_73, E_X5_sheet_74, zwith_some, zwith_none, zif_true, zaft_inl, Option.toList_some, Option.toList_none, List.cons_append, List.nil_append, zc1_int, zc1_ref, zc1_null, zc1_float, List.length_nil, List.length_cons, Nat.reduceAdd, Nat.reduceLeDiff, Nat.zero_add, z1and, z0and, zl00, zl01, zl02, zl03, ze00, ze10, ze20, ze30, if_true, if_false, C_isSide, c1, c2, and_self, cg_kx h I.kx, cg_stk h I.stk, c4, c5, cis_stk h I.stk, if_true, if_false]
        refine C_bring h I L.pt.1.n0 L.pt.1.le.1 c14 ?_
        intro st1 G1 V1 S1 hx
        obtain ⟨I1, F1, g1, gq, gi, gr⟩ := hx
        have eA := S1.ex.A .kx (by decide) I.kx
        have IRM := IR_she (w := x) (hh := y) L.ir (fun w => c3 (.inl w)) (fun w => c3 (.inr w))
        have eN : nP (sheM R x y) = nP R + 1 := by
          show (nI (nP R + 1)).toNatClampNeg = _
          exact nI_clamp (by omega)
        have hk : ∀ k, (k < 6 ∨ 12 < k) → (sheM R x y).1 k = R.1 k := fun k hk => by
          show (mAdd _ _ _ _ _ _ _ _ _).1 k = _
          rw [mAdd_o hk]
          rfl
        have hk2 : ∀ k, k ≠ 14 → k ≠ 15 → k ≠ 25 → (sheM R x y).2.1 k = R.2.1 k := fun k a b c => by
          show (mF (mAdd (mF R 25 0) _ _ _ _ _ _ _ _) 15 _).2.1 k = _
          rw [mF2, if_neg b, mAdd_2 a, mF2, if_neg c]
        have q0 : nD (vI V1 14 1 (V.i 14 1 + 1)) = nD V := congrArg tN ((vI_oo (by omega)).trans (F1.i 1 0 (by decide) (by omega)))
        have q1 : nJ (vI V1 14 1 (V.i 14 1 + 1)) = nJ V := congrArg tN ((vI_oo (by omega)).trans (F1.i 1 1 (by decide) (by omega)))
        have hi : ∀ c k, c < 8 → ¬ (c < 2 ∧ k = 3) → (vI V1 14 1 (V.i 14 1 + 1)).i c k = V.i c k := fun c k a b => (vI_oo (by omega)).trans (F1.i c k a b)
        have L1 : REL (vI V1 14 1 (V.i 14 1 + 1)) (sheM R x y) := by
          refine ⟨⟨?_, ?_⟩, ⟨?_, ?_, ?_, ?_⟩, ?_, ?_, ?_, IRM, ?_, ?_, ?_⟩
          · rw [q0, hk2 5 (by decide) (by decide) (by decide)]; exact L.nn.1
          · rw [q1, hk2 21 (by decide) (by decide) (by decide)]; exact L.nn.2
          · rw [vI_ss, e15]; rfl
          · rw [vI_oo (by omega), F1.w.2, hk2 23 (by decide) (by decide) (by decide)]; exact L.nu.2.1
          · show V1.u = R.2.2
            rw [F1.u]; exact L.nu.2.2.1
          · show V1.u ≤ _
            rw [F1.u]; exact L.nu.2.2.2
          · intro i hi'
            rw [q0] at hi'
            exact DR_o (L.dr i hi') (hi 2 i (by decide) (by omega)) (hi 3 i (by decide) (by omega)) (hi 7 (2 * i) (by decide) (by omega)) (by show V1.s _ = _; rw [F1.s]) (fun k hk' => hk k (by omega))
          · intro j hj
            rw [q1] at hj
            obtain ⟨a1, a2, a3, a4, a5⟩ := L.jr j hj
            have ej : ∀ b, jf (sheM R x y) j b = jf R j b := fun b => by unfold jf; rw [hk 17 (by omega)]
            refine ⟨?_, ?_, ?_, ?_, ?_⟩
            · rw [hi 4 j (by decide) (by omega), hk 14 (by omega)]; exact a1
            · rw [hi 5 j (by decide) (by omega), hk 15 (by omega)]; exact a2
            · rw [hk 13 (by omega)]
              exact (F1.r j).trans a3
            · rw [hk 15 (by omega), hk 16 (by omega), hk 14 (by omega), hi 6 j (by decide) (by omega), hi 1 (j + 4) (by decide) (by omega)]
              intro z
              obtain ⟨b1, b2, b3⟩ := a4 z
              refine ⟨b1, b2, fun b hb => ?_⟩
              rw [ej]
              exact (congrFun (F1.e (j + 4) (by omega)).1 b).trans (b3 b hb)
            · rw [hk 15 (by omega), hi 6 j (by decide) (by omega), hi 1 (j + 4) (by decide) (by omega)]; exact a5
          · rw [eN]
            refine ⟨?_, ?_, ?_⟩
            · refine PI_R (R := mAdd (mF R 25 0) (nP R) (R.2.1 15) 0 0 x y 0 (-1)) (PI_root (V := V) (R := mF R 25 0) L.pt.1 L.pt.2.2 c14 ?_ ?_ ?_ ?_) (fun _ _ _ => rfl)
              · rw [vI_oo (by omega)]; exact g1
              · have : nQ (vI V1 14 1 (V.i 14 1 + 1)) = nQ V1 := congrArg tN (vI_oo (by omega))
                rw [this]; exact gq
              · intro c q a b
                rw [vI_oo (by omega), gi c q a b, e15]
              · intro b q h1 h2
                show V1.r b q = _
                rw [gr b q h1 h2]
                by_cases e : q = nP R
                · rw [if_pos e, if_pos e]
                  split <;> rfl
                · rw [if_neg e, if_neg e]
            · exact TI_root L.pt.2.1 L.pt.2.2 L.pt.1.le.2 (by decide)
            · exact frp_in L.pt.2.2 (.inl (by decide))
          · have h11 : ∀ q, q < nP R → (sheM R x y).1 11 q = R.1 11 q := fun q hq => (show (mAdd (mF R 25 0) (nP R) (R.2.1 15) 0 0 x y 0 (-1)).1 11 q = (mF R 25 0).1 11 q from mAdd_f hq)
            have ej : ∀ j b, jf (sheM R x y) j b = jf R j b := fun j b => by unfold jf; rw [hk 17 (by omega)]
            have hpl : ∀ j, plc (sheM R x y) j → plc R j := fun j z => by
              obtain ⟨z1, z2⟩ := z
              rw [hk2 21 (by decide) (by decide) (by decide)] at z1
              rw [hk 15 (by omega)] at z2
              exact ⟨z1, z2⟩
            refine ⟨fun j b hj hb => ?_, fun j b j' b' hj hj' hb hb' he' => ?_⟩
            · rw [hk 14 (by omega)] at hb
              obtain ⟨u1, u2⟩ := L.jt.1 j b (hpl j hj) hb
              rw [ej, h11 _ u2, eN]
              exact ⟨u1, by omega⟩
            · rw [hk 14 (by omega)] at hb hb'
              rw [ej, ej] at he'
              exact L.jt.2 j b j' b' (hpl j hj) (hpl j' hj') hb hb' he'
          · intro p hp
            rw [eN] at hp
            have h6 : (sheM R x y).1 6 p = if p = nP R then R.2.1 15 else R.1 6 p := mAdd_g (R := mF R 25 0) (n := nP R) (q := p) (s := R.2.1 15) (x := 0) (y := 0) (w := x) (hh := y) (k := 0) (o := -1) (j := 6) (by decide) (by decide)
            rw [h6]
            by_cases e : p = nP R
            · rw [if_pos e]
              exact ⟨tN (R.2.1 15), c15, hs15.1⟩
            · rw [if_neg e]
              exact L.sh p (by omega)
          · refine CT_o L.ct (fun m hm => ?_) (F1.e 2 (by decide)).1 F1.u (hi 1 2 (by decide) (by omega)) (fun b j e => ⟨hi 4 j (by decide) (by omega), hi 7 _ (by decide) (by omega), by show V1.s _ = _; rw [F1.s]⟩) (fun b j e => hi 5 j (by decide) (by omega))
            rw [q1] at hm
            show V1.c m = 0
            rw [(F1.e m (by omega)).2]
            exact L.ct.1 m hm
        simp only [E_X5_sheet_0, E_X5_sheet_1, E_X5_sheet_4, E_X5_sheet_7, E_X5_sheet_8, E_X5_sheet_11, E_X5_sheet_14, E_X5_sheet_24, E_X5_sheet_24n, E_X5_sheet_25, E_X5_sheet_28, E_X5_sheet_31, E_X5_sheet_33, E_X5_sheet_36, E_X5_sheet_36n, E_X5_sheet_37, E_X5_sheet_40, E_X5_sheet_43, E_X5_sheet_46, E_X5_sheet_49, E_X5_sheet_59, E_X5_sheet_59n, E_X5_sheet_60, E_X5_sheet_63, E_X5_sheet_64, E_X5_sheet_65, E_X5_sheet_68, E_X5_sheet_69, E_X5_sheet_69n, E_X5_sheet_70, E_X5_sheet_73, E_X5_sheet_74, zwith_some, zwith_none, zif_true, zaft_inl, Option.toList_some, Option.toList_none, List.cons_append, List.nil_append, zc1_int, zc1_ref, zc1_null, zc1_float, List.length_nil, List.length_cons, Nat.reduceAdd, Nat.reduceLeDiff, Nat.zero_add, z1and, z0and, zl00, zl01, zl02, zl03, ze00, ze10, ze20, ze30, if_true, if_false]
        rw [← eA]
        simp only [E_X5_sheet_0, E_X5_sheet_1, E_X5_sheet_4, E_X5_sheet_7, E_X5_sheet_8, E_X5_sheet_11, E_X5_sheet_14, E_X5_sheet_24, E_X5_sheet_24n, E_X5_sheet_25, E_X5_sheet_28, E_X5_sheet_31, E_X5_sheet_33, E_X5_sheet_36, E_X5_sheet_36n, E_X5_sheet_37, E_X5_sheet_40, E_X5_sheet_43, E_X5_sheet_46, E_X5_sheet_49, E_X5_sheet_59, E_X5_sheet_59n, E_X5_sheet_60, E_X5_sheet_63, E_X5_sheet_64, E_X5_sheet_65, E_X5_sheet_68, E_X5_sheet_69, E_X5_sheet_69n, E_X5_sheet_70, E_X5_sheet_73, E_X5_sheet_74, zwith_some, zwith_none, zif_true, zaft_inl, Option.toList_some, Option.toList_none, List.cons_append, List.nil_append, zc1_int, zc1_ref, zc1_null, zc1_float, List.length_nil, List.length_cons, Nat.reduceAdd, Nat.reduceLeDiff, Nat.zero_add, z1and, z0and, zl00, zl01, zl02, zl03, ze00, ze10, ze20, ze30, if_true, if_false, cis_kx S1.ok (S1.ex.lv _ I.kx)]
        refine C_try S1.ok (CI.vi I1 (by decide)) L1 ?_
        intro st2 G2 V2 S2 I2 L2 hC _
        simp only [E_X5_sheet_0, E_X5_sheet_1, E_X5_sheet_4, E_X5_sheet_7, E_X5_sheet_8, E_X5_sheet_11, E_X5_sheet_14, E_X5_sheet_24, E_X5_sheet_24n, E_X5_sheet_25, E_X5_sheet_28, E_X5_sheet_31, E_X5_sheet_33, E_X5_sheet_36, E_X5_sheet_36n, E_X5_sheet_37, E_X5_sheet_40, E_X5_sheet_43, E_X5_sheet_46, E_X5_sheet_49, E_X5_sheet_59, E_X5_sheet_59n, E_X5_sheet_60, E_X5_sheet_63, E_X5_sheet_64, E_X5_sheet_65, E_X5_sheet_68, E_X5_sheet_69, E_X5_sheet_69n, E_X5_sheet_70, E_X5_sheet_73, E_X5_sheet_74, zwith_some, zwith_none, zif_true, zaft_inl, Option.toList_some, Option.toList_none, List.cons_append, List.nil_append, zc1_int, zc1_ref, zc1_null, zc1_float, List.length_nil, List.length_cons, Nat.reduceAdd, Nat.reduceLeDiff, Nat.zero_add, z1and, z0and, zl00, zl01, zl02, zl03, ze00, ze10, ze20, ze30, if_true, if_false]
        have hans : (sheF R x y).2.1 15 - 1 = V.i 14 1 := by
          unfold sheF
          rw [trF_2 IRM (by decide)]
          show R.2.1 15 + 1 - 1 = _
          rw [e15, hs15.1, nI_1, nI_p1]
        have hK := K rfl st2 G2 V2 ⟨S1.ex.trans S2.ex, by
          have a1 := S1.pt
          have a2 := S2.pt
          rw [pot_vI (by decide)] at a2
          omega⟩ I2 L2 (hC.trans (congrArg tN (hi 1 2 (by decide) (by omega))))
        rw [hans] at hK
        exact hK
    · rw [if_pos (fun w => c2 w.2)] at K0
      simp only [E_X5_sheet_0, E_X5_sheet_1, E_X5_sheet_4, E_X5_sheet_7, E_X5_sheet_8, E_X5_sheet_11, E_X5_sheet_14, E_X5_sheet_24, E_X5_sheet_24n, E_X5_sheet_25, E_X5_sheet_28, E_X5_sheet_31, E_X5_sheet_33, E_X5_sheet_36, E_X5_sheet_36n, E_X5_sheet_37, E_X5_sheet_40, E_X5_sheet_43, E_X5_sheet_46, E_X5_sheet_49, E_X5_sheet_59, E_X5_sheet_59n, E_X5_sheet_60, E_X5_sheet_63, E_X5_sheet_64, E_X5_sheet_65, E_X5_sheet_68, E_X5_sheet_69, E_X5_sheet_69n, E_X5_sheet_70, E_X5_sheet_73, E_X5_sheet_74, zwith_some, zwith_none, zif_true, zaft_inl, Option.toList_some, Option.toList_none, List.cons_append, List.nil_append, zc1_int, zc1_ref, zc1_null, zc1_float, List.length_nil, List.length_cons, Nat.reduceAdd, Nat.reduceLeDiff, Nat.zero_add, z1and, z0and, zl00, zl01, zl02, zl03, ze00, ze10, ze20, ze30, if_true, if_false, C_isSide, c1, and_self, if_neg c2, z5]
      exact K0 (by decide)
  · rw [if_pos (fun w => c1 w.1)] at K0
    simp only [E_X5_sheet_0, E_X5_sheet_1, E_X5_sheet_4, E_X5_sheet_7, E_X5_sheet_8, E_X5_sheet_11, E_X5_sheet_14, E_X5_sheet_24, E_X5_sheet_24n, E_X5_sheet_25, E_X5_sheet_28, E_X5_sheet_31, E_X5_sheet_33, E_X5_sheet_36, E_X5_sheet_36n, E_X5_sheet_37, E_X5_sheet_40, E_X5_sheet_43, E_X5_sheet_46, E_X5_sheet_49, E_X5_sheet_59, E_X5_sheet_59n, E_X5_sheet_60, E_X5_sheet_63, E_X5_sheet_64, E_X5_sheet_65, E_X5_sheet_68, E_X5_sheet_69, E_X5_sheet_69n, E_X5_sheet_70, E_X5_sheet_73, E_X5_sheet_74, zwith_some, zwith_none, zif_true, zaft_inl, Option.toList_some, Option.toList_none, List.cons_append, List.nil_append, zc1_int, zc1_ref, zc1_null, zc1_float, List.length_nil, List.length_cons, Nat.reduceAdd, Nat.reduceLeDiff, Nat.zero_add, z1and, z0and, zl00, zl01, zl02, zl03, ze00, ze10, ze20, ze30, if_true, if_false, C_isSide, if_neg c1, z5]
    exact K0 (by decide)
end SE
