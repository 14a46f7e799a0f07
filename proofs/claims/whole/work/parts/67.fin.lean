/-! stroke, finish -/
section SF
variable {X : ZX} {d : Nat} {st st0 S : ZS} {G G0 : CG} {V V' V0 : CV} {P : ZO → ZS → Prop} {x y z : Int32} {n m p q r j k a i : Nat} {R R0 R' : MR} {f g : Nat → Nat}
/-- one drawing alone has changed -/
theorem REL_d (L : REL V R) (hV : ∀ c k, ¬ (c = 7 ∧ k = 2 * i) → ¬ ((c = 2 ∨ c = 3) ∧ k = i) → V'.i c k = V.i c k) (hr : V'.r = V.r) (he : V'.e = V.e) (hc : V'.c = V.c) (hu : V'.u = V.u) (hs : ∀ k, k ≠ 2 * i → V'.s k = V.s k) (hR : ∀ k, 5 < k → R'.1 k = R.1 k) (hR2 : ∀ k, k ≠ 25 → R'.2.1 k = R.2.1 k) (hR3 : R'.2.2 = R.2.2) (hRd : ∀ q, q ≠ i → (R'.1 0 q = R.1 0 q ∧ R'.1 1 q = R.1 1 q ∧ R'.1 2 q = R.1 2 q) ∧ ∀ k, k < 24 → R'.1 3 (24 * q + k) = R.1 3 (24 * q + k) ∧ R'.1 4 (24 * q + k) = R.1 4 (24 * q + k)) (hD : DR V' R' i) (hI : IR R') : REL V' R' := by
  have q0 : nD V' = nD V := congrArg tN (hV 1 0 (by omega) (by omega))
  have q1 : nJ V' = nJ V := congrArg tN (hV 1 1 (by omega) (by omega))
  have eP : nP R' = nP R := congrArg Int32.toNatClampNeg (hR2 14 (by decide))
  refine ⟨⟨?_, ?_⟩, ⟨?_, ?_, ?_, ?_⟩, ?_, ?_, ?_, hI, ?_, ?_, ?_⟩
  · rw [q0, hR2 5 (by decide)]; exact L.nn.1
  · rw [q1, hR2 21 (by decide)]; exact L.nn.2
  · rw [hV 14 1 (by omega) (by omega), hR2 15 (by decide)]; exact L.nu.1
  · rw [hV 14 2 (by omega) (by omega), hR2 23 (by decide)]; exact L.nu.2.1
  · rw [hu, hR3]; exact L.nu.2.2.1
  · rw [hu]; exact L.nu.2.2.2
  · intro q hq
    rw [q0] at hq
    by_cases e : q = i
    · rw [e]; exact hD
    · obtain ⟨⟨r0, r1, r2⟩, r3⟩ := hRd q e
      obtain ⟨d1, d2, d3⟩ := L.dr q hq
      have h24 := d3.2.1
      refine ⟨(hV 2 q (by omega) (by omega)).trans (d1.trans r0.symm), (hV 3 q (by omega) (by omega)).trans (d2.trans r2.symm), ?_, ?_, ?_⟩
      · rw [hV 7 (2 * q) (by omega) (by omega), r1]; exact d3.1
      · rw [r1]; exact h24
      · rw [r1]
        intro k hk
        dsimp only
        rw [hs (2 * q) (by omega), (r3 k (by omega)).1, (r3 k (by omega)).2]
        exact d3.2.2 k hk
  · intro j hj
    rw [q1] at hj
    obtain ⟨a1, a2, a3, a4, a5⟩ := L.jr j hj
    have e17 : ∀ b, jf R' j b = jf R j b := fun b => by unfold jf; rw [hR 17 (by decide)]
    refine ⟨?_, ?_, ?_, ?_, ?_⟩
    · rw [hV 4 j (by omega) (by omega), hR 14 (by decide)]; exact a1
    · rw [hV 5 j (by omega) (by omega), hR 15 (by decide)]; exact a2
    · rw [hr, hR 13 (by decide)]; exact a3
    · rw [hR 15 (by decide), hR 16 (by decide), hR 14 (by decide), hV 6 j (by omega) (by omega), hV 1 (j + 4) (by omega) (by omega), he]
      intro z
      obtain ⟨b1, b2, b3⟩ := a4 z
      exact ⟨b1, b2, fun b hb => by rw [e17]; exact b3 b hb⟩
    · rw [hR 15 (by decide), hV 6 j (by omega) (by omega), hV 1 (j + 4) (by omega) (by omega)]; exact a5
  · rw [eP]
    exact PT_R (R := R) ⟨PI_o L.pt.1 (fun c q a b => hV c q (by omega) (by omega)) (hV 14 0 (by omega) (by omega)) (hV 1 3 (by omega) (by omega)) hr, L.pt.2⟩ (fun k a b => hR k (by omega))
  · have hp : ∀ j, plc R' j → plc R j := fun j z => by
      obtain ⟨z1, z2⟩ := z
      rw [hR2 21 (by decide)] at z1
      rw [hR 15 (by decide)] at z2
      exact ⟨z1, z2⟩
    have e17 : ∀ j b, jf R' j b = jf R j b := fun j b => by unfold jf; rw [hR 17 (by decide)]
    refine ⟨fun j b hj hb => ?_, fun j b j' b' hj hj' hb hb' he' => ?_⟩
    · rw [hR 14 (by decide)] at hb
      rw [e17, hR 11 (by decide), eP]
      exact L.jt.1 j b (hp j hj) hb
    · rw [hR 14 (by decide)] at hb hb'
      rw [e17, e17] at he'
      exact L.jt.2 j b j' b' (hp j hj) (hp j' hj') hb hb' he'
  · intro p hp
    rw [eP] at hp
    rw [hR 6 (by decide)]
    exact L.sh p hp
  · refine CT_o L.ct (fun m hm => ?_) (by rw [he]) hu (hV 1 2 (by omega) (by omega)) (fun b j e => ⟨hV 4 j (by omega) (by omega), hV 7 (2 * j + 1) (by omega) (by omega), hs _ (by omega)⟩) (fun b j e => hV 5 j (by omega) (by omega))
    rw [q1] at hm
    rw [hc]
    exact L.ct.1 m hm
theorem C_isPoint : AC X (d + 1) 66 [.int x] st P = P (.inl (some (.int (if 0 ≤ x ∧ x ≤ 1023 then 1 else 0)))) st := by
  rw [A_X5_isPoint]
  by_cases c1 : x < 0
  · rw [if_neg (fun z => Int32.not_lt.mpr z.1 c1)]
    simp only [E_X5_isPoint_0, E_X5_isPoint_1, E_X5_isPoint_4, E_X5_isPoint_5, E_X5_isPoint_8, E_X5_isPoint_11, E_X5_isPoint_12, E_X5_isPoint_15, E_X5_isPoint_16, zwith_some, zwith_none, zif_true, zaft_inl, Option.toList_some, Option.toList_none, List.cons_append, List.nil_append, zc1_int, zc1_ref, zc1_null, zc1_float, List.length_nil, List.length_cons, Nat.reduceAdd, Nat.reduceLeDiff, Nat.zero_add, z1and, z0and, zl00, zl01, zl02, zl03, ze00, ze10, ze20, ze30, if_true, if_false, c1]
  · by_cases c2 : 1024 ≤ x
    · rw [if_neg (fun z => by
        have := Int32.le_trans c2 z.2
        exact absurd this (by decide))]
      simp only [E_X5_isPoint_0, E_X5_isPoint_1, E_X5_isPoint_4, E_X5_isPoint_5, E_X5_isPoint_8, E_X5_isPoint_11, E_X5_isPoint_12, E_X5_isPoint_15, E_X5_isPoint_16, zwith_some, zwith_none, zif_true, zaft_inl, Option.toList_some, Option.toList_none, List.cons_append, List.nil_append, zc1_int, zc1_ref, zc1_null, zc1_float, List.length_nil, List.length_cons, Nat.reduceAdd, Nat.reduceLeDiff, Nat.zero_add, z1and, z0and, zl00, zl01, zl02, zl03, ze00, ze10, ze20, ze30, if_true, if_false, c1, c2]
    · rw [if_pos ⟨Int32.not_lt.mp c1, by
        rcases Int32.lt_or_le 1023 x with w | w
        · exfalso
          have h1 := Int32.lt_iff_toInt_lt.mp w
          have h2 := Int32.lt_iff_toInt_lt.mp (Int32.not_le.mp c2)
          have e1 : (1023 : Int32).toInt = 1023 := by decide
          have e2 : (1024 : Int32).toInt = 1024 := by decide
          omega
        · exact w⟩]
      simp only [E_X5_isPoint_0, E_X5_isPoint_1, E_X5_isPoint_4, E_X5_isPoint_5, E_X5_isPoint_8, E_X5_isPoint_11, E_X5_isPoint_12, E_X5_isPoint_15, E_X5_isPoint_16, zwith_some, zwith_none, zif_true, zaft_inl, Option.toList_some, Option.toList_none, List.cons_append, List.nil_append, zc1_int, zc1_ref, zc1_null, zc1_float, List.length_nil, List.length_cons, Nat.reduceAdd, Nat.reduceLeDiff, Nat.zero_add, z1and, z0and, zl00, zl01, zl02, zl03, ze00, ze10, ze20, ze30, if_true, if_false, c1, c2]
def strR (R : MR) (i : Nat) (y z : Int32) : MR := mA (mA (mA (mF R 25 0) 3 (upd (R.1 3) (24 * i + tN (R.1 1 i)) y)) 4 (upd (R.1 4) (24 * i + tN (R.1 1 i)) z)) 1 (upd (R.1 1) i (nI (tN (R.1 1 i) + 1)))
theorem strR_d (I : IR R) (hn : tN (R.1 1 i) < 24) : ∀ q, q ≠ i → ((strR R i y z).1 0 q = R.1 0 q ∧ (strR R i y z).1 1 q = R.1 1 q ∧ (strR R i y z).1 2 q = R.1 2 q) ∧ ∀ k, k < 24 → (strR R i y z).1 3 (24 * q + k) = R.1 3 (24 * q + k) ∧ (strR R i y z).1 4 (24 * q + k) = R.1 4 (24 * q + k) := fun q hq => ⟨⟨rfl, pk_un hq, rfl⟩, fun k hk => ⟨pk_un (f := R.1 3) (by omega), pk_un (f := R.1 4) (by omega)⟩⟩
theorem IR_str (I : IR R) (hi : i < tN (R.2.1 5)) (hn : tN (R.1 1 i) < 24) {a b : Nat} (ha : a < 1024) (hb : b < 1024) (hab : a ≠ b) : IR (strR R i (nI a) (nI b)) := by
  have h12 := I.d5.2
  have hd := fun q hq => strR_d (y := nI a) (z := nI b) I hn q hq
  have e1 : (strR R i (nI a) (nI b)).1 1 i = nI (tN (R.1 1 i) + 1) := pk_us
  refine ⟨I.d5, I.p14, I.s15, I.j21, ?_, ?_, I.df, ?_, I.fr, I.jd, I.jn, I.jk, I.jz, I.jp⟩
  · intro q hq
    by_cases e : q = i
    · rw [e, e1, tN_nI (by omega)]
      exact ⟨rfl, by omega⟩
    · rw [(hd q e).1.2.1]
      exact I.dn q hq
  · intro q hq hq2
    have e : q ≠ i := by
      have hq2 : tN (R.2.1 5) ≤ q := hq2
      omega
    rw [(hd q e).1.1, (hd q e).1.2.1, (hd q e).1.2.2]
    exact I.dz q hq hq2
  · intro q hq k hk
    by_cases e : q = i
    · subst e
      rw [e1, tN_nI (by omega)] at hk
      dsimp only
      have e3 : (strR R q (nI a) (nI b)).1 3 (24 * q + k) = if k = tN (R.1 1 q) then nI a else R.1 3 (24 * q + k) := by
        show upd (R.1 3) (24 * q + tN (R.1 1 q)) (nI a) (24 * q + k) = _
        by_cases e : k = tN (R.1 1 q)
        · rw [if_pos e, ← e, pk_us]
        · rw [if_neg e, pk_un (by omega)]
      have e4 : (strR R q (nI a) (nI b)).1 4 (24 * q + k) = if k = tN (R.1 1 q) then nI b else R.1 4 (24 * q + k) := by
        show upd (R.1 4) (24 * q + tN (R.1 1 q)) (nI b) (24 * q + k) = _
        by_cases e : k = tN (R.1 1 q)
        · rw [if_pos e, ← e, pk_us]
        · rw [if_neg e, pk_un (by omega)]
      rw [e3, e4]
      by_cases e : k = tN (R.1 1 q)
      · rw [if_pos e, if_pos e, tN_nI (by omega), tN_nI (by omega)]
        exact ⟨⟨ha, hb, hab⟩, rfl, rfl⟩
      · rw [if_neg e, if_neg e]
        exact I.pt q hq k (by omega)
    · have hn := (I.dn q hq).2
      rw [(hd q e).1.2.1] at hk
      dsimp only
      rw [((hd q e).2 k (by omega)).1, ((hd q e).2 k (by omega)).2]
      exact I.pt q hq k hk
theorem C_stroke (h : cok st G) (I : CI G V) (L : REL V R) (K0 : sw R x y z ≠ 0 → P (.inr (if sw R x y z = 1 then sI else if sw R x y z = 2 then sA else sS)) (cw (st.1 + 7, st.2) G V)) (K : sw R x y z = 0 → ∀ V', pot V' = pot V → CI G V' → REL V' (strR R (tN x) y z) → nC V' = nC V → P (.inl (some (.int (nI (tN (R.1 1 (tN x)) + 1))))) (cw st G V')) : AC X (d + 8) 49 [.ref (G.A .kx), .int x, .int y, .int z] (cw st G V) P := by
  have h12 := I.ld.2.1
  have z5 : (5 ≤ d + 7) = True := eq_true (by omega)
  have n5 := L.n5
  rw [A_X5_stroke]
  by_cases c : 0 ≤ x ∧ x ≤ nI (nD V) - 1
  · have c' := c
    obtain ⟨i, hi, rfl⟩ := nI_of_rng (by omega) c.1 c.2
    have ei : tN (nI i) = i := tN_nI (by omega)
    have hid : ∀ {P : ZO → ZS → Prop}, AC X (d + 7) 64 [.ref (G.A .kx), .int (nI i)] (cw st G V) P = P (.inl (some (.ref (G.A (.dr i))))) (cw st G V) := fun {P} => by rw [C_dAt (d := d + 1) h I, if_pos c, ei]
    obtain ⟨d2, d3, dou⟩ := L.dr i hi
    have hdn := L.ir.dn i (by omega)
    have hdf := L.ir.df i (by omega)
    have hld := I.dr hi
    by_cases cy : 0 ≤ y ∧ y ≤ 1023
    · by_cases cz : 0 ≤ z ∧ z ≤ 1023
      · have hsw : sw R (nI i) y z = if y = z then 2 else if R.1 0 i = 1 ∨ R.1 1 i = 24 then 3 else 0 := by
          unfold sw
          rw [if_neg (fun w => w ⟨by rw [n5]; exact c, cy, cz⟩)]
          rw [show (nI i).toNatClampNeg = i from ei]
        by_cases cyz : y = z
        · rw [if_pos cyz] at hsw
          rw [hsw] at K0
          simp only [E_X5_stroke_0, E_X5_stroke_0n, E_X5_stroke_1, E_X5_stroke_2, E_X5_stroke_5, E_X5_stroke_5n, E_X5_stroke_7, E_X5_stroke_8, E_X5_stroke_11, E_X5_stroke_14, E_X5_stroke_15, E_X5_stroke_18, E_X5_stroke_21, E_X5_stroke_31, E_X5_stroke_32, E_X5_stroke_33, E_X5_stroke_36, E_X5_stroke_46, E_X5_stroke_46n, E_X5_stroke_48, E_X5_stroke_51, E_X5_stroke_54, E_X5_stroke_54n, E_X5_stroke_56, E_X5_stroke_59, E_X5_stroke_62, E_X5_stroke_64, E_X5_stroke_67, E_X5_stroke_77, E_X5_stroke_77n, E_X5_stroke_79, E_X5_stroke_82, E_X5_stroke_83, E_X5_stroke_84, E_X5_stroke_87, E_X5_stroke_87n, E_X5_stroke_89, E_X5_stroke_92, E_X5_stroke_95, zwith_some, zwith_none, zif_true, zaft_inl, Option.toList_some, Option.toList_none, List.cons_append, List.nil_append, zc1_int, zc1_ref, zc1_null, zc1_float, List.length_nil, List.length_cons, Nat.reduceAdd, Nat.reduceLeDiff, Nat.zero_add, z1and, z0and, zl00, zl01, zl02, zl03, ze00, ze10, ze20, ze30, if_true, if_false, cis_kx h I.kx, hid, C_isPoint, cy, cz, and_self, cyz, not_true, z5, if_false, if_true]
          exact K0 (by decide)
        · rw [if_neg cyz] at hsw
          by_cases cs : R.1 0 i = 1
          · rw [if_pos (.inl cs)] at hsw
            rw [hsw] at K0
            have hs1 : V.i 2 i = 1 := d2.trans cs
            simp only [E_X5_stroke_0, E_X5_stroke_0n, E_X5_stroke_1, E_X5_stroke_2, E_X5_stroke_5, E_X5_stroke_5n, E_X5_stroke_7, E_X5_stroke_8, E_X5_stroke_11, E_X5_stroke_14, E_X5_stroke_15, E_X5_stroke_18, E_X5_stroke_21, E_X5_stroke_31, E_X5_stroke_32, E_X5_stroke_33, E_X5_stroke_36, E_X5_stroke_46, E_X5_stroke_46n, E_X5_stroke_48, E_X5_stroke_51, E_X5_stroke_54, E_X5_stroke_54n, E_X5_stroke_56, E_X5_stroke_59, E_X5_stroke_62, E_X5_stroke_64, E_X5_stroke_67, E_X5_stroke_77, E_X5_stroke_77n, E_X5_stroke_79, E_X5_stroke_82, E_X5_stroke_83, E_X5_stroke_84, E_X5_stroke_87, E_X5_stroke_87n, E_X5_stroke_89, E_X5_stroke_92, E_X5_stroke_95, zwith_some, zwith_none, zif_true, zaft_inl, Option.toList_some, Option.toList_none, List.cons_append, List.nil_append, zc1_int, zc1_ref, zc1_null, zc1_float, List.length_nil, List.length_cons, Nat.reduceAdd, Nat.reduceLeDiff, Nat.zero_add, z1and, z0and, zl00, zl01, zl02, zl03, ze00, ze10, ze20, ze30, if_true, if_false, cis_kx h I.kx, hid, C_isPoint, cy, cz, and_self, cyz, not_false_iff, cg_dr h hld, hs1, z5, if_true]
            exact K0 (by decide)
          · have hs0 : V.i 2 i = 0 := d2.trans (hdf.resolve_right cs)
            by_cases c24 : R.1 1 i = 24
            · rw [if_pos (.inr c24)] at hsw
              rw [hsw] at K0
              have hs7 : V.i 7 (2 * i) = 24 := dou.1.trans (hdn.1.symm.trans c24)
              simp only [E_X5_stroke_0, E_X5_stroke_0n, E_X5_stroke_1, E_X5_stroke_2, E_X5_stroke_5, E_X5_stroke_5n, E_X5_stroke_7, E_X5_stroke_8, E_X5_stroke_11, E_X5_stroke_14, E_X5_stroke_15, E_X5_stroke_18, E_X5_stroke_21, E_X5_stroke_31, E_X5_stroke_32, E_X5_stroke_33, E_X5_stroke_36, E_X5_stroke_46, E_X5_stroke_46n, E_X5_stroke_48, E_X5_stroke_51, E_X5_stroke_54, E_X5_stroke_54n, E_X5_stroke_56, E_X5_stroke_59, E_X5_stroke_62, E_X5_stroke_64, E_X5_stroke_67, E_X5_stroke_77, E_X5_stroke_77n, E_X5_stroke_79, E_X5_stroke_82, E_X5_stroke_83, E_X5_stroke_84, E_X5_stroke_87, E_X5_stroke_87n, E_X5_stroke_89, E_X5_stroke_92, E_X5_stroke_95, zwith_some, zwith_none, zif_true, zaft_inl, Option.toList_some, Option.toList_none, List.cons_append, List.nil_append, zc1_int, zc1_ref, zc1_null, zc1_float, List.length_nil, List.length_cons, Nat.reduceAdd, Nat.reduceLeDiff, Nat.zero_add, z1and, z0and, zl00, zl01, zl02, zl03, ze00, ze10, ze20, ze30, if_true, if_false, cis_kx h I.kx, hid, C_isPoint, cy, cz, and_self, cyz, not_false_iff, cg_dr h hld, hs0, cg_ou h (I.ou0 hi), hs7, z5, show ¬ (24 : Int32) < 24 from by decide, not_true, if_false, if_true]
              exact K0 (by decide)
            · have hm24 : tN (R.1 1 i) < 24 := by
                rcases Nat.lt_or_ge (tN (R.1 1 i)) 24 with w | w
                · exact w
                · exact absurd (by rw [hdn.1, show tN (R.1 1 i) = 24 by omega]; rfl) c24
              rw [if_neg (fun w => w.elim cs c24)] at hsw
              obtain ⟨a, ha, rfl⟩ := nI_of2 (x := y) (M := 1023) (n := 1023) (by decide) (Int32.not_lt.mpr cy.1) cy.2
              obtain ⟨b, hb, rfl⟩ := nI_of2 (x := z) (M := 1023) (n := 1023) (by decide) (Int32.not_lt.mpr cz.1) cz.2
              have hab : a ≠ b := fun w => cyz (by rw [w])
              have h7 : V.i 7 (2 * i) = nI (tN (R.1 1 i)) := dou.1
              have hlt : nI (tN (R.1 1 i)) < 24 := nI_lt (b := 24) hm24 (by decide)
              have hadd := fun {d} {P} => C_oadd (X := X) (d := d) (P := P) (a := a) (b := b) h (I.ou0 hi) (I.sk0 hi) h7 hm24
              have hK := K hsw (vO V (2 * i) (tN (R.1 1 i) + 1) (upd (V.s (2 * i)) (tN (R.1 1 i)) (nI (1024 * a + b))))
              rw [ei] at hK
              simp only [E_X5_stroke_0, E_X5_stroke_0n, E_X5_stroke_1, E_X5_stroke_2, E_X5_stroke_5, E_X5_stroke_5n, E_X5_stroke_7, E_X5_stroke_8, E_X5_stroke_11, E_X5_stroke_14, E_X5_stroke_15, E_X5_stroke_18, E_X5_stroke_21, E_X5_stroke_31, E_X5_stroke_32, E_X5_stroke_33, E_X5_stroke_36, E_X5_stroke_46, E_X5_stroke_46n, E_X5_stroke_48, E_X5_stroke_51, E_X5_stroke_54, E_X5_stroke_54n, E_X5_stroke_56, E_X5_stroke_59, E_X5_stroke_62, E_X5_stroke_64, E_X5_stroke_67, E_X5_stroke_77, E_X5_stroke_77n, E_X5_stroke_79, E_X5_stroke_82, E_X5_stroke_83, E_X5_stroke_84, E_X5_stroke_87, E_X5_stroke_87n, E_X5_stroke_89, E_X5_stroke_92, E_X5_stroke_95, zwith_some, zwith_none, zif_true, zaft_inl, Option.toList_some, Option.toList_none, List.cons_append, List.nil_append, zc1_int, zc1_ref, zc1_null, zc1_float, List.length_nil, List.length_cons, Nat.reduceAdd, Nat.reduceLeDiff, Nat.zero_add, z1and, z0and, zl00, zl01, zl02, zl03, ze00, ze10, ze20, ze30, if_true, if_false, cis_kx h I.kx, hid, C_isPoint, cy, cz, and_self, cyz, not_false_iff, cg_dr h hld, hs0, cg_ou h (I.ou0 hi), h7, hlt, cis_ou h (I.ou0 hi), hadd, vO_7, if_true, not_true, if_false]
              refine hK ?_ ?_ ?_ ?_
              · show 4 * sm V.c 34 + (12 * tN ((vO V _ _ _).i 1 3) + (33 * tN ((vO V _ _ _).i 1 0) + 39 * tN ((vO V _ _ _).i 1 1))) = 4 * sm V.c 34 + (12 * tN (V.i 1 3) + (33 * tN (V.i 1 0) + 39 * tN (V.i 1 1)))
                rw [vO_i (by omega), vO_i (by omega), vO_i (by omega)]
              · exact I.o (fun n => vO_i (by omega)) rfl rfl (fun _ _ => rfl) I.pr I.pw
              · have hnd : i < tN (R.2.1 5) := by rw [← L.nn.1]; exact hi
                refine REL_d (i := i) L (fun c k a b => vO_i a) rfl rfl rfl rfl (fun k hk => vO_so hk) (fun k hk => ?_) (fun k hk => ?_) rfl (strR_d L.ir hm24) ?_ (IR_str L.ir hnd hm24 (by omega) (by omega) hab)
                · show (mA (mA (mA (mF R 25 0) 3 _) 4 _) 1 _).1 k = _
                  rw [mA1, if_neg (by omega), mA1, if_neg (by omega), mA1, if_neg (by omega), mF1]
                · show (mF R 25 0).2.1 k = _
                  rw [mF2, if_neg hk]
                · have e1 : (strR R i (nI a) (nI b)).1 1 i = nI (tN (R.1 1 i) + 1) := pk_us
                  refine ⟨(vO_i (by omega)).trans d2, (vO_i (by omega)).trans d3, ?_, ?_, ?_⟩
                  · rw [vO_7, e1, tN_nI (by omega)]
                  · rw [e1, tN_nI (by omega)]; omega
                  · rw [e1, tN_nI (by omega), vO_s]
                    intro k hk
                    have e3 : (strR R i (nI a) (nI b)).1 3 (24 * i + k) = if k = tN (R.1 1 i) then nI a else R.1 3 (24 * i + k) := by
                      show upd (R.1 3) (24 * i + tN (R.1 1 i)) (nI a) (24 * i + k) = _
                      by_cases e : k = tN (R.1 1 i)
                      · rw [if_pos e, ← e, pk_us]
                      · rw [if_neg e, pk_un (by omega)]
                    have e4 : (strR R i (nI a) (nI b)).1 4 (24 * i + k) = if k = tN (R.1 1 i) then nI b else R.1 4 (24 * i + k) := by
                      show upd (R.1 4) (24 * i + tN (R.1 1 i)) (nI b) (24 * i + k) = _
                      by_cases e : k = tN (R.1 1 i)
                      · rw [if_pos e, ← e, pk_us]
                      · rw [if_neg e, pk_un (by omega)]
                    dsimp only
                    rw [e3, e4]
                    by_cases e : k = tN (R.1 1 i)
                    · rw [if_pos e, if_pos e, ← e, pk_us, tN_nI (by omega), tN_nI (by omega)]
                      exact ⟨rfl, by omega, by omega⟩
                    · rw [if_neg e, if_neg e, pk_un e]
                      exact dou.2.2 k (by omega)
              · exact congrArg tN (vO_i (by omega))
      · have hsw : sw R (nI i) y z = 1 := by
          unfold sw
          rw [if_pos (fun w => cz w.2.2)]
        rw [hsw] at K0
        simp only [E_X5_stroke_0, E_X5_stroke_0n, E_X5_stroke_1, E_X5_stroke_2, E_X5_stroke_5, E_X5_stroke_5n, E_X5_stroke_7, E_X5_stroke_8, E_X5_stroke_11, E_X5_stroke_14, E_X5_stroke_15, E_X5_stroke_18, E_X5_stroke_21, E_X5_stroke_31, E_X5_stroke_32, E_X5_stroke_33, E_X5_stroke_36, E_X5_stroke_46, E_X5_stroke_46n, E_X5_stroke_48, E_X5_stroke_51, E_X5_stroke_54, E_X5_stroke_54n, E_X5_stroke_56, E_X5_stroke_59, E_X5_stroke_62, E_X5_stroke_64, E_X5_stroke_67, E_X5_stroke_77, E_X5_stroke_77n, E_X5_stroke_79, E_X5_stroke_82, E_X5_stroke_83, E_X5_stroke_84, E_X5_stroke_87, E_X5_stroke_87n, E_X5_stroke_89, E_X5_stroke_92, E_X5_stroke_95, zwith_some, zwith_none, zif_true, zaft_inl, Option.toList_some, Option.toList_none, List.cons_append, List.nil_append, zc1_int, zc1_ref, zc1_null, zc1_float, List.length_nil, List.length_cons, Nat.reduceAdd, Nat.reduceLeDiff, Nat.zero_add, z1and, z0and, zl00, zl01, zl02, zl03, ze00, ze10, ze20, ze30, if_true, if_false, cis_kx h I.kx, hid, C_isPoint, cy, and_self, if_true, if_neg cz, z5]
        exact K0 (by decide)
    · have hsw : sw R (nI i) y z = 1 := by
        unfold sw
        rw [if_pos (fun w => cy w.2.1)]
      rw [hsw] at K0
      simp only [E_X5_stroke_0, E_X5_stroke_0n, E_X5_stroke_1, E_X5_stroke_2, E_X5_stroke_5, E_X5_stroke_5n, E_X5_stroke_7, E_X5_stroke_8, E_X5_stroke_11, E_X5_stroke_14, E_X5_stroke_15, E_X5_stroke_18, E_X5_stroke_21, E_X5_stroke_31, E_X5_stroke_32, E_X5_stroke_33, E_X5_stroke_36, E_X5_stroke_46, E_X5_stroke_46n, E_X5_stroke_48, E_X5_stroke_51, E_X5_stroke_54, E_X5_stroke_54n, E_X5_stroke_56, E_X5_stroke_59, E_X5_stroke_62, E_X5_stroke_64, E_X5_stroke_67, E_X5_stroke_77, E_X5_stroke_77n, E_X5_stroke_79, E_X5_stroke_82, E_X5_stroke_83, E_X5_stroke_84, E_X5_stroke_87, E_X5_stroke_87n, E_X5_stroke_89, E_X5_stroke_92, E_X5_stroke_95, zwith_some, zwith_none, zif_true, zaft_inl, Option.toList_some, Option.toList_none, List.cons_append, List.nil_append, zc1_int, zc1_ref, zc1_null, zc1_float, List.length_nil, List.length_cons, Nat.reduceAdd, Nat.reduceLeDiff, Nat.zero_add, z1and, z0and, zl00, zl01, zl02, zl03, ze00, ze10, ze20, ze30, if_true, if_false, cis_kx h I.kx, hid, C_isPoint, if_neg cy, z5]
      exact K0 (by decide)
  · have hsw : sw R x y z = 1 := by
      unfold sw
      rw [n5, if_pos (fun w => c w.1)]
    rw [hsw] at K0
    simp only [E_X5_stroke_0, E_X5_stroke_0n, E_X5_stroke_1, E_X5_stroke_2, E_X5_stroke_5, E_X5_stroke_5n, E_X5_stroke_7, E_X5_stroke_8, E_X5_stroke_11, E_X5_stroke_14, E_X5_stroke_15, E_X5_stroke_18, E_X5_stroke_21, E_X5_stroke_31, E_X5_stroke_32, E_X5_stroke_33, E_X5_stroke_36, E_X5_stroke_46, E_X5_stroke_46n, E_X5_stroke_48, E_X5_stroke_51, E_X5_stroke_54, E_X5_stroke_54n, E_X5_stroke_56, E_X5_stroke_59, E_X5_stroke_62, E_X5_stroke_64, E_X5_stroke_67, E_X5_stroke_77, E_X5_stroke_77n, E_X5_stroke_79, E_X5_stroke_82, E_X5_stroke_83, E_X5_stroke_84, E_X5_stroke_87, E_X5_stroke_87n, E_X5_stroke_89, E_X5_stroke_92, E_X5_stroke_95, zwith_some, zwith_none, zif_true, zaft_inl, Option.toList_some, Option.toList_none, List.cons_append, List.nil_append, zc1_int, zc1_ref, zc1_null, zc1_float, List.length_nil, List.length_cons, Nat.reduceAdd, Nat.reduceLeDiff, Nat.zero_add, z1and, z0and, zl00, zl01, zl02, zl03, ze00, ze10, ze20, ze30, if_true, if_false, cis_kx h I.kx, C_dAt h I, if_neg c, zaft_inr zh_X5_stroke]
    exact K0 (by decide)
theorem finA_m1 : finA R i = -1 ∨ ¬ finA R i < 0 := by
  unfold finA fau
  split
  · rename_i p e
    have := ((flt_spec (F := hsa (finM R i) i (tN ((finM R i).1 1 i))) 1024).1 p e).2.1
    exact .inr (nI_pos (by omega))
  · split
    · exact .inr (by decide)
    · exact .inl rfl
set_option maxRecDepth 8000 in
theorem C_finish (h : cok st G) (I : CI G V) (L : REL V R) (K0 : finW R x ≠ 0 → P (.inr (if finW R x = 1 then sI else sS)) (cw (st.1 + 7, st.2) G V)) (K : finW R x = 0 → ∀ st' G' V', Sta st G V st' G' V' → CI G' V' → REL V' (finF R (tN x)) → nC V' = nC V → P (.inl (some (.int (finA R (tN x))))) (cw st' G' V')) : AC X (d + 12) 50 [.ref (G.A .kx), .int x] (cw st G V) P := by
  have h12 := I.ld.2.1
  have z5 : (5 ≤ d + 11) = True := eq_true (by omega)
  have n5 := L.n5
  rw [A_X5_finish]
  by_cases c : 0 ≤ x ∧ x ≤ nI (nD V) - 1
  · have c' := c
    obtain ⟨i, hi, rfl⟩ := nI_of_rng (by omega) c.1 c.2
    have ei : tN (nI i) = i := tN_nI (by omega)
    have hid : ∀ {P : ZO → ZS → Prop}, AC X (d + 11) 64 [.ref (G.A .kx), .int (nI i)] (cw st G V) P = P (.inl (some (.ref (G.A (.dr i))))) (cw st G V) := fun {P} => by rw [C_dAt (d := d + 5) h I, if_pos c, ei]
    obtain ⟨d2, d3, dou⟩ := L.dr i hi
    have hi12 : i < 12 := by omega
    have hdn := L.ir.dn i hi12
    have hdf := L.ir.df i hi12
    have hpt := L.ir.pt i hi12
    have hld := I.dr hi
    have hw : finW R (nI i) = if R.1 0 i = 1 then 2 else 0 := by
      unfold finW
      rw [if_neg (fun w => w (by rw [n5]; exact c)), ei]
    by_cases cs : R.1 0 i = 1
    · rw [if_pos cs] at hw
      rw [hw] at K0
      have hs1 : V.i 2 i = 1 := d2.trans cs
      simp only [E_X5_finish_0, E_X5_finish_0n, E_X5_finish_1, E_X5_finish_2, E_X5_finish_5, E_X5_finish_5n, E_X5_finish_6, E_X5_finish_6n, E_X5_finish_7, E_X5_finish_10, E_X5_finish_13, E_X5_finish_23, E_X5_finish_23n, E_X5_finish_24, E_X5_finish_27, E_X5_finish_30, E_X5_finish_30n, E_X5_finish_31, E_X5_finish_34, E_X5_finish_37, E_X5_finish_38, E_X5_finish_39, E_X5_finish_40, E_X5_finish_43, E_X5_finish_43n, E_X5_finish_44, E_X5_finish_45, E_X5_finish_48, E_X5_finish_48n, E_X5_finish_49, E_X5_finish_52, E_X5_finish_53, zwith_some, zwith_none, zif_true, zaft_inl, Option.toList_some, Option.toList_none, List.cons_append, List.nil_append, zc1_int, zc1_ref, zc1_null, zc1_float, List.length_nil, List.length_cons, Nat.reduceAdd, Nat.reduceLeDiff, Nat.zero_add, z1and, z0and, zl00, zl01, zl02, zl03, ze00, ze10, ze20, ze30, if_true, if_false, cis_kx h I.kx, hid, cg_dr h hld, hs1, show ¬ (1 : Int32) = 0 from by decide, z5, if_false]
      exact K0 (by decide)
    · rw [if_neg cs] at hw
      have K := K hw
      rw [ei] at K
      have hs0 : V.i 2 i = 0 := d2.trans (hdf.resolve_right cs)
      simp only [E_X5_finish_0, E_X5_finish_0n, E_X5_finish_1, E_X5_finish_2, E_X5_finish_5, E_X5_finish_5n, E_X5_finish_6, E_X5_finish_6n, E_X5_finish_7, E_X5_finish_10, E_X5_finish_13, E_X5_finish_23, E_X5_finish_23n, E_X5_finish_24, E_X5_finish_27, E_X5_finish_30, E_X5_finish_30n, E_X5_finish_31, E_X5_finish_34, E_X5_finish_37, E_X5_finish_38, E_X5_finish_39, E_X5_finish_40, E_X5_finish_43, E_X5_finish_43n, E_X5_finish_44, E_X5_finish_45, E_X5_finish_48, E_X5_finish_48n, E_X5_finish_49, E_X5_finish_52, E_X5_finish_53, zwith_some, zwith_none, zif_true, zaft_inl, Option.toList_some, Option.toList_none, List.cons_append, List.nil_append, zc1_int, zc1_ref, zc1_null, zc1_float, List.length_nil, List.length_cons, Nat.reduceAdd, Nat.reduceLeDiff, Nat.zero_add, z1and, z0and, zl00, zl01, zl02, zl03, ze00, ze10, ze20, ze30, if_true, if_false, cis_kx h I.kx, hid, cg_dr h hld, hs0, cis_ou h (I.ou0 hi), if_true]
      refine C_drop h (I.ou0 hi) (I.sk0 hi) dou ?_
      intro s hS
      obtain ⟨k', hk'⟩ : ∃ k', k' = (ddk (fun j => tN (R.1 3 (24 * i + j))) (fun j => tN (R.1 4 (24 * i + j))) (tN (R.1 1 i))).1 := ⟨_, rfl⟩
      obtain ⟨f', hf'⟩ : ∃ f', f' = (ddk (fun j => tN (R.1 3 (24 * i + j))) (fun j => tN (R.1 4 (24 * i + j))) (tN (R.1 1 i))).2.1 := ⟨_, rfl⟩
      obtain ⟨g', hg'⟩ : ∃ g', g' = (ddk (fun j => tN (R.1 3 (24 * i + j))) (fun j => tN (R.1 4 (24 * i + j))) (tN (R.1 1 i))).2.2 := ⟨_, rfl⟩
      have hkle : k' ≤ tN (R.1 1 i) := by rw [hk']; exact ddk_le _
      have htie := mnd_tie (i := i) (f := fun j => tN (R.1 3 (24 * i + j))) (g := fun j => tN (R.1 4 (24 * i + j))) (N := tN (R.1 1 i)) (fun k hk => ⟨(hpt k hk).1.1, (hpt k hk).1.2.1⟩) hdn.2 (tN (R.1 1 i)) 0 (mF R 25 0) (by omega) (by
        show R.1 1 i = nI (0 + tN (R.1 1 i))
        rw [Nat.zero_add]; exact hdn.1) (fun j hj => absurd hj (Nat.not_lt_zero j)) (fun j hj => by
        show R.1 3 (24 * i + (0 + j)) = nI (tN (R.1 3 (24 * i + (0 + j)))) ∧ R.1 4 (24 * i + (0 + j)) = nI (tN (R.1 4 (24 * i + (0 + j))))
        rw [Nat.zero_add]
        exact (hpt j hj).2)
      have hfm : mnd i (tN (R.1 1 i)) (ddk (fun j => tN (R.1 3 (24 * i + j))) (fun j => tN (R.1 4 (24 * i + j))) 0).1 (mF R 25 0) = finM R i := rfl
      rw [hfm, ← hk', ← hf', ← hg'] at htie
      rw [← hf', ← hg'] at hS
      rw [← hk']
      obtain ⟨t1, t2⟩ := htie
      have hk24 : k' ≤ 24 := by omega
      have tk : tN ((finM R i).1 1 i) = k' := by rw [t1]; exact tN_nI (by omega)
      have I2 : IR (finM R i) := mnd_IR hi12 _ 0 _ (IR_25 L.ir) (by rw [Nat.zero_add]; exact hdn.1) (by omega)
      have hp2 := I2.pt i hi12
      rw [tk] at hp2
      have hx := mnd_x (i := i) (tN (R.1 1 i)) 0 (mF R 25 0) (by omega)
      have hfm2 : mnd i (tN (R.1 1 i)) 0 (mF R 25 0) = finM R i := rfl
      rw [hfm2] at hx
      obtain ⟨x1, x2, x3⟩ := hx
      have hfb : ∀ j, j < k' → (finM R i).1 3 (24 * i + j) = nI (f' j) ∧ (finM R i).1 4 (24 * i + j) = nI (g' j) ∧ f' j < 1024 ∧ g' j < 1024 ∧ f' j ≠ g' j := by
        intro j hj
        obtain ⟨u1, u2⟩ := t2 j hj
        obtain ⟨s1, s2, s3⟩ := hS j (by omega)
        have := (hp2 j hj).1.2.2
        dsimp only at this
        rw [u1, u2, tN_nI (by omega), tN_nI (by omega)] at this
        exact ⟨u1, u2, s2, s3, this⟩
      have hou : oul (vO V (2 * i) k' s) (2 * i) k' f' g' := ⟨vO_7, hk24, by rw [vO_s]; exact fun j hj => hS j (by omega)⟩
      have hfw := fun {d} {P} => C_first (X := X) (d := d) (P := P) h (I.ou0 hi) (I.sk0 hi) hou
      have hfau := fau_tie (R := finM R i) (i := i) (m := k') (f := f') (g := g') hfb
      have hfA : fau (finM R i) i k' = finA R i := by
        show _ = fau (finM R i) i (tN ((finM R i).1 1 i))
        rw [tk]
      rw [hfau, hfA] at hfw
      have hld1 : G.live (.dr i) := hld
      simp only [E_X5_finish_0, E_X5_finish_0n, E_X5_finish_1, E_X5_finish_2, E_X5_finish_5, E_X5_finish_5n, E_X5_finish_6, E_X5_finish_6n, E_X5_finish_7, E_X5_finish_10, E_X5_finish_13, E_X5_finish_23, E_X5_finish_23n, E_X5_finish_24, E_X5_finish_27, E_X5_finish_30, E_X5_finish_30n, E_X5_finish_31, E_X5_finish_34, E_X5_finish_37, E_X5_finish_38, E_X5_finish_39, E_X5_finish_40, E_X5_finish_43, E_X5_finish_43n, E_X5_finish_44, E_X5_finish_45, E_X5_finish_48, E_X5_finish_48n, E_X5_finish_49, E_X5_finish_52, E_X5_finish_53, zwith_some, zwith_none, zif_true, zaft_inl, Option.toList_some, Option.toList_none, List.cons_append, List.nil_append, zc1_int, zc1_ref, zc1_null, zc1_float, List.length_nil, List.length_cons, Nat.reduceAdd, Nat.reduceLeDiff, Nat.zero_add, z1and, z0and, zl00, zl01, zl02, zl03, ze00, ze10, ze20, ze30, if_true, if_false, cg_dr h hld, cis_ou h (I.ou0 hi), hfw]
      have hRd : ∀ q, q ≠ i → (((finM R i).1 0 q = R.1 0 q ∧ (finM R i).1 1 q = R.1 1 q ∧ (finM R i).1 2 q = R.1 2 q) ∧ ∀ k, k < 24 → (finM R i).1 3 (24 * q + k) = R.1 3 (24 * q + k) ∧ (finM R i).1 4 (24 * q + k) = R.1 4 (24 * q + k)) := fun q hq => by
        refine ⟨⟨congrFun (x1 0 (by decide) (by decide) (by decide)) q, (x3 q hq).1, congrFun (x1 2 (by decide) (by decide) (by decide)) q⟩, fun k hk => (x3 q hq).2 k hk⟩
      have hoR : oul (vO V (2 * i) k' s) (2 * i) (tN ((finM R i).1 1 i)) (fun k => tN ((finM R i).1 3 (24 * i + k))) (fun k => tN ((finM R i).1 4 (24 * i + k))) := by
        rw [tk]
        refine ⟨vO_7, hk24, fun k hk => ?_⟩
        obtain ⟨u1, u2, u3, u4, _⟩ := hfb k hk
        dsimp only
        rw [u1, u2, tN_nI (by omega), tN_nI (by omega), vO_s]
        exact hS k (by omega)
      have Iv : CI G (vO V (2 * i) k' s) := I.o (fun n => vO_i (by omega)) rfl rfl (fun _ _ => rfl) I.pr I.pw
      have pv : pot (vO V (2 * i) k' s) = pot V := by
        show 4 * sm V.c 34 + (12 * tN ((vO V _ _ _).i 1 3) + (33 * tN ((vO V _ _ _).i 1 0) + 39 * tN ((vO V _ _ _).i 1 1))) = 4 * sm V.c 34 + (12 * tN (V.i 1 3) + (33 * tN (V.i 1 0) + 39 * tN (V.i 1 1)))
        rw [vO_i (by omega), vO_i (by omega), vO_i (by omega)]
      have e0 : (finM R i).1 0 i = R.1 0 i := congrFun (x1 0 (by decide) (by decide) (by decide)) i
      have e2 : (finM R i).1 2 i = R.1 2 i := congrFun (x1 2 (by decide) (by decide) (by decide)) i
      have eR2 : ∀ k, k ≠ 25 → (finM R i).2.1 k = R.2.1 k := fun k hk => by
        rw [x2]
        show (mF R 25 0).2.1 k = _
        rw [mF2, if_neg hk]
      have eR3 : (finM R i).2.2 = R.2.2 := by rw [x2]; rfl
      unfold finF at K
      rcases Classical.em (finA R i < 0) with cw1 | cw1
      · have ew : finA R i = -1 := finA_m1.resolve_right (fun w => w cw1)
        rw [if_pos cw1] at K
        rw [ew] at K ⊢
        simp only [E_X5_finish_0, E_X5_finish_0n, E_X5_finish_1, E_X5_finish_2, E_X5_finish_5, E_X5_finish_5n, E_X5_finish_6, E_X5_finish_6n, E_X5_finish_7, E_X5_finish_10, E_X5_finish_13, E_X5_finish_23, E_X5_finish_23n, E_X5_finish_24, E_X5_finish_27, E_X5_finish_30, E_X5_finish_30n, E_X5_finish_31, E_X5_finish_34, E_X5_finish_37, E_X5_finish_38, E_X5_finish_39, E_X5_finish_40, E_X5_finish_43, E_X5_finish_43n, E_X5_finish_44, E_X5_finish_45, E_X5_finish_48, E_X5_finish_48n, E_X5_finish_49, E_X5_finish_52, E_X5_finish_53, zwith_some, zwith_none, zif_true, zaft_inl, Option.toList_some, Option.toList_none, List.cons_append, List.nil_append, zc1_int, zc1_ref, zc1_null, zc1_float, List.length_nil, List.length_cons, Nat.reduceAdd, Nat.reduceLeDiff, Nat.zero_add, z1and, z0and, zl00, zl01, zl02, zl03, ze00, ze10, ze20, ze30, if_true, if_false, not_true, if_false, cg_dr h hld, cp_dr h hld, cis_kx h I.kx]
        have L2 : REL (vI (vO V (2 * i) k' s) 2 i 1) (mA (mA (finM R i) 5 (hs (finM R i) i (tN ((finM R i).1 1 i)))) 0 (upd ((finM R i).1 0) i 1)) := by
          refine REL_d (i := i) L (fun c k a b => ?_) rfl rfl rfl rfl (fun k hk => vO_so (m := k') hk) (fun k hk => ?_) eR2 eR3 (fun q hq => ?_) ?_ ?_
          · rw [vI_oo (by omega), vO_i a]
          · rw [mA1, if_neg (by omega), mA1, if_neg (by omega)]
            exact x1 k (by omega) (by omega) (by omega)
          · exact ⟨⟨(pk_un hq).trans (hRd q hq).1.1, (hRd q hq).1.2⟩, (hRd q hq).2⟩
          · refine ⟨?_, ?_, ?_⟩
            · rw [vI_ss]
              exact (pk_us (f := (finM R i).1 0)).symm
            · rw [vI_oo (by omega), vO_i (by omega)]
              exact d3.trans e2.symm
            · exact oul_o hoR (vI_oo (by omega)) rfl
          · refine IR_df (IR_c I2 (fun q hq => by rw [mA1, if_neg (by omega)]) (fun q hq => rfl)) ?_ (.inr rfl)
            show i < tN ((finM R i).2.1 5)
            rw [eR2 5 (by decide), ← L.nn.1]
            exact hi
        refine C_try h (CI.vi Iv (by decide)) L2 ?_
        intro st' G' V' S' I' L' hC _
        simp only [E_X5_finish_0, E_X5_finish_0n, E_X5_finish_1, E_X5_finish_2, E_X5_finish_5, E_X5_finish_5n, E_X5_finish_6, E_X5_finish_6n, E_X5_finish_7, E_X5_finish_10, E_X5_finish_13, E_X5_finish_23, E_X5_finish_23n, E_X5_finish_24, E_X5_finish_27, E_X5_finish_30, E_X5_finish_30n, E_X5_finish_31, E_X5_finish_34, E_X5_finish_37, E_X5_finish_38, E_X5_finish_39, E_X5_finish_40, E_X5_finish_43, E_X5_finish_43n, E_X5_finish_44, E_X5_finish_45, E_X5_finish_48, E_X5_finish_48n, E_X5_finish_49, E_X5_finish_52, E_X5_finish_53, zwith_some, zwith_none, zif_true, zaft_inl, Option.toList_some, Option.toList_none, List.cons_append, List.nil_append, zc1_int, zc1_ref, zc1_null, zc1_float, List.length_nil, List.length_cons, Nat.reduceAdd, Nat.reduceLeDiff, Nat.zero_add, z1and, z0and, zl00, zl01, zl02, zl03, ze00, ze10, ze20, ze30, if_true, if_false]
        refine K st' G' V' ⟨S'.ex, ?_⟩ I' L' ?_
        · have := S'.pt
          rw [pot_vI (by decide), pv] at this
          exact this
        · rw [hC]
          exact congrArg tN ((vI_oo (by omega)).trans (vO_i (by omega)))
      · rw [if_neg cw1] at K
        have ew : ¬ finA R i = -1 := fun w => cw1 (by rw [w]; decide)
        simp only [E_X5_finish_0, E_X5_finish_0n, E_X5_finish_1, E_X5_finish_2, E_X5_finish_5, E_X5_finish_5n, E_X5_finish_6, E_X5_finish_6n, E_X5_finish_7, E_X5_finish_10, E_X5_finish_13, E_X5_finish_23, E_X5_finish_23n, E_X5_finish_24, E_X5_finish_27, E_X5_finish_30, E_X5_finish_30n, E_X5_finish_31, E_X5_finish_34, E_X5_finish_37, E_X5_finish_38, E_X5_finish_39, E_X5_finish_40, E_X5_finish_43, E_X5_finish_43n, E_X5_finish_44, E_X5_finish_45, E_X5_finish_48, E_X5_finish_48n, E_X5_finish_49, E_X5_finish_52, E_X5_finish_53, zwith_some, zwith_none, zif_true, zaft_inl, Option.toList_some, Option.toList_none, List.cons_append, List.nil_append, zc1_int, zc1_ref, zc1_null, zc1_float, List.length_nil, List.length_cons, Nat.reduceAdd, Nat.reduceLeDiff, Nat.zero_add, z1and, z0and, zl00, zl01, zl02, zl03, ze00, ze10, ze20, ze30, if_true, if_false, ew, not_false_iff, if_true]
        refine K st G _ ⟨Ext.refl h, by rw [pv]; exact Nat.le_refl _⟩ Iv ?_ (congrArg tN (vO_i (by omega)))
        refine REL_d (i := i) L (fun c k a b => vO_i a) rfl rfl rfl rfl (fun k hk => vO_so hk) (fun k hk => ?_) eR2 eR3 hRd ?_ (IR_c I2 (fun q hq => by rw [mA1, if_neg (by omega)]) (fun q hq => rfl))
        · rw [mA1, if_neg (by omega)]
          exact x1 k (by omega) (by omega) (by omega)
        · exact ⟨(vO_i (by omega)).trans (d2.trans e0.symm), (vO_i (by omega)).trans (d3.trans e2.symm), hoR⟩
  · have hw : finW R x = 1 := by
      unfold finW
      rw [n5, if_pos c]
    rw [hw] at K0
    simp only [E_X5_finish_0, E_X5_finish_0n, E_X5_finish_1, E_X5_finish_2, E_X5_finish_5, E_X5_finish_5n, E_X5_finish_6, E_X5_finish_6n, E_X5_finish_7, E_X5_finish_10, E_X5_finish_13, E_X5_finish_23, E_X5_finish_23n, E_X5_finish_24, E_X5_finish_27, E_X5_finish_30, E_X5_finish_30n, E_X5_finish_31, E_X5_finish_34, E_X5_finish_37, E_X5_finish_38, E_X5_finish_39, E_X5_finish_40, E_X5_finish_43, E_X5_finish_43n, E_X5_finish_44, E_X5_finish_45, E_X5_finish_48, E_X5_finish_48n, E_X5_finish_49, E_X5_finish_52, E_X5_finish_53, zwith_some, zwith_none, zif_true, zaft_inl, Option.toList_some, Option.toList_none, List.cons_append, List.nil_append, zc1_int, zc1_ref, zc1_null, zc1_float, List.length_nil, List.length_cons, Nat.reduceAdd, Nat.reduceLeDiff, Nat.zero_add, z1and, z0and, zl00, zl01, zl02, zl03, ze00, ze10, ze20, ze30, if_true, if_false, cis_kx h I.kx, C_dAt h I, if_neg c, zaft_inr zh_X5_finish]
    exact K0 (by decide)
end SF
