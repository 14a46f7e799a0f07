/-! a job's minutes, its strokes kept, the length added -/
section CT1
variable {X : ZX} {d : Nat} {st st0 S : ZS} {G G0 : CG} {V V' V0 : CV} {P : ZO → ZS → Prop} {x y z : Int32} {n m p q r j k a i dd c : Nat} {R R0 R' : MR} {f g : Nat → Nat} {u w : UInt32}
theorem htb_up (h : htb R j c k = true) : ∀ m, htb R j c (k + m) = true
  | 0 => h
  | m + 1 => by
    show (htb R j c (k + m) || _) = true
    rw [htb_up h m]
    rfl
/-- a placed job's list -/
theorem jal (I : CI G V) (L : REL V R) (hj : j < nJ V) (hs : R.1 15 j = 1 ∨ R.1 15 j = 2) : V.i 1 (j + 4) = nI (tN (R.1 14 j)) ∧ lok V (j + 4) (tN (R.1 14 j)) (nQ V) ∧ 1 ≤ tN (R.1 14 j) ∧ tN (R.1 14 j) ≤ 6 := by
  have hjR : j < tN (R.2.1 21) := by rw [← L.nn.2]; exact hj
  have hjn := L.ir.jn j hjR
  obtain ⟨_, _, _, ja, _⟩ := L.jr j hj
  obtain ⟨_, b2, _⟩ := ja hs
  have hla := (I.la j hj).1
  have hnA : nA V j = tN (R.1 14 j) := congrArg tN b2
  rw [hnA] at hla
  exact ⟨b2.trans hjn.1, hla, hjn.2⟩
theorem jpc (L : REL V R) (hj : j < nJ V) (hs : R.1 15 j = 1 ∨ R.1 15 j = 2) (hc : c < tN (R.1 14 j)) : V.e (j + 4) c = some (jf R j c) ∧ jf R j c < nP R ∧ jf R j c < nQ V := by
  have hjR : j < tN (R.2.1 21) := by rw [← L.nn.2]; exact hj
  obtain ⟨_, _, _, ja, _⟩ := L.jr j hj
  obtain ⟨_, _, b3⟩ := ja hs
  have hp := (L.jt.1 j c ⟨hjR, hs⟩ hc).2
  exact ⟨b3 c hc, hp, Nat.lt_of_lt_of_le hp L.pt.1.le.1⟩
theorem tc_eq (L : REL V R) (hp : p < nP R) (hq : q < nP R) : tcV V p q = tch R p q := by
  have hv := (L.pt.1.pp _ hp).v
  have hw := (L.pt.1.pp _ hq).v
  have v8 : V.i 8 p = R.1 6 p := hv 8 (by decide) (by decide)
  have v9 : V.i 9 p = R.1 7 p := hv 9 (by decide) (by decide)
  have v10 : V.i 10 p = R.1 8 p := hv 10 (by decide) (by decide)
  have v11 : V.i 11 p = R.1 9 p := hv 11 (by decide) (by decide)
  have v12 : V.i 12 p = R.1 10 p := hv 12 (by decide) (by decide)
  have w8 : V.i 8 q = R.1 6 q := hw 8 (by decide) (by decide)
  have w9 : V.i 9 q = R.1 7 q := hw 9 (by decide) (by decide)
  have w10 : V.i 10 q = R.1 8 q := hw 10 (by decide) (by decide)
  have w11 : V.i 11 q = R.1 9 q := hw 11 (by decide) (by decide)
  have w12 : V.i 12 q = R.1 10 q := hw 12 (by decide) (by decide)
  unfold tcV tch
  rw [v8, v9, v10, v11, v12, w8, w9, w10, w11, w12]
theorem C_tE_l (h : cok st G) (I : CI G V) (L : REL V R) (hj : j < nJ V) (hs : R.1 15 j = 1 ∨ R.1 15 j = 2) (hc : c < tN (R.1 14 j)) : ∀ (m k : Nat), k + m = c → htb R j c k = false → AW X (d + 3) 8 2 [.ref (G.A (.jb j)), .ref (G.A (.pc (jf R j c))), .int (nI c), .int (nI k)] [] (cw st G V) P = P (.inl (some (.int (bN (htb R j c c))))) (cw st G V) := by
  obtain ⟨hA, hla, hn1, hn6⟩ := jal I L hj hs
  have hlj := I.jb hj
  have hal := I.al (n := j + 4) (by omega)
  obtain ⟨e1, p1, q1⟩ := jpc L hj hs hc
  have hl1 := I.pc q1
  intro m
  induction m with
  | zero =>
    intro k hk hf
    have e : k = c := by omega
    subst e
    have hle : nI k ≤ nI k := nI_le (Nat.le_refl _) (by omega)
    rw [E_X1_touchesEarlier_2, hf]
    simp only [E_X1_touchesEarlier_0, E_X1_touchesEarlier_1, E_X1_touchesEarlier_3, E_X1_touchesEarlier_4, E_X1_touchesEarlier_7, E_X1_touchesEarlier_8, E_X1_touchesEarlier_8n, E_X1_touchesEarlier_9, E_X1_touchesEarlier_12, E_X1_touchesEarlier_15, E_X1_touchesEarlier_18, E_X1_touchesEarlier_18n, E_X1_touchesEarlier_19, E_X1_touchesEarlier_19n, E_X1_touchesEarlier_20, E_X1_touchesEarlier_23, E_X1_touchesEarlier_24, E_X1_touchesEarlier_27, E_X1_touchesEarlier_27n, E_X1_touchesEarlier_30, E_X1_touchesEarlier_33, E_X1_touchesEarlier_36, E_X1_touchesEarlier_37, E_X1_touchesEarlier_38, E_X1_touchesEarlier_41, E_X1_touchesEarlier_44, E_X1_touchesEarlier_45, zwith_some, zwith_none, zif_true, zaft_inl, Option.toList_some, Option.toList_none, List.cons_append, List.nil_append, zc1_int, zc1_ref, zc1_null, zc1_float, List.length_nil, List.length_cons, Nat.reduceAdd, Nat.reduceLeDiff, Nat.zero_add, z1and, z0and, zl00, zl01, zl02, zl03, ze00, ze10, ze20, ze30, if_true, if_false, hle]
    rfl
  | succ m ih =>
    intro k hk hf
    have hlt : ¬ nI c ≤ nI k := nI_ge (by omega) (by omega)
    have hlt2 : ¬ nI (tN (R.1 14 j)) ≤ nI k := nI_ge (by omega) (by omega)
    obtain ⟨e2, p2, q2⟩ := jpc L hj hs (show k < tN (R.1 14 j) by omega)
    have hl2 := I.pc q2
    have hg := fun {d} {P} => C_get (X := X) (d := d) (P := P) (V := V) (q := jf R j k) h hal (I.gr hla (by omega) (by omega)) hla (show k < tN (R.1 14 j) by omega) e2
    rw [show ek (j + 4) (jf R j k) = CK.pc (jf R j k) from rfl] at hg
    have ht := fun {d} {P} => C_touches (X := X) (d := d) (P := P) (V := V) h hl1 hl2
    have es : htb R j c (k + 1) = (htb R j c k || tch R (jf R j c) (jf R j k)) := rfl
    rw [tc_eq L p1 p2] at ht
    rw [E_X1_touchesEarlier_2]
    simp only [E_X1_touchesEarlier_0, E_X1_touchesEarlier_1, E_X1_touchesEarlier_3, E_X1_touchesEarlier_4, E_X1_touchesEarlier_7, E_X1_touchesEarlier_8, E_X1_touchesEarlier_8n, E_X1_touchesEarlier_9, E_X1_touchesEarlier_12, E_X1_touchesEarlier_15, E_X1_touchesEarlier_18, E_X1_touchesEarlier_18n, E_X1_touchesEarlier_19, E_X1_touchesEarlier_19n, E_X1_touchesEarlier_20, E_X1_touchesEarlier_23, E_X1_touchesEarlier_24, E_X1_touchesEarlier_27, E_X1_touchesEarlier_27n, E_X1_touchesEarlier_30, E_X1_touchesEarlier_33, E_X1_touchesEarlier_36, E_X1_touchesEarlier_37, E_X1_touchesEarlier_38, E_X1_touchesEarlier_41, E_X1_touchesEarlier_44, E_X1_touchesEarlier_45, zwith_some, zwith_none, zif_true, zaft_inl, Option.toList_some, Option.toList_none, List.cons_append, List.nil_append, zc1_int, zc1_ref, zc1_null, zc1_float, List.length_nil, List.length_cons, Nat.reduceAdd, Nat.reduceLeDiff, Nat.zero_add, z1and, z0and, zl00, zl01, zl02, zl03, ze00, ze10, ze20, ze30, if_true, if_false, hlt, hlt2, cg_jb h hlj, cis_al h hal, C_size h hal, hA, hg, cis_pc h hl1, cis_pc h hl2, ht, bN_eq0]
    cases c4 : tch R (jf R j c) (jf R j k) with
    | true =>
      have e9 := htb_up (R := R) (j := j) (c := c) (k := k + 1) (by rw [es, c4, Bool.or_true]) m
      rw [show k + 1 + m = c by omega] at e9
      rw [e9]
      simp only [Bool.true_eq_false, if_false, E_X1_touchesEarlier_0, E_X1_touchesEarlier_1, E_X1_touchesEarlier_3, E_X1_touchesEarlier_4, E_X1_touchesEarlier_7, E_X1_touchesEarlier_8, E_X1_touchesEarlier_8n, E_X1_touchesEarlier_9, E_X1_touchesEarlier_12, E_X1_touchesEarlier_15, E_X1_touchesEarlier_18, E_X1_touchesEarlier_18n, E_X1_touchesEarlier_19, E_X1_touchesEarlier_19n, E_X1_touchesEarlier_20, E_X1_touchesEarlier_23, E_X1_touchesEarlier_24, E_X1_touchesEarlier_27, E_X1_touchesEarlier_27n, E_X1_touchesEarlier_30, E_X1_touchesEarlier_33, E_X1_touchesEarlier_36, E_X1_touchesEarlier_37, E_X1_touchesEarlier_38, E_X1_touchesEarlier_41, E_X1_touchesEarlier_44, E_X1_touchesEarlier_45, zwith_some, zwith_none, zif_true, zaft_inl, Option.toList_some, Option.toList_none, List.cons_append, List.nil_append, zc1_int, zc1_ref, zc1_null, zc1_float, List.length_nil, List.length_cons, Nat.reduceAdd, Nat.reduceLeDiff, Nat.zero_add, z1and, z0and, zl00, zl01, zl02, zl03, ze00, ze10, ze20, ze30, if_true, if_false]
      rfl
    | false =>
      simp only [if_true, E_X1_touchesEarlier_0, E_X1_touchesEarlier_1, E_X1_touchesEarlier_3, E_X1_touchesEarlier_4, E_X1_touchesEarlier_7, E_X1_touchesEarlier_8, E_X1_touchesEarlier_8n, E_X1_touchesEarlier_9, E_X1_touchesEarlier_12, E_X1_touchesEarlier_15, E_X1_touchesEarlier_18, E_X1_touchesEarlier_18n, E_X1_touchesEarlier_19, E_X1_touchesEarlier_19n, E_X1_touchesEarlier_20, E_X1_touchesEarlier_23, E_X1_touchesEarlier_24, E_X1_touchesEarlier_27, E_X1_touchesEarlier_27n, E_X1_touchesEarlier_30, E_X1_touchesEarlier_33, E_X1_touchesEarlier_36, E_X1_touchesEarlier_37, E_X1_touchesEarlier_38, E_X1_touchesEarlier_41, E_X1_touchesEarlier_44, E_X1_touchesEarlier_45, zwith_some, zwith_none, zif_true, zaft_inl, Option.toList_some, Option.toList_none, List.cons_append, List.nil_append, zc1_int, zc1_ref, zc1_null, zc1_float, List.length_nil, List.length_cons, Nat.reduceAdd, Nat.reduceLeDiff, Nat.zero_add, z1and, z0and, zl00, zl01, zl02, zl03, ze00, ze10, ze20, ze30, if_true, if_false, nI_1]
      exact ih (k + 1) (by omega) (by rw [es, hf, c4]; rfl)
theorem C_tE (h : cok st G) (I : CI G V) (L : REL V R) (hj : j < nJ V) (hs : R.1 15 j = 1 ∨ R.1 15 j = 2) (hc : c < tN (R.1 14 j)) : AC X (d + 4) 8 [.ref (G.A (.jb j)), .ref (G.A (.pc (jf R j c))), .int (nI c)] (cw st G V) P = P (.inl (some (.int (bN (htb R j c c))))) (cw st G V) := by
  rw [A_X1_touchesEarlier zc1_ref]
  simp only [E_X1_touchesEarlier_0, E_X1_touchesEarlier_1, E_X1_touchesEarlier_3, E_X1_touchesEarlier_4, E_X1_touchesEarlier_7, E_X1_touchesEarlier_8, E_X1_touchesEarlier_8n, E_X1_touchesEarlier_9, E_X1_touchesEarlier_12, E_X1_touchesEarlier_15, E_X1_touchesEarlier_18, E_X1_touchesEarlier_18n, E_X1_touchesEarlier_19, E_X1_touchesEarlier_19n, E_X1_touchesEarlier_20, E_X1_touchesEarlier_23, E_X1_touchesEarlier_24, E_X1_touchesEarlier_27, E_X1_touchesEarlier_27n, E_X1_touchesEarlier_30, E_X1_touchesEarlier_33, E_X1_touchesEarlier_36, E_X1_touchesEarlier_37, E_X1_touchesEarlier_38, E_X1_touchesEarlier_41, E_X1_touchesEarlier_44, E_X1_touchesEarlier_45, zwith_some, zwith_none, zif_true, zaft_inl, Option.toList_some, Option.toList_none, List.cons_append, List.nil_append, zc1_int, zc1_ref, zc1_null, zc1_float, List.length_nil, List.length_cons, Nat.reduceAdd, Nat.reduceLeDiff, Nat.zero_add, z1and, z0and, zl00, zl01, zl02, zl03, ze00, ze10, ze20, ze30, if_true, if_false]
  exact C_tE_l h I L hj hs hc c 0 (by omega) rfl
def hsm (R : MR) (j : Nat) : Nat → Int32
  | 0 => 0
  | c + 1 => hsm R j c + (if htb R j c c = true then 3 else 0)
theorem mns_hsm : ∀ c, mns R j u c = nI c * (FP.f2i (FP.fdiv u 1092616192) + 1) + hsm R j c
  | 0 => by
    show (0 : Int32) = 0 * _ + 0
    rw [Int32.zero_mul, Int32.add_zero]
  | c + 1 => by
    show mns R j u c + (FP.f2i (FP.fdiv u 1092616192) + 1 + (if htb R j c c = true then 3 else 0)) = nI (c + 1) * (FP.f2i (FP.fdiv u 1092616192) + 1) + (hsm R j c + (if htb R j c c = true then 3 else 0))
    rw [mns_hsm c, ← nI_1, Int32.add_mul, Int32.one_mul, Int32.add_assoc, Int32.add_assoc (nI c * _)]
    congr 1
    ac_rfl
theorem C_mF_l (h : cok st G) (I : CI G V) (L : REL V R) (hj : j < nJ V) (hs : R.1 15 j = 1 ∨ R.1 15 j = 2) : ∀ (m k : Nat), k + m = tN (R.1 14 j) → AW X (d + 4) 7 15 [.ref (G.A (.jb j)), .float u, .int (y + hsm R j k), .int (nI k)] [] (cw st G V) P = P (.inl (some (.int (y + hsm R j (tN (R.1 14 j)))))) (cw st G V) := by
  obtain ⟨hA, hla, hn1, hn6⟩ := jal I L hj hs
  have hlj := I.jb hj
  have hal := I.al (n := j + 4) (by omega)
  intro m
  induction m with
  | zero =>
    intro k hk
    have e : k = tN (R.1 14 j) := by omega
    subst e
    have hle : nI (tN (R.1 14 j)) ≤ nI (tN (R.1 14 j)) := nI_le (Nat.le_refl _) (by omega)
    rw [E_X1_minutesFor_15]
    simp only [E_X1_minutesFor_0, E_X1_minutesFor_0n, E_X1_minutesFor_1, E_X1_minutesFor_4, E_X1_minutesFor_5, E_X1_minutesFor_7, E_X1_minutesFor_8, E_X1_minutesFor_9, E_X1_minutesFor_10, E_X1_minutesFor_11, E_X1_minutesFor_12, E_X1_minutesFor_13, E_X1_minutesFor_14, E_X1_minutesFor_16, E_X1_minutesFor_16n, E_X1_minutesFor_17, E_X1_minutesFor_20, E_X1_minutesFor_23, E_X1_minutesFor_26, E_X1_minutesFor_26n, E_X1_minutesFor_27, E_X1_minutesFor_27n, E_X1_minutesFor_28, E_X1_minutesFor_31, E_X1_minutesFor_32, E_X1_minutesFor_35, E_X1_minutesFor_35n, E_X1_minutesFor_38, E_X1_minutesFor_39, E_X1_minutesFor_42, E_X1_minutesFor_45, E_X1_minutesFor_48, E_X1_minutesFor_51, E_X1_minutesFor_54, E_X1_minutesFor_55, zwith_some, zwith_none, zif_true, zaft_inl, Option.toList_some, Option.toList_none, List.cons_append, List.nil_append, zc1_int, zc1_ref, zc1_null, zc1_float, List.length_nil, List.length_cons, Nat.reduceAdd, Nat.reduceLeDiff, Nat.zero_add, z1and, z0and, zl00, zl01, zl02, zl03, ze00, ze10, ze20, ze30, if_true, if_false, cg_jb h hlj, cis_al h hal, C_size h hal, hA, hle]
  | succ m ih =>
    intro k hk
    have ih := ih (k + 1) (by omega)
    have hlt : ¬ nI (tN (R.1 14 j)) ≤ nI k := nI_ge (by omega) (by omega)
    have ht := fun {d} {P} => C_tE (X := X) (d := d) (P := P) (c := k) h I L hj hs (by omega)
    obtain ⟨e2, p2, q2⟩ := jpc L hj hs (show k < tN (R.1 14 j) by omega)
    have hg := fun {d} {P} => C_get (X := X) (d := d) (P := P) (V := V) (q := jf R j k) h hal (I.gr hla (by omega) (by omega)) hla (show k < tN (R.1 14 j) by omega) e2
    rw [show ek (j + 4) (jf R j k) = CK.pc (jf R j k) from rfl] at hg
    have es : hsm R j (k + 1) = hsm R j k + (if htb R j k k = true then 3 else 0) := rfl
    rw [es] at ih
    rw [E_X1_minutesFor_15]
    simp only [E_X1_minutesFor_0, E_X1_minutesFor_0n, E_X1_minutesFor_1, E_X1_minutesFor_4, E_X1_minutesFor_5, E_X1_minutesFor_7, E_X1_minutesFor_8, E_X1_minutesFor_9, E_X1_minutesFor_10, E_X1_minutesFor_11, E_X1_minutesFor_12, E_X1_minutesFor_13, E_X1_minutesFor_14, E_X1_minutesFor_16, E_X1_minutesFor_16n, E_X1_minutesFor_17, E_X1_minutesFor_20, E_X1_minutesFor_23, E_X1_minutesFor_26, E_X1_minutesFor_26n, E_X1_minutesFor_27, E_X1_minutesFor_27n, E_X1_minutesFor_28, E_X1_minutesFor_31, E_X1_minutesFor_32, E_X1_minutesFor_35, E_X1_minutesFor_35n, E_X1_minutesFor_38, E_X1_minutesFor_39, E_X1_minutesFor_42, E_X1_minutesFor_45, E_X1_minutesFor_48, E_X1_minutesFor_51, E_X1_minutesFor_54, E_X1_minutesFor_55, zwith_some, zwith_none, zif_true, zaft_inl, Option.toList_some, Option.toList_none, List.cons_append, List.nil_append, zc1_int, zc1_ref, zc1_null, zc1_float, List.length_nil, List.length_cons, Nat.reduceAdd, Nat.reduceLeDiff, Nat.zero_add, z1and, z0and, zl00, zl01, zl02, zl03, ze00, ze10, ze20, ze30, if_true, if_false, cg_jb h hlj, cis_jb h hlj, cis_al h hal, cis_pc h (I.pc q2), C_size h hal, hA, hlt, hg, ht, bN_eq0, nI_1]
    cases c4 : htb R j k k with
    | true =>
      simp only [c4, Bool.true_eq_false, if_false, if_true, E_X1_minutesFor_0, E_X1_minutesFor_0n, E_X1_minutesFor_1, E_X1_minutesFor_4, E_X1_minutesFor_5, E_X1_minutesFor_7, E_X1_minutesFor_8, E_X1_minutesFor_9, E_X1_minutesFor_10, E_X1_minutesFor_11, E_X1_minutesFor_12, E_X1_minutesFor_13, E_X1_minutesFor_14, E_X1_minutesFor_16, E_X1_minutesFor_16n, E_X1_minutesFor_17, E_X1_minutesFor_20, E_X1_minutesFor_23, E_X1_minutesFor_26, E_X1_minutesFor_26n, E_X1_minutesFor_27, E_X1_minutesFor_27n, E_X1_minutesFor_28, E_X1_minutesFor_31, E_X1_minutesFor_32, E_X1_minutesFor_35, E_X1_minutesFor_35n, E_X1_minutesFor_38, E_X1_minutesFor_39, E_X1_minutesFor_42, E_X1_minutesFor_45, E_X1_minutesFor_48, E_X1_minutesFor_51, E_X1_minutesFor_54, E_X1_minutesFor_55, zwith_some, zwith_none, zif_true, zaft_inl, Option.toList_some, Option.toList_none, List.cons_append, List.nil_append, zc1_int, zc1_ref, zc1_null, zc1_float, List.length_nil, List.length_cons, Nat.reduceAdd, Nat.reduceLeDiff, Nat.zero_add, z1and, z0and, zl00, zl01, zl02, zl03, ze00, ze10, ze20, ze30, if_true, if_false, nI_1, Int32.add_assoc] at ih ⊢
      exact ih
    | false =>
      simp only [c4, Bool.false_eq_true, if_false, if_true, E_X1_minutesFor_0, E_X1_minutesFor_0n, E_X1_minutesFor_1, E_X1_minutesFor_4, E_X1_minutesFor_5, E_X1_minutesFor_7, E_X1_minutesFor_8, E_X1_minutesFor_9, E_X1_minutesFor_10, E_X1_minutesFor_11, E_X1_minutesFor_12, E_X1_minutesFor_13, E_X1_minutesFor_14, E_X1_minutesFor_16, E_X1_minutesFor_16n, E_X1_minutesFor_17, E_X1_minutesFor_20, E_X1_minutesFor_23, E_X1_minutesFor_26, E_X1_minutesFor_26n, E_X1_minutesFor_27, E_X1_minutesFor_27n, E_X1_minutesFor_28, E_X1_minutesFor_31, E_X1_minutesFor_32, E_X1_minutesFor_35, E_X1_minutesFor_35n, E_X1_minutesFor_38, E_X1_minutesFor_39, E_X1_minutesFor_42, E_X1_minutesFor_45, E_X1_minutesFor_48, E_X1_minutesFor_51, E_X1_minutesFor_54, E_X1_minutesFor_55, zwith_some, zwith_none, zif_true, zaft_inl, Option.toList_some, Option.toList_none, List.cons_append, List.nil_append, zc1_int, zc1_ref, zc1_null, zc1_float, List.length_nil, List.length_cons, Nat.reduceAdd, Nat.reduceLeDiff, Nat.zero_add, z1and, z0and, zl00, zl01, zl02, zl03, ze00, ze10, ze20, ze30, if_true, if_false, nI_1, Int32.add_zero] at ih ⊢
      exact ih
theorem C_mF (h : cok st G) (I : CI G V) (L : REL V R) (hj : j < nJ V) (hs : R.1 15 j = 1 ∨ R.1 15 j = 2) (hu : u ≤ 2139095040) : AC X (d + 5) 7 [.ref (G.A (.jb j)), .float u] (cw st G V) P = P (.inl (some (.int (mns R j u (tN (R.1 14 j)))))) (cw st G V) := by
  obtain ⟨hA, hla, hn1, hn6⟩ := jal I L hj hs
  have hjR : j < tN (R.2.1 21) := by rw [← L.nn.2]; exact hj
  have hjn := L.ir.jn j hjR
  have z1 : zn32 (FP.fdiv u 1092616192) = true := fp_zn (fp_div hu)
  have e4 : V.i 4 j = nI (tN (R.1 14 j)) := (L.jr j hj).1.trans hjn.1
  have hl := C_mF_l (X := X) (d := d) (P := P) (u := u) (y := nI (tN (R.1 14 j)) * (FP.f2i (FP.fdiv u 1092616192) + 1)) h I L hj hs (tN (R.1 14 j)) 0 (by omega)
  have h1 : hsm R j 0 = 0 := rfl
  rw [h1, Int32.add_zero, ← mns_hsm] at hl
  rw [A_X1_minutesFor]
  simp only [E_X1_minutesFor_0, E_X1_minutesFor_0n, E_X1_minutesFor_1, E_X1_minutesFor_4, E_X1_minutesFor_5, E_X1_minutesFor_7, E_X1_minutesFor_8, E_X1_minutesFor_9, E_X1_minutesFor_10, E_X1_minutesFor_11, E_X1_minutesFor_12, E_X1_minutesFor_13, E_X1_minutesFor_14, E_X1_minutesFor_16, E_X1_minutesFor_16n, E_X1_minutesFor_17, E_X1_minutesFor_20, E_X1_minutesFor_23, E_X1_minutesFor_26, E_X1_minutesFor_26n, E_X1_minutesFor_27, E_X1_minutesFor_27n, E_X1_minutesFor_28, E_X1_minutesFor_31, E_X1_minutesFor_32, E_X1_minutesFor_35, E_X1_minutesFor_35n, E_X1_minutesFor_38, E_X1_minutesFor_39, E_X1_minutesFor_42, E_X1_minutesFor_45, E_X1_minutesFor_48, E_X1_minutesFor_51, E_X1_minutesFor_54, E_X1_minutesFor_55, zwith_some, zwith_none, zif_true, zaft_inl, Option.toList_some, Option.toList_none, List.cons_append, List.nil_append, zc1_int, zc1_ref, zc1_null, zc1_float, List.length_nil, List.length_cons, Nat.reduceAdd, Nat.reduceLeDiff, Nat.zero_add, z1and, z0and, zl00, zl01, zl02, zl03, ze00, ze10, ze20, ze30, if_true, if_false, cg_jb h (I.jb hj), e4, z1]
  exact hl
def vK (V : CV) (j dd : Nat) : CV := vI (vS V (2 * j + 1) (va_cpy (V.s (2 * dd)) (V.s (2 * j + 1)) 0 0 24)) 7 (2 * j + 1) (V.i 7 (2 * dd))
theorem C_keep (h : cok st G) (I : CI G V) (hj : j < nJ V) (hd : V.r 0 j = some dd) (hdd : dd < nD V) : AC X (d + 2) 6 [.ref (G.A (.jb j))] (cw st G V) P = P (.inl none) (cw st G (vK V j dd)) := by
  have hlj := I.jb hj
  have hc := fun {d} {P} => C_copy (X := X) (d := d) (P := P) (V := V) h (I.ou1 hj) (I.sk1 hj) (I.ou0 hdd) (I.sk0 hdd)
  rw [A_X1_keepStrokes]
  simp only [E_X1_keepStrokes_0, E_X1_keepStrokes_0n, E_X1_keepStrokes_1, E_X1_keepStrokes_4, E_X1_keepStrokes_4n, E_X1_keepStrokes_5, E_X1_keepStrokes_8, E_X1_keepStrokes_11, E_X1_keepStrokes_14, zwith_some, zwith_none, zif_true, zaft_inl, Option.toList_some, Option.toList_none, List.cons_append, List.nil_append, zc1_int, zc1_ref, zc1_null, zc1_float, List.length_nil, List.length_cons, Nat.reduceAdd, Nat.reduceLeDiff, Nat.zero_add, z1and, z0and, zl00, zl01, zl02, zl03, ze00, ze10, ze20, ze30, if_true, if_false, cg_jb h hlj, hd, rfv_s, cg_dr h (I.dr hdd), cis_ou h (I.ou1 hj), hc]
  rfl
theorem C_afc_l (hu : u ≤ 2139095040) (hw : w ≤ 2139095040) (hn : n < 2 ^ 31) : ∀ (m k : Nat), k + m = n → AW X d 68 5 [.float w, .float u, .int (nI n), .float (ctl u w k), .int (nI k)] [] st P = P (.inl (some (.float (ctl u w n)))) st := by
  intro m
  induction m with
  | zero =>
    intro k hk
    have e : k = n := by omega
    subst e
    have hle : nI k ≤ nI k := nI_le (Nat.le_refl _) hn
    rw [E_X5_addedForCopies_5]
    simp only [E_X5_addedForCopies_0, E_X5_addedForCopies_1, E_X5_addedForCopies_2, E_X5_addedForCopies_3, E_X5_addedForCopies_7, E_X5_addedForCopies_8, E_X5_addedForCopies_11, E_X5_addedForCopies_12, E_X5_addedForCopies_13, E_X5_addedForCopies_14, E_X5_addedForCopies_15, E_X5_addedForCopies_18, E_X5_addedForCopies_21, E_X5_addedForCopies_22, zwith_some, zwith_none, zif_true, zaft_inl, Option.toList_some, Option.toList_none, List.cons_append, List.nil_append, zc1_int, zc1_ref, zc1_null, zc1_float, List.length_nil, List.length_cons, Nat.reduceAdd, Nat.reduceLeDiff, Nat.zero_add, z1and, z0and, zl00, zl01, zl02, zl03, ze00, ze10, ze20, ze30, if_true, if_false, hle]
  | succ m ih =>
    intro k hk
    have ih := ih (k + 1) (by omega)
    have hlt : ¬ nI n ≤ nI k := nI_ge (by omega) (by omega)
    have z2 : zn32 (FP.fadd (ctl u w k) u) = true := fp_zn (fp_add (ctl_ok hu hw k) hu)
    rw [show ctl u w (k + 1) = FP.fadd (ctl u w k) u from rfl] at ih
    rw [E_X5_addedForCopies_5]
    simp only [E_X5_addedForCopies_0, E_X5_addedForCopies_1, E_X5_addedForCopies_2, E_X5_addedForCopies_3, E_X5_addedForCopies_7, E_X5_addedForCopies_8, E_X5_addedForCopies_11, E_X5_addedForCopies_12, E_X5_addedForCopies_13, E_X5_addedForCopies_14, E_X5_addedForCopies_15, E_X5_addedForCopies_18, E_X5_addedForCopies_21, E_X5_addedForCopies_22, zwith_some, zwith_none, zif_true, zaft_inl, Option.toList_some, Option.toList_none, List.cons_append, List.nil_append, zc1_int, zc1_ref, zc1_null, zc1_float, List.length_nil, List.length_cons, Nat.reduceAdd, Nat.reduceLeDiff, Nat.zero_add, z1and, z0and, zl00, zl01, zl02, zl03, ze00, ze10, ze20, ze30, if_true, if_false, hlt, z2, nI_1]
    exact ih
theorem C_afc (hu : u ≤ 2139095040) (hw : w ≤ 2139095040) (hn : n < 2 ^ 31) : AC X (d + 1) 68 [.float w, .float u, .int (nI n)] st P = P (.inl (some (.float (ctl u w n)))) st := by
  rw [A_X5_addedForCopies]
  simp only [E_X5_addedForCopies_0, E_X5_addedForCopies_1, E_X5_addedForCopies_2, E_X5_addedForCopies_3, E_X5_addedForCopies_7, E_X5_addedForCopies_8, E_X5_addedForCopies_11, E_X5_addedForCopies_12, E_X5_addedForCopies_13, E_X5_addedForCopies_14, E_X5_addedForCopies_15, E_X5_addedForCopies_18, E_X5_addedForCopies_21, E_X5_addedForCopies_22, zwith_some, zwith_none, zif_true, zaft_inl, Option.toList_some, Option.toList_none, List.cons_append, List.nil_append, zc1_int, zc1_ref, zc1_null, zc1_float, List.length_nil, List.length_cons, Nat.reduceAdd, Nat.reduceLeDiff, Nat.zero_add, z1and, z0and, zl00, zl01, zl02, zl03, ze00, ze10, ze20, ze30, if_true, if_false]
  exact C_afc_l hu hw hn n 0 (by omega)
end CT1
