/-! what holds of the reference's state between calls; tries -/
section RB
variable {X : ZX} {d : Nat} {st : ZS} {mo : Nat} {R : MR} {P : ZO → ZS → Prop} {x y z : Int32}
def tN (x : Int32) : Nat := x.toNatClampNeg
theorem tN_nI {n : Nat} (h : n < 2 ^ 31) : tN (nI n) = n := nI_clamp h
abbrev IR (R : MR) : Prop := (R.2.1 5 = nI (tN (R.2.1 5)) ∧ tN (R.2.1 5) ≤ 12) ∧ (R.2.1 14 = nI (nP R) ∧ nP R ≤ 400) ∧ (R.2.1 15 = nI (tN (R.2.1 15)) ∧ tN (R.2.1 15) ≤ 8) ∧ (R.2.1 21 = nI (tN (R.2.1 21)) ∧ tN (R.2.1 21) ≤ 30) ∧ (∀ i, i < 12 → R.1 1 i = nI (tN (R.1 1 i)) ∧ tN (R.1 1 i) ≤ 24) ∧ (∀ i, i < 12 → tN (R.2.1 5) ≤ i → R.1 0 i = 0 ∧ R.1 1 i = 0 ∧ R.1 2 i = 0) ∧ (∀ i, i < 12 → R.1 0 i = 0 ∨ R.1 0 i = 1) ∧ (∀ i, i < 12 → pts R i (tN (R.1 1 i)) (fun j => tN (R.1 3 (24 * i + j))) (fun j => tN (R.1 4 (24 * i + j)))) ∧ (frs R (nP R)) ∧ (∀ j, j < tN (R.2.1 21) → R.1 13 j = nI (tN (R.1 13 j)) ∧ tN (R.1 13 j) < tN (R.2.1 5)) ∧ (∀ j, j < tN (R.2.1 21) → R.1 14 j = nI (tN (R.1 14 j)) ∧ 1 ≤ tN (R.1 14 j) ∧ tN (R.1 14 j) ≤ 6) ∧ (∀ j, j < tN (R.2.1 21) → R.1 15 j = 0 ∨ R.1 15 j = 1 ∨ R.1 15 j = 2 ∨ R.1 15 j = 3) ∧ (∀ j, j < 30 → tN (R.2.1 21) ≤ j → R.1 15 j = 0) ∧ (∀ j, j < tN (R.2.1 21) → R.1 15 j = 1 ∨ R.1 15 j = 2 → ∀ i, i < tN (R.1 14 j) → R.1 17 (6 * j + i) = nI (tN (R.1 17 (6 * j + i))) ∧ tN (R.1 17 (6 * j + i)) < nP R)
theorem IR.d5 {R : MR} (h : IR R) : R.2.1 5 = nI (tN (R.2.1 5)) ∧ tN (R.2.1 5) ≤ 12 := h.1
theorem IR.p14 {R : MR} (h : IR R) : R.2.1 14 = nI (nP R) ∧ nP R ≤ 400 := h.2.1
theorem IR.s15 {R : MR} (h : IR R) : R.2.1 15 = nI (tN (R.2.1 15)) ∧ tN (R.2.1 15) ≤ 8 := h.2.2.1
theorem IR.j21 {R : MR} (h : IR R) : R.2.1 21 = nI (tN (R.2.1 21)) ∧ tN (R.2.1 21) ≤ 30 := h.2.2.2.1
theorem IR.dn {R : MR} (h : IR R) : ∀ i, i < 12 → R.1 1 i = nI (tN (R.1 1 i)) ∧ tN (R.1 1 i) ≤ 24 := h.2.2.2.2.1
theorem IR.dz {R : MR} (h : IR R) : ∀ i, i < 12 → tN (R.2.1 5) ≤ i → R.1 0 i = 0 ∧ R.1 1 i = 0 ∧ R.1 2 i = 0 := h.2.2.2.2.2.1
theorem IR.df {R : MR} (h : IR R) : ∀ i, i < 12 → R.1 0 i = 0 ∨ R.1 0 i = 1 := h.2.2.2.2.2.2.1
theorem IR.pt {R : MR} (h : IR R) : ∀ i, i < 12 → pts R i (tN (R.1 1 i)) (fun j => tN (R.1 3 (24 * i + j))) (fun j => tN (R.1 4 (24 * i + j))) := h.2.2.2.2.2.2.2.1
theorem IR.fr {R : MR} (h : IR R) : frs R (nP R) := h.2.2.2.2.2.2.2.2.1
theorem IR.jd {R : MR} (h : IR R) : ∀ j, j < tN (R.2.1 21) → R.1 13 j = nI (tN (R.1 13 j)) ∧ tN (R.1 13 j) < tN (R.2.1 5) := h.2.2.2.2.2.2.2.2.2.1
theorem IR.jn {R : MR} (h : IR R) : ∀ j, j < tN (R.2.1 21) → R.1 14 j = nI (tN (R.1 14 j)) ∧ 1 ≤ tN (R.1 14 j) ∧ tN (R.1 14 j) ≤ 6 := h.2.2.2.2.2.2.2.2.2.2.1
theorem IR.jk {R : MR} (h : IR R) : ∀ j, j < tN (R.2.1 21) → R.1 15 j = 0 ∨ R.1 15 j = 1 ∨ R.1 15 j = 2 ∨ R.1 15 j = 3 := h.2.2.2.2.2.2.2.2.2.2.2.1
theorem IR.jz {R : MR} (h : IR R) : ∀ j, j < 30 → tN (R.2.1 21) ≤ j → R.1 15 j = 0 := h.2.2.2.2.2.2.2.2.2.2.2.2.1
theorem IR.jp {R : MR} (h : IR R) : ∀ j, j < tN (R.2.1 21) → R.1 15 j = 1 ∨ R.1 15 j = 2 → ∀ i, i < tN (R.1 14 j) → R.1 17 (6 * j + i) = nI (tN (R.1 17 (6 * j + i))) ∧ tN (R.1 17 (6 * j + i)) < nP R := h.2.2.2.2.2.2.2.2.2.2.2.2.2
theorem frs_lt {n : Nat} {R' : MR} (h : frs R n) {m : Nat} (hm : m ≤ n) (e : ∀ p, p < m → R'.1 12 p = R.1 12 p) : frs R' m := by
  intro p hp
  rw [e p hp]
  exact h p (by omega)
/-- the loop of nests keeps what it needs -/
theorem nsl_I {R0 : MR} {j : Nat} {w hh : Int32} : ∀ (m k : Nat) (R : MR), k + m ≤ 6 → nsI R0 j k R → nsI R0 j (nsl j w hh m k R).2.1 (nsl j w hh m k R).1 ∧ (nsl j w hh m k R).2.1 ≤ k + m ∧ ((nsl j w hh m k R).2.2 = true → (nsl j w hh m k R).2.1 = k + m)
  | 0, k, R, hk, I => ⟨I, Nat.le_refl _, fun _ => rfl⟩
  | m + 1, k, R, hk, I => by
    unfold nsl
    cases e : layP R (nP R) w hh with
    | none =>
      refine ⟨⟨I.n4, I.np, I.fr, ?_, ?_, ?_, I.fl, I.fc, I.nn, ?_⟩, ?_, ?_⟩
      · intro i hi
        show (mA R 17 _).1 i = _
        rw [mA1, if_neg (by omega)]
        exact I.ot i hi
      · intro i hi
        show ∃ f, f < nP R ∧ upd (R.1 17) (6 * j + k) (-1) (6 * j + i) = nI f
        rw [pk_un (by have : i < k := hi; omega)]
        exact I.jp i hi
      · intro i hi
        show upd (R.1 17) (6 * j + k) (-1) i = _
        rw [pk_un (by omega)]
        exact I.j7 i hi
      · intro i hi hi2 p hp
        show (mA R 17 _).1 i p = _
        rw [mA1, if_neg hi2]
        exact I.ps i hi hi2 p hp
      · show k ≤ _
        omega
      · intro z
        cases z
    | some p =>
      have := nsl_I (w := w) (hh := hh) m (k + 1) _ (by omega) (nsI_lay (by omega) I e)
      rw [show k + (m + 1) = k + 1 + m by omega]
      exact this
theorem nsF_IR {j : Nat} (I : IR R) (hj : j < tN (R.2.1 21)) : IR (nsF R j) := by
  have hj30 := I.j21.2
  have hc6 := (I.jn j hj).2.2
  have I0 : nsI R j 0 R := ⟨I.p14.2, I.p14.1, I.fr, fun _ _ => rfl, fun i hi => absurd hi (Nat.not_lt_zero i), fun _ _ => rfl, fun _ _ => rfl, rfl, Nat.le_refl _, fun _ _ _ _ _ => rfl⟩
  obtain ⟨I1, hk, hkt⟩ := nsl_I (w := nsW R j true) (hh := nsW R j false) (tN (R.1 14 j)) 0 R (by omega) I0
  unfold nsF nsE
  generalize hq : nsl j (nsW R j true) (nsW R j false) (R.1 14 j).toNatClampNeg 0 R = q at *
  have hq' : nsl j (nsW R j true) (nsW R j false) (tN (R.1 14 j)) 0 R = q := hq
  rw [hq'] at I1 hk hkt
  obtain ⟨Q, k, b⟩ := q
  dsimp only at I1 hk hkt ⊢
  have o0 := I1.ot 0 (by decide)
  have o1 := I1.ot 1 (by decide)
  have o2 := I1.ot 2 (by decide)
  have o3 := I1.ot 3 (by decide)
  have o4 := I1.ot 4 (by decide)
  have o13 := I1.ot 13 (by decide)
  have o14 := I1.ot 14 (by decide)
  have o15 := I1.ot 15 (by decide)
  have f5 := I1.fl 5 (by decide)
  have f15 := I1.fl 15 (by decide)
  have f21 := I1.fl 21 (by decide)
  cases b with
  | true =>
    rw [if_pos rfl]
    have hkt := hkt rfl
    refine ⟨?_, ⟨I1.np, I1.n4⟩, ?_, ?_, ?_, ?_, ?_, ?_, I1.fr, ?_, ?_, ?_, ?_, ?_⟩ <;> simp only [pts, mA1, mA2, mF1, mF2, mF3, mC1, mC2, mC3, mA_same, mA_comm, mFA, mCA, mCF, mCC, mF_same, mF_comm, Nat.reduceEqDiff, Nat.reduceLT, o0, o1, o2, o3, o4, o13, o14, o15, f5, f15, f21, if_true, if_false]
    · exact I.d5
    · exact I.s15
    · exact I.j21
    · exact I.dn
    · exact I.dz
    · exact I.df
    · exact I.pt
    · exact I.jd
    · exact I.jn
    · intro i hi
      by_cases c : i = j
      · subst c
        rw [pk_us]
        exact .inr (.inl rfl)
      · rw [pk_un c]
        exact I.jk i hi
    · intro i hi hi2
      rw [pk_un (by omega)]
      exact I.jz i hi hi2
    · intro i hi hs a ha
      show _ ∧ _ < nP Q
      by_cases c : i = j
      · subst c
        obtain ⟨f, hf, e⟩ := I1.jp a (by omega)
        have : tN (nI f) = f := tN_nI (by have := I1.n4; omega)
        rw [e, this]
        exact ⟨rfl, hf⟩
      · rw [pk_un c] at hs
        rw [I1.j7 _ (by have := (I.jn i hi).2.2; omega)]
        have := I.jp i hi hs a ha
        exact ⟨this.1, Nat.lt_of_lt_of_le this.2 I1.nn⟩
  | false =>
    rw [if_neg (by decide)]
    have e14 : nP (mF (mA (mA Q 11 (tks (nP Q) (Q.1 12) (fun k => (Q.1 17 (6 * j + k)).toNatClampNeg) k (Q.1 11))) 15 (upd (Q.1 15) j 0)) 14 (nI (nP R))) = nP R := nI_clamp (by have := I.p14.2; omega)
    refine ⟨?_, ?_, ?_, ?_, ?_, ?_, ?_, ?_, ?_, ?_, ?_, ?_, ?_, ?_⟩
    case refine_2 => rw [e14]; exact ⟨rfl, I.p14.2⟩
    case refine_9 =>
      rw [e14]
      exact frs_lt I.fr (Nat.le_refl _) fun p hp => I1.ps 12 (by decide) (by decide) p hp
    all_goals simp only [pts, mA1, mA2, mF1, mF2, mF3, mC1, mC2, mC3, mA_same, mA_comm, mFA, mCA, mCF, mCC, mF_same, mF_comm, Nat.reduceEqDiff, Nat.reduceLT, o0, o1, o2, o3, o4, o13, o14, o15, f5, f15, f21, if_true, if_false]
    · exact I.d5
    · exact I.s15
    · exact I.j21
    · exact I.dn
    · exact I.dz
    · exact I.df
    · exact I.pt
    · exact I.jd
    · exact I.jn
    · intro i hi
      by_cases c : i = j
      · subst c
        rw [pk_us]
        exact .inl rfl
      · rw [pk_un c]
        exact I.jk i hi
    · intro i hi hi2
      rw [pk_un (by omega)]
      exact I.jz i hi hi2
    · intro i hi hs a ha
      show _ ∧ _ < (nI (nP R)).toNatClampNeg
      rw [nI_clamp (by have := I.p14.2; omega)]
      by_cases c : i = j
      · subst c
        rw [pk_us] at hs
        exact absurd hs (by decide)
      · rw [pk_un c] at hs
        rw [I1.j7 _ (by have := (I.jn i hi).2.2; omega)]
        exact I.jp i hi hs a ha
theorem nsF_21 {j : Nat} (I : IR R) (hj : j < tN (R.2.1 21)) : (nsF R j).2.1 21 = R.2.1 21 := by
  have hc6 := (I.jn j hj).2.2
  have I0 : nsI R j 0 R := ⟨I.p14.2, I.p14.1, I.fr, fun _ _ => rfl, fun i hi => absurd hi (Nat.not_lt_zero i), fun _ _ => rfl, fun _ _ => rfl, rfl, Nat.le_refl _, fun _ _ _ _ _ => rfl⟩
  obtain ⟨I1, hk, hkt⟩ := nsl_I (w := nsW R j true) (hh := nsW R j false) (tN (R.1 14 j)) 0 R (by omega) I0
  have f21 := I1.fl 21 (by decide)
  unfold nsF nsE
  split
  · exact f21
  · exact f21
def trl : Nat → Nat → MR → MR
  | 0, _, R => R
  | m + 1, j, R => trl m (j + 1) (if R.1 15 j = 0 ∧ R.1 0 (tN (R.1 13 j)) = 1 then nsF R j else R)
def trF (R : MR) : MR := trl (tN (R.2.1 21)) 0 R
theorem S_nestsI {j : Nat} (h : mok st mo) (I : IR R) (hj : j < tN (R.2.1 21)) : AC X (d + 5) 96 [.ref mo, .int (nI j)] (mw st mo R) P = P (.inl none) (mw st mo (nsF R j)) := by
  have h1 := I.jd j hj
  have h2 := I.jn j hj
  have h3 := I.j21.2
  have h4 := I.d5.2
  have h5 := I.dn (tN (R.1 13 j)) (by omega)
  exact S_nests h (by omega) I.p14.2 I.p14.1 I.fr h2.1 h2.2.2 (by omega) h1.1 h5.1 h5.2
theorem S_tries_l (h : mok st mo) : ∀ (m j : Nat) (R : MR), IR R → j + m = tN (R.2.1 21) → AW X (d + 5) 97 2 [.ref mo, .int (nI j)] [] (mw st mo R) P = P (.inl none) (mw st mo (trl m j R)) := by
  intro m
  induction m with
  | zero =>
    intro j R I hj
    have e := I.j21.1
    rw [← hj, Nat.add_zero] at e
    have hle : nI j ≤ nI j := nI_le (Nat.le_refl _) (by have := I.j21.2; omega)
    rw [E_X6_tries_2]
    simp only [E_X6_tries_0, E_X6_tries_1, E_X6_tries_3, E_X6_tries_3n, E_X6_tries_4, E_X6_tries_7, E_X6_tries_10, E_X6_tries_10n, E_X6_tries_11, E_X6_tries_14, E_X6_tries_15, E_X6_tries_16, E_X6_tries_19, E_X6_tries_19n, E_X6_tries_20, E_X6_tries_23, E_X6_tries_23n, E_X6_tries_24, E_X6_tries_27, E_X6_tries_28, E_X6_tries_29, E_X6_tries_30, E_X6_tries_31, E_X6_tries_34, E_X6_tries_34n, E_X6_tries_35, E_X6_tries_36, E_X6_tries_39, E_X6_tries_42, E_X6_tries_45, zwith_some, zwith_none, zif_true, zaft_inl, Option.toList_some, Option.toList_none, List.cons_append, List.nil_append, zc1_int, zc1_ref, zc1_null, zc1_float, List.length_nil, List.length_cons, Nat.reduceAdd, Nat.reduceLeDiff, Nat.zero_add, z1and, z0and, zl00, zl01, zl02, zl03, ze00, ze10, ze20, ze30, if_true, if_false, mget h, e, hle]
    rfl
  | succ m ih =>
    intro j R I hj
    have hj' : j < tN (R.2.1 21) := by omega
    have h3 := I.j21.2
    have hz := zix_nI (show j < 30 by omega) (by decide)
    have hlt : ¬ nI (tN (R.2.1 21)) ≤ nI j := nI_ge (by omega) (by omega)
    have hdd := I.jd j hj'
    have h4 := I.d5.2
    have hz2 := zix_nI (show tN (R.1 13 j) < 12 by omega) (by decide)
    rw [← hdd.1] at hz2
    have hs := fun {P} => S_nestsI (X := X) (d := d) (P := P) h I hj'
    unfold trl
    rw [E_X6_tries_2, ← I.j21.1] at *
    simp only [E_X6_tries_0, E_X6_tries_1, E_X6_tries_3, E_X6_tries_3n, E_X6_tries_4, E_X6_tries_7, E_X6_tries_10, E_X6_tries_10n, E_X6_tries_11, E_X6_tries_14, E_X6_tries_15, E_X6_tries_16, E_X6_tries_19, E_X6_tries_19n, E_X6_tries_20, E_X6_tries_23, E_X6_tries_23n, E_X6_tries_24, E_X6_tries_27, E_X6_tries_28, E_X6_tries_29, E_X6_tries_30, E_X6_tries_31, E_X6_tries_34, E_X6_tries_34n, E_X6_tries_35, E_X6_tries_36, E_X6_tries_39, E_X6_tries_42, E_X6_tries_45, zwith_some, zwith_none, zif_true, zaft_inl, Option.toList_some, Option.toList_none, List.cons_append, List.nil_append, zc1_int, zc1_ref, zc1_null, zc1_float, List.length_nil, List.length_cons, Nat.reduceAdd, Nat.reduceLeDiff, Nat.zero_add, z1and, z0and, zl00, zl01, zl02, zl03, ze00, ze10, ze20, ze30, if_true, if_false, mget h, mrd h, mis h, hz, hlt, hz2]
    by_cases c1 : R.1 15 j = 0
    · by_cases c2 : R.1 0 (tN (R.1 13 j)) = 1
      · simp only [c1, c2, not_true, if_true, if_false, and_self, hs, nI_1, E_X6_tries_0, E_X6_tries_1, E_X6_tries_3, E_X6_tries_3n, E_X6_tries_4, E_X6_tries_7, E_X6_tries_10, E_X6_tries_10n, E_X6_tries_11, E_X6_tries_14, E_X6_tries_15, E_X6_tries_16, E_X6_tries_19, E_X6_tries_19n, E_X6_tries_20, E_X6_tries_23, E_X6_tries_23n, E_X6_tries_24, E_X6_tries_27, E_X6_tries_28, E_X6_tries_29, E_X6_tries_30, E_X6_tries_31, E_X6_tries_34, E_X6_tries_34n, E_X6_tries_35, E_X6_tries_36, E_X6_tries_39, E_X6_tries_42, E_X6_tries_45, zwith_some, zwith_none, zif_true, zaft_inl, Option.toList_some, Option.toList_none, List.cons_append, List.nil_append, zc1_int, zc1_ref, zc1_null, zc1_float, List.length_nil, List.length_cons, Nat.reduceAdd, Nat.reduceLeDiff, Nat.zero_add, z1and, z0and, zl00, zl01, zl02, zl03, ze00, ze10, ze20, ze30, if_true, if_false, mis h]
        exact ih (j + 1) _ (nsF_IR I hj') (by rw [nsF_21 I hj']; omega)
      · simp only [c1, c2, not_true, not_false_iff, if_true, if_false, and_false, nI_1]
        exact ih (j + 1) _ I (by omega)
    · simp only [c1, not_true, not_false_iff, if_true, if_false, false_and, nI_1]
      exact ih (j + 1) _ I (by omega)
theorem S_tries (h : mok st mo) (I : IR R) : AC X (d + 6) 97 [.ref mo] (mw st mo R) P = P (.inl none) (mw st mo (trF R)) := by
  rw [A_X6_tries]
  simp only [E_X6_tries_0, E_X6_tries_1, E_X6_tries_3, E_X6_tries_3n, E_X6_tries_4, E_X6_tries_7, E_X6_tries_10, E_X6_tries_10n, E_X6_tries_11, E_X6_tries_14, E_X6_tries_15, E_X6_tries_16, E_X6_tries_19, E_X6_tries_19n, E_X6_tries_20, E_X6_tries_23, E_X6_tries_23n, E_X6_tries_24, E_X6_tries_27, E_X6_tries_28, E_X6_tries_29, E_X6_tries_30, E_X6_tries_31, E_X6_tries_34, E_X6_tries_34n, E_X6_tries_35, E_X6_tries_36, E_X6_tries_39, E_X6_tries_42, E_X6_tries_45, zwith_some, zwith_none, zif_true, zaft_inl, Option.toList_some, Option.toList_none, List.cons_append, List.nil_append, zc1_int, zc1_ref, zc1_null, zc1_float, List.length_nil, List.length_cons, Nat.reduceAdd, Nat.reduceLeDiff, Nat.zero_add, z1and, z0and, zl00, zl01, zl02, zl03, ze00, ze10, ze20, ze30, if_true, if_false]
  exact S_tries_l h _ 0 R I (by omega)
end RB
