/-! the reference's allFree, frees, takesOff -/
section R9
variable {X : ZX} {d : Nat} {st : ZS} {mo : Nat} {R : MR} {P : ZO → ZS → Prop} {x y z : Int32}
def afr (po pk : Nat → Int32) (o : Int32) : Nat → Bool
  | 0 => true
  | p + 1 => afr po pk o p && (!decide (po p = o) || (decide (pk p = 0) || decide (pk p = 3)))
theorem bN_and1 (b : Bool) : bN b &&& 1 = bN b := by cases b <;> decide
theorem bN_and0 (b : Bool) : bN b &&& 0 = 0 := by cases b <;> decide
theorem S_allFree_l (h : mok st mo) {n : Nat} {o : Int32} (hn : n ≤ 400) (hd : R.2.1 14 = nI n) : ∀ (m p : Nat), p + m = n → AW X d 92 4 [.ref mo, .int o, .int (bN (afr (R.1 12) (R.1 11) o p)), .int (nI p)] [] (mw st mo R) P = P (.inl (some (.int (bN (afr (R.1 12) (R.1 11) o n))))) (mw st mo R) := by
  intro m
  induction m with
  | zero =>
    intro p hp
    have e : p = n := by omega
    subst e
    rw [E_X6_allFree_4]
    simp only [E_X6_allFree_0, E_X6_allFree_1, E_X6_allFree_2, E_X6_allFree_3, E_X6_allFree_5, E_X6_allFree_5n, E_X6_allFree_6, E_X6_allFree_9, E_X6_allFree_12, E_X6_allFree_13, E_X6_allFree_13n, E_X6_allFree_14, E_X6_allFree_17, E_X6_allFree_18, E_X6_allFree_19, E_X6_allFree_20, E_X6_allFree_23, E_X6_allFree_23n, E_X6_allFree_24, E_X6_allFree_27, E_X6_allFree_28, E_X6_allFree_29, E_X6_allFree_32, E_X6_allFree_32n, E_X6_allFree_33, E_X6_allFree_36, E_X6_allFree_37, E_X6_allFree_38, E_X6_allFree_39, E_X6_allFree_42, E_X6_allFree_43, E_X6_allFree_46, E_X6_allFree_47, E_X6_allFree_48, E_X6_allFree_49, E_X6_allFree_52, E_X6_allFree_55, E_X6_allFree_56, zwith_some, zwith_none, zif_true, zaft_inl, Option.toList_some, Option.toList_none, List.cons_append, List.nil_append, zc1_int, zc1_ref, zc1_null, zc1_float, List.length_nil, List.length_cons, Nat.reduceAdd, Nat.reduceLeDiff, Nat.zero_add, z1and, z0and, zl00, zl01, zl02, zl03, ze00, ze10, ze20, ze30, if_true, if_false, mget h, hd, bN_and]
    rw [if_pos (nI_le (Nat.le_refl _) (by omega))]
  | succ m ih =>
    intro p hp
    have ih := ih (p + 1) (by omega)
    have hz := zix_nI (show p < 400 by omega) (by decide)
    have hlt : ¬ nI n ≤ nI p := nI_ge (by omega) (by omega)
    have e1 : afr (R.1 12) (R.1 11) o (p + 1) = (afr (R.1 12) (R.1 11) o p && (!decide (R.1 12 p = o) || (decide (R.1 11 p = 0) || decide (R.1 11 p = 3)))) := rfl
    rw [e1] at ih
    rw [E_X6_allFree_4]
    simp only [E_X6_allFree_0, E_X6_allFree_1, E_X6_allFree_2, E_X6_allFree_3, E_X6_allFree_5, E_X6_allFree_5n, E_X6_allFree_6, E_X6_allFree_9, E_X6_allFree_12, E_X6_allFree_13, E_X6_allFree_13n, E_X6_allFree_14, E_X6_allFree_17, E_X6_allFree_18, E_X6_allFree_19, E_X6_allFree_20, E_X6_allFree_23, E_X6_allFree_23n, E_X6_allFree_24, E_X6_allFree_27, E_X6_allFree_28, E_X6_allFree_29, E_X6_allFree_32, E_X6_allFree_32n, E_X6_allFree_33, E_X6_allFree_36, E_X6_allFree_37, E_X6_allFree_38, E_X6_allFree_39, E_X6_allFree_42, E_X6_allFree_43, E_X6_allFree_46, E_X6_allFree_47, E_X6_allFree_48, E_X6_allFree_49, E_X6_allFree_52, E_X6_allFree_55, E_X6_allFree_56, zwith_some, zwith_none, zif_true, zaft_inl, Option.toList_some, Option.toList_none, List.cons_append, List.nil_append, zc1_int, zc1_ref, zc1_null, zc1_float, List.length_nil, List.length_cons, Nat.reduceAdd, Nat.reduceLeDiff, Nat.zero_add, z1and, z0and, zl00, zl01, zl02, zl03, ze00, ze10, ze20, ze30, if_true, if_false, mget h, mrd h, hz, hd, hlt, nI_1, bN_and1, bN_and0]
    by_cases c1 : R.1 12 p = o
    · by_cases c2 : R.1 11 p = 0
      · simp only [c1, c2, not_true, if_true, if_false, decide_true, Bool.not_true, Bool.false_or, Bool.true_or, Bool.and_true, bN_and1] at ih ⊢
        exact ih
      · by_cases c3 : R.1 11 p = 3
        · simp only [c1, c2, c3, not_true, not_false_iff, if_true, if_false, decide_true, decide_false, Bool.not_true, Bool.false_or, Bool.true_or, Bool.and_true, Bool.or_true, bN_and1] at ih ⊢
          split <;> exact ih
        · simp only [c1, c2, c3, not_true, not_false_iff, if_true, if_false, decide_true, decide_false, Bool.not_true, Bool.false_or, Bool.and_false, bN_and0] at ih ⊢
          exact ih
    · simp only [c1, not_true, not_false_iff, if_true, if_false, decide_false, Bool.not_false, Bool.true_or, Bool.and_true, bN_and1] at ih ⊢
      exact ih
theorem S_allFree (h : mok st mo) {n : Nat} {o : Int32} (hn : n ≤ 400) (hd : R.2.1 14 = nI n) : AC X (d + 1) 92 [.ref mo, .int o] (mw st mo R) P = P (.inl (some (.int (bN (afr (R.1 12) (R.1 11) o n))))) (mw st mo R) := by
  rw [A_X6_allFree]
  simp only [E_X6_allFree_0, E_X6_allFree_1, E_X6_allFree_2, E_X6_allFree_3, E_X6_allFree_5, E_X6_allFree_5n, E_X6_allFree_6, E_X6_allFree_9, E_X6_allFree_12, E_X6_allFree_13, E_X6_allFree_13n, E_X6_allFree_14, E_X6_allFree_17, E_X6_allFree_18, E_X6_allFree_19, E_X6_allFree_20, E_X6_allFree_23, E_X6_allFree_23n, E_X6_allFree_24, E_X6_allFree_27, E_X6_allFree_28, E_X6_allFree_29, E_X6_allFree_32, E_X6_allFree_32n, E_X6_allFree_33, E_X6_allFree_36, E_X6_allFree_37, E_X6_allFree_38, E_X6_allFree_39, E_X6_allFree_42, E_X6_allFree_43, E_X6_allFree_46, E_X6_allFree_47, E_X6_allFree_48, E_X6_allFree_49, E_X6_allFree_52, E_X6_allFree_55, E_X6_allFree_56, zwith_some, zwith_none, zif_true, zaft_inl, Option.toList_some, Option.toList_none, List.cons_append, List.nil_append, zc1_int, zc1_ref, zc1_null, zc1_float, List.length_nil, List.length_cons, Nat.reduceAdd, Nat.reduceLeDiff, Nat.zero_add, z1and, z0and, zl00, zl01, zl02, zl03, ze00, ze10, ze20, ze30, if_true, if_false]
  exact S_allFree_l h hn hd n 0 (by omega)
/-- the pieces of o among the first k are gone -/
def gon (po pk : Nat → Int32) (o : Int32) (k : Nat) : Nat → Int32 := fun p => if p < k ∧ po p = o then 3 else pk p
def clb (n : Nat) (po : Nat → Int32) : Nat → (Nat → Int32) → Int32 → Nat → Int32
  | 0, pk, _ => pk
  | f + 1, pk, o => if ¬ o < 0 ∧ afr po pk o n = true then clb n po f (upd (gon po pk o n) o.toNatClampNeg 0) (po o.toNatClampNeg) else pk
theorem gon_0 {po pk : Nat → Int32} {o : Int32} : gon po pk o 0 = pk := by
  funext p
  unfold gon
  rw [if_neg (fun z => absurd z.1 (Nat.not_lt_zero p))]
theorem gon_s {po pk : Nat → Int32} {o : Int32} {k : Nat} : upd (gon po pk o k) k (if po k = o then 3 else gon po pk o k k) = gon po pk o (k + 1) := by
  funext p
  unfold upd gon
  by_cases c : p = k
  · subst c
    rw [if_pos rfl]
    by_cases c2 : po p = o
    · rw [if_pos c2, if_pos ⟨by omega, c2⟩]
    · rw [if_neg c2, if_neg (fun z => c2 z.2), if_neg (fun z => c2 z.2)]
  · rw [if_neg c]
    by_cases c2 : p < k ∧ po p = o
    · rw [if_pos c2, if_pos ⟨by omega, c2.2⟩]
    · rw [if_neg c2, if_neg (fun z => c2 ⟨by omega, z.2⟩)]
theorem S_frees_i (h : mok st mo) {n : Nat} {a : Value} {o : Int32} (hn : n ≤ 400) (hd : R.2.1 14 = nI n) : ∀ (m p : Nat), p + m = n → AW X d 93 28 [.ref mo, a, .int o, .int (nI p)] [] (mw st mo (mA R 11 (gon (R.1 12) (R.1 11) o p))) P = AW X d 93 68 [.ref mo, a, .int o, .int (nI n)] [] (mw st mo (mA R 11 (gon (R.1 12) (R.1 11) o n))) P := by
  intro m
  induction m with
  | zero =>
    intro p hp
    have e : p = n := by omega
    subst e
    rw [E_X6_frees_28]
    simp only [E_X6_frees_0, E_X6_frees_0n, E_X6_frees_1, E_X6_frees_4, E_X6_frees_5, E_X6_frees_6, E_X6_frees_7, E_X6_frees_7n, E_X6_frees_8, E_X6_frees_11, E_X6_frees_12, E_X6_frees_13, E_X6_frees_15, E_X6_frees_18, E_X6_frees_18n, E_X6_frees_19, E_X6_frees_20, E_X6_frees_23, E_X6_frees_26, E_X6_frees_27, E_X6_frees_29, E_X6_frees_29n, E_X6_frees_30, E_X6_frees_33, E_X6_frees_36, E_X6_frees_36n, E_X6_frees_37, E_X6_frees_40, E_X6_frees_41, E_X6_frees_41n, E_X6_frees_42, E_X6_frees_45, E_X6_frees_46, E_X6_frees_47, E_X6_frees_48, E_X6_frees_51, E_X6_frees_52, E_X6_frees_55, E_X6_frees_55n, E_X6_frees_56, E_X6_frees_59, E_X6_frees_60, E_X6_frees_61, E_X6_frees_62, E_X6_frees_65, E_X6_frees_69, E_X6_frees_72, E_X6_frees_73, E_X6_frees_74, E_X6_frees_75, E_X6_frees_75n, E_X6_frees_76, E_X6_frees_79, E_X6_frees_80, E_X6_frees_81, E_X6_frees_82, E_X6_frees_85, zwith_some, zwith_none, zif_true, zaft_inl, Option.toList_some, Option.toList_none, List.cons_append, List.nil_append, zc1_int, zc1_ref, zc1_null, zc1_float, List.length_nil, List.length_cons, Nat.reduceAdd, Nat.reduceLeDiff, Nat.zero_add, z1and, z0and, zl00, zl01, zl02, zl03, ze00, ze10, ze20, ze30, if_true, if_false, mget h, mA1, mA2, mF1, mF2, mF3, mC1, mC2, mC3, mA_same, mA_comm, mFA, mCA, mCF, mCC, mF_same, mF_comm, Nat.reduceEqDiff, Nat.reduceLT, hd]
    rw [if_pos (nI_le (Nat.le_refl _) (by omega))]
  | succ m ih =>
    intro p hp
    have ih := ih (p + 1) (by omega)
    have hz := zix_nI (show p < 400 by omega) (by decide)
    have hlt : ¬ nI n ≤ nI p := nI_ge (by omega) (by omega)
    have hs := gon_s (po := R.1 12) (pk := R.1 11) (o := o) (k := p)
    rw [E_X6_frees_28]
    simp only [E_X6_frees_0, E_X6_frees_0n, E_X6_frees_1, E_X6_frees_4, E_X6_frees_5, E_X6_frees_6, E_X6_frees_7, E_X6_frees_7n, E_X6_frees_8, E_X6_frees_11, E_X6_frees_12, E_X6_frees_13, E_X6_frees_15, E_X6_frees_18, E_X6_frees_18n, E_X6_frees_19, E_X6_frees_20, E_X6_frees_23, E_X6_frees_26, E_X6_frees_27, E_X6_frees_29, E_X6_frees_29n, E_X6_frees_30, E_X6_frees_33, E_X6_frees_36, E_X6_frees_36n, E_X6_frees_37, E_X6_frees_40, E_X6_frees_41, E_X6_frees_41n, E_X6_frees_42, E_X6_frees_45, E_X6_frees_46, E_X6_frees_47, E_X6_frees_48, E_X6_frees_51, E_X6_frees_52, E_X6_frees_55, E_X6_frees_55n, E_X6_frees_56, E_X6_frees_59, E_X6_frees_60, E_X6_frees_61, E_X6_frees_62, E_X6_frees_65, E_X6_frees_69, E_X6_frees_72, E_X6_frees_73, E_X6_frees_74, E_X6_frees_75, E_X6_frees_75n, E_X6_frees_76, E_X6_frees_79, E_X6_frees_80, E_X6_frees_81, E_X6_frees_82, E_X6_frees_85, zwith_some, zwith_none, zif_true, zaft_inl, Option.toList_some, Option.toList_none, List.cons_append, List.nil_append, zc1_int, zc1_ref, zc1_null, zc1_float, List.length_nil, List.length_cons, Nat.reduceAdd, Nat.reduceLeDiff, Nat.zero_add, z1and, z0and, zl00, zl01, zl02, zl03, ze00, ze10, ze20, ze30, if_true, if_false, mget h, mrd h, mrI h, mst h, mA1, mA2, mF1, mF2, mF3, mC1, mC2, mC3, mA_same, mA_comm, mFA, mCA, mCF, mCC, mF_same, mF_comm, Nat.reduceEqDiff, Nat.reduceLT, hz, hd, hlt, nI_1, if_true, if_false]
    by_cases c : R.1 12 p = o
    · simp only [c, not_true, if_true, if_false] at hs ⊢
      rw [hs]
      exact ih
    · simp only [c, not_false_iff, if_true, if_false] at hs ⊢
      rw [hs]
      exact ih
theorem S_frees_l (h : mok st mo) {n : Nat} {a : Value} (hn : n ≤ 400) (hd : R.2.1 14 = nI n) (ho : ∀ p, p < n → R.1 12 p < 0 ∨ ∃ q, q < p ∧ R.1 12 p = nI q) : ∀ (f : Nat) (pk : Nat → Int32) (o : Int32) (l3 : Value), (o < 0 ∨ ∃ q, q < f ∧ q < n ∧ o = nI q) → AW X (d + 1) 93 14 [.ref mo, a, .int o, l3] [] (mw st mo (mA R 11 pk)) P = P (.inl none) (mw st mo (mA R 11 (clb n (R.1 12) f pk o))) := by
  intro f
  induction f with
  | zero =>
    intro pk o l3 hq
    rcases hq with hq | ⟨q, hq, _⟩
    · rw [E_X6_frees_14]
      simp only [E_X6_frees_0, E_X6_frees_0n, E_X6_frees_1, E_X6_frees_4, E_X6_frees_5, E_X6_frees_6, E_X6_frees_7, E_X6_frees_7n, E_X6_frees_8, E_X6_frees_11, E_X6_frees_12, E_X6_frees_13, E_X6_frees_15, E_X6_frees_18, E_X6_frees_18n, E_X6_frees_19, E_X6_frees_20, E_X6_frees_23, E_X6_frees_26, E_X6_frees_27, E_X6_frees_29, E_X6_frees_29n, E_X6_frees_30, E_X6_frees_33, E_X6_frees_36, E_X6_frees_36n, E_X6_frees_37, E_X6_frees_40, E_X6_frees_41, E_X6_frees_41n, E_X6_frees_42, E_X6_frees_45, E_X6_frees_46, E_X6_frees_47, E_X6_frees_48, E_X6_frees_51, E_X6_frees_52, E_X6_frees_55, E_X6_frees_55n, E_X6_frees_56, E_X6_frees_59, E_X6_frees_60, E_X6_frees_61, E_X6_frees_62, E_X6_frees_65, E_X6_frees_69, E_X6_frees_72, E_X6_frees_73, E_X6_frees_74, E_X6_frees_75, E_X6_frees_75n, E_X6_frees_76, E_X6_frees_79, E_X6_frees_80, E_X6_frees_81, E_X6_frees_82, E_X6_frees_85, zwith_some, zwith_none, zif_true, zaft_inl, Option.toList_some, Option.toList_none, List.cons_append, List.nil_append, zc1_int, zc1_ref, zc1_null, zc1_float, List.length_nil, List.length_cons, Nat.reduceAdd, Nat.reduceLeDiff, Nat.zero_add, z1and, z0and, zl00, zl01, zl02, zl03, ze00, ze10, ze20, ze30, if_true, if_false, hq]
      rfl
    · exact absurd hq (Nat.not_lt_zero q)
  | succ f ih =>
    intro pk o l3 hq
    have haf := fun {d} {P} => S_allFree (X := X) (d := d) (P := P) (R := mA R 11 pk) (o := o) h hn hd
    simp only [mA1, mA2, mF1, mF2, mF3, mC1, mC2, mC3, mA_same, mA_comm, mFA, mCA, mCF, mCC, mF_same, mF_comm, Nat.reduceEqDiff, Nat.reduceLT, if_true, if_false] at haf
    unfold clb
    rw [E_X6_frees_14]
    by_cases c : o < 0
    · simp only [E_X6_frees_0, E_X6_frees_0n, E_X6_frees_1, E_X6_frees_4, E_X6_frees_5, E_X6_frees_6, E_X6_frees_7, E_X6_frees_7n, E_X6_frees_8, E_X6_frees_11, E_X6_frees_12, E_X6_frees_13, E_X6_frees_15, E_X6_frees_18, E_X6_frees_18n, E_X6_frees_19, E_X6_frees_20, E_X6_frees_23, E_X6_frees_26, E_X6_frees_27, E_X6_frees_29, E_X6_frees_29n, E_X6_frees_30, E_X6_frees_33, E_X6_frees_36, E_X6_frees_36n, E_X6_frees_37, E_X6_frees_40, E_X6_frees_41, E_X6_frees_41n, E_X6_frees_42, E_X6_frees_45, E_X6_frees_46, E_X6_frees_47, E_X6_frees_48, E_X6_frees_51, E_X6_frees_52, E_X6_frees_55, E_X6_frees_55n, E_X6_frees_56, E_X6_frees_59, E_X6_frees_60, E_X6_frees_61, E_X6_frees_62, E_X6_frees_65, E_X6_frees_69, E_X6_frees_72, E_X6_frees_73, E_X6_frees_74, E_X6_frees_75, E_X6_frees_75n, E_X6_frees_76, E_X6_frees_79, E_X6_frees_80, E_X6_frees_81, E_X6_frees_82, E_X6_frees_85, zwith_some, zwith_none, zif_true, zaft_inl, Option.toList_some, Option.toList_none, List.cons_append, List.nil_append, zc1_int, zc1_ref, zc1_null, zc1_float, List.length_nil, List.length_cons, Nat.reduceAdd, Nat.reduceLeDiff, Nat.zero_add, z1and, z0and, zl00, zl01, zl02, zl03, ze00, ze10, ze20, ze30, if_true, if_false, c, not_true, false_and]
    · rcases hq with hq | ⟨q, hq, hqn, rfl⟩
      · exact absurd hq c
      · have ec : (nI q).toNatClampNeg = q := nI_clamp (by omega)
        have hz := zix_nI (show q < 400 by omega) (by decide)
        simp only [E_X6_frees_0, E_X6_frees_0n, E_X6_frees_1, E_X6_frees_4, E_X6_frees_5, E_X6_frees_6, E_X6_frees_7, E_X6_frees_7n, E_X6_frees_8, E_X6_frees_11, E_X6_frees_12, E_X6_frees_13, E_X6_frees_15, E_X6_frees_18, E_X6_frees_18n, E_X6_frees_19, E_X6_frees_20, E_X6_frees_23, E_X6_frees_26, E_X6_frees_27, E_X6_frees_29, E_X6_frees_29n, E_X6_frees_30, E_X6_frees_33, E_X6_frees_36, E_X6_frees_36n, E_X6_frees_37, E_X6_frees_40, E_X6_frees_41, E_X6_frees_41n, E_X6_frees_42, E_X6_frees_45, E_X6_frees_46, E_X6_frees_47, E_X6_frees_48, E_X6_frees_51, E_X6_frees_52, E_X6_frees_55, E_X6_frees_55n, E_X6_frees_56, E_X6_frees_59, E_X6_frees_60, E_X6_frees_61, E_X6_frees_62, E_X6_frees_65, E_X6_frees_69, E_X6_frees_72, E_X6_frees_73, E_X6_frees_74, E_X6_frees_75, E_X6_frees_75n, E_X6_frees_76, E_X6_frees_79, E_X6_frees_80, E_X6_frees_81, E_X6_frees_82, E_X6_frees_85, zwith_some, zwith_none, zif_true, zaft_inl, Option.toList_some, Option.toList_none, List.cons_append, List.nil_append, zc1_int, zc1_ref, zc1_null, zc1_float, List.length_nil, List.length_cons, Nat.reduceAdd, Nat.reduceLeDiff, Nat.zero_add, z1and, z0and, zl00, zl01, zl02, zl03, ze00, ze10, ze20, ze30, if_true, if_false, c, not_false_iff, true_and, mis h, haf, bN_eq0, ec]
        cases e : afr (R.1 12) pk (nI q) n with
        | false => simp only [if_true, Bool.false_eq_true, if_false]
        | true =>
          have hi := S_frees_i (X := X) (d := d + 1) (P := P) (R := mA R 11 pk) (a := a) (o := nI q) h hn hd n 0 (by omega)
          simp only [mA1, mA2, mF1, mF2, mF3, mC1, mC2, mC3, mA_same, mA_comm, mFA, mCA, mCF, mCC, mF_same, mF_comm, Nat.reduceEqDiff, Nat.reduceLT, gon_0, if_true, if_false] at hi
          simp only [Bool.true_eq_false, if_false, if_true]
          rw [show (0 : Int32) = nI 0 from rfl, hi]
          simp only [E_X6_frees_0, E_X6_frees_0n, E_X6_frees_1, E_X6_frees_4, E_X6_frees_5, E_X6_frees_6, E_X6_frees_7, E_X6_frees_7n, E_X6_frees_8, E_X6_frees_11, E_X6_frees_12, E_X6_frees_13, E_X6_frees_15, E_X6_frees_18, E_X6_frees_18n, E_X6_frees_19, E_X6_frees_20, E_X6_frees_23, E_X6_frees_26, E_X6_frees_27, E_X6_frees_29, E_X6_frees_29n, E_X6_frees_30, E_X6_frees_33, E_X6_frees_36, E_X6_frees_36n, E_X6_frees_37, E_X6_frees_40, E_X6_frees_41, E_X6_frees_41n, E_X6_frees_42, E_X6_frees_45, E_X6_frees_46, E_X6_frees_47, E_X6_frees_48, E_X6_frees_51, E_X6_frees_52, E_X6_frees_55, E_X6_frees_55n, E_X6_frees_56, E_X6_frees_59, E_X6_frees_60, E_X6_frees_61, E_X6_frees_62, E_X6_frees_65, E_X6_frees_68, E_X6_frees_68n, E_X6_frees_69, E_X6_frees_72, E_X6_frees_73, E_X6_frees_74, E_X6_frees_75, E_X6_frees_75n, E_X6_frees_76, E_X6_frees_79, E_X6_frees_80, E_X6_frees_81, E_X6_frees_82, E_X6_frees_85, zwith_some, zwith_none, zif_true, zaft_inl, Option.toList_some, Option.toList_none, List.cons_append, List.nil_append, zc1_int, zc1_ref, zc1_null, zc1_float, List.length_nil, List.length_cons, Nat.reduceAdd, Nat.reduceLeDiff, Nat.zero_add, z1and, z0and, zl00, zl01, zl02, zl03, ze00, ze10, ze20, ze30, if_true, if_false, mget h, mrd h, mrI h, mst h, mA1, mA2, mF1, mF2, mF3, mC1, mC2, mC3, mA_same, mA_comm, mFA, mCA, mCF, mCC, mF_same, mF_comm, Nat.reduceEqDiff, Nat.reduceLT, hz, if_true, if_false]
          refine ih _ _ _ ?_
          rcases ho q hqn with z | ⟨r, hr, z⟩
          · exact .inl z
          · exact .inr ⟨r, by omega, by omega, z⟩
/-- the states when piece p is freed -/
def fre (n : Nat) (po pk : Nat → Int32) (p : Nat) : Nat → Int32 := clb n po n (upd pk p 0) (po p)
theorem S_frees (h : mok st mo) {n p : Nat} (hn : n ≤ 400) (hd : R.2.1 14 = nI n) (ho : ∀ p, p < n → R.1 12 p < 0 ∨ ∃ q, q < p ∧ R.1 12 p = nI q) (hp : p < n) : AC X (d + 2) 93 [.ref mo, .int (nI p)] (mw st mo R) P = P (.inl none) (mw st mo (mA R 11 (fre n (R.1 12) (R.1 11) p))) := by
  have hz := zix_nI (show p < 400 by omega) (by decide)
  rw [A_X6_frees]
  simp only [E_X6_frees_0, E_X6_frees_0n, E_X6_frees_1, E_X6_frees_4, E_X6_frees_5, E_X6_frees_6, E_X6_frees_7, E_X6_frees_7n, E_X6_frees_8, E_X6_frees_11, E_X6_frees_12, E_X6_frees_13, E_X6_frees_15, E_X6_frees_18, E_X6_frees_18n, E_X6_frees_19, E_X6_frees_20, E_X6_frees_23, E_X6_frees_26, E_X6_frees_27, E_X6_frees_29, E_X6_frees_29n, E_X6_frees_30, E_X6_frees_33, E_X6_frees_36, E_X6_frees_36n, E_X6_frees_37, E_X6_frees_40, E_X6_frees_41, E_X6_frees_41n, E_X6_frees_42, E_X6_frees_45, E_X6_frees_46, E_X6_frees_47, E_X6_frees_48, E_X6_frees_51, E_X6_frees_52, E_X6_frees_55, E_X6_frees_55n, E_X6_frees_56, E_X6_frees_59, E_X6_frees_60, E_X6_frees_61, E_X6_frees_62, E_X6_frees_65, E_X6_frees_69, E_X6_frees_72, E_X6_frees_73, E_X6_frees_74, E_X6_frees_75, E_X6_frees_75n, E_X6_frees_76, E_X6_frees_79, E_X6_frees_80, E_X6_frees_81, E_X6_frees_82, E_X6_frees_85, zwith_some, zwith_none, zif_true, zaft_inl, Option.toList_some, Option.toList_none, List.cons_append, List.nil_append, zc1_int, zc1_ref, zc1_null, zc1_float, List.length_nil, List.length_cons, Nat.reduceAdd, Nat.reduceLeDiff, Nat.zero_add, z1and, z0and, zl00, zl01, zl02, zl03, ze00, ze10, ze20, ze30, if_true, if_false, mget h, mrd h, mrI h, mst h, mA1, mA2, mF1, mF2, mF3, mC1, mC2, mC3, mA_same, mA_comm, mFA, mCA, mCF, mCC, mF_same, mF_comm, Nat.reduceEqDiff, Nat.reduceLT, hz, if_true, if_false]
  rw [S_frees_l h hn hd ho n]
  · rfl
  · rcases ho p hp with z | ⟨r, hr, z⟩
    · exact .inl z
    · exact .inr ⟨r, by omega, by omega, z⟩
/-- the states when the pieces f 0 .. f (c-1) are freed, the last one first -/
def tks (n : Nat) (po : Nat → Int32) (f : Nat → Nat) : Nat → (Nat → Int32) → Nat → Int32
  | 0, pk => pk
  | c + 1, pk => tks n po f c (fre n po pk (f c))
theorem l6 : (6 : Int32) = nI 6 := rfl
theorem nI_s1 (n : Nat) : nI (n + 1) + (-1) = nI n := pk_m1 n
theorem lm1 : ((-1 : Int32) < 0) = True := eq_true (by decide)
theorem S_takesOff_l (h : mok st mo) {n j : Nat} {f : Nat → Nat} {a : Value} (hj : j < 30) (hn : n ≤ 400) (hd : R.2.1 14 = nI n) (ho : ∀ p, p < n → R.1 12 p < 0 ∨ ∃ q, q < p ∧ R.1 12 p = nI q) : ∀ (c : Nat) (pk : Nat → Int32), c ≤ 6 → (∀ k, k < c → R.1 17 (6 * j + k) = nI (f k) ∧ f k < n) → AW X (d + 2) 95 4 [.ref mo, .int (nI j), a, .int (nI c - 1)] [] (mw st mo (mA R 11 pk)) P = P (.inl none) (mw st mo (mA (mA R 11 (tks n (R.1 12) f c pk)) 15 (upd (R.1 15) j 0))) := by
  intro c
  have hzj := zix_nI (show j < 30 by omega) (by decide)
  induction c with
  | zero =>
    intro pk hc hf
    rw [E_X6_takesOff_4]
    simp only [E_X6_takesOff_0, E_X6_takesOff_1, E_X6_takesOff_2, E_X6_takesOff_3, E_X6_takesOff_5, E_X6_takesOff_8, E_X6_takesOff_8n, E_X6_takesOff_9, E_X6_takesOff_9n, E_X6_takesOff_10, E_X6_takesOff_13, E_X6_takesOff_15, E_X6_takesOff_16, E_X6_takesOff_17, E_X6_takesOff_18, E_X6_takesOff_19, E_X6_takesOff_20, E_X6_takesOff_23, E_X6_takesOff_26, E_X6_takesOff_29, E_X6_takesOff_29n, E_X6_takesOff_30, E_X6_takesOff_33, E_X6_takesOff_34, E_X6_takesOff_35, E_X6_takesOff_36, zwith_some, zwith_none, zif_true, zaft_inl, Option.toList_some, Option.toList_none, List.cons_append, List.nil_append, zc1_int, zc1_ref, zc1_null, zc1_float, List.length_nil, List.length_cons, Nat.reduceAdd, Nat.reduceLeDiff, Nat.zero_add, z1and, z0and, zl00, zl01, zl02, zl03, ze00, ze10, ze20, ze30, if_true, if_false, show nI 0 - 1 = -1 from rfl, lm1, mget h, mrI h, mst h, mA1, mA2, mF1, mF2, mF3, mC1, mC2, mC3, mA_same, mA_comm, mFA, mCA, mCF, mCC, mF_same, mF_comm, Nat.reduceEqDiff, Nat.reduceLT, hzj, if_true, if_false]
    rfl
  | succ c ih =>
    intro pk hc hf
    obtain ⟨hf1, hf2⟩ := hf c (by omega)
    have hz := zix_nI (show 6 * j + c < 180 by omega) (by decide)
    have hfr := fun {d} {P} => S_frees (X := X) (d := d) (P := P) (R := mA R 11 pk) h hn hd ho hf2
    simp only [mA1, mA2, mF1, mF2, mF3, mC1, mC2, mC3, mA_same, mA_comm, mFA, mCA, mCF, mCC, mF_same, mF_comm, Nat.reduceEqDiff, Nat.reduceLT, if_true, if_false] at hfr
    have hnn : ¬ nI c < 0 := nI_pos (by omega)
    rw [E_X6_takesOff_4]
    simp only [E_X6_takesOff_0, E_X6_takesOff_1, E_X6_takesOff_2, E_X6_takesOff_3, E_X6_takesOff_5, E_X6_takesOff_8, E_X6_takesOff_8n, E_X6_takesOff_9, E_X6_takesOff_9n, E_X6_takesOff_10, E_X6_takesOff_13, E_X6_takesOff_15, E_X6_takesOff_16, E_X6_takesOff_17, E_X6_takesOff_18, E_X6_takesOff_19, E_X6_takesOff_20, E_X6_takesOff_23, E_X6_takesOff_26, E_X6_takesOff_29, E_X6_takesOff_29n, E_X6_takesOff_30, E_X6_takesOff_33, E_X6_takesOff_34, E_X6_takesOff_35, E_X6_takesOff_36, zwith_some, zwith_none, zif_true, zaft_inl, Option.toList_some, Option.toList_none, List.cons_append, List.nil_append, zc1_int, zc1_ref, zc1_null, zc1_float, List.length_nil, List.length_cons, Nat.reduceAdd, Nat.reduceLeDiff, Nat.zero_add, z1and, z0and, zl00, zl01, zl02, zl03, ze00, ze10, ze20, ze30, if_true, if_false, nI_p1, hnn, mget h, mrd h, mA1, mA2, mF1, mF2, mF3, mC1, mC2, mC3, mA_same, mA_comm, mFA, mCA, mCF, mCC, mF_same, mF_comm, Nat.reduceEqDiff, Nat.reduceLT, l6, pk_mul, nI_add, hz, if_true, if_false, hf1, mis h, hfr]
    have e : nI c + (-1) = nI c - 1 := by rw [Int32.sub_eq_add_neg]
    rw [e]
    exact ih _ (by omega) fun k hk => hf k (by omega)
theorem S_takesOff (h : mok st mo) {n j c : Nat} {f : Nat → Nat} (hj : j < 30) (hn : n ≤ 400) (hd : R.2.1 14 = nI n) (ho : ∀ p, p < n → R.1 12 p < 0 ∨ ∃ q, q < p ∧ R.1 12 p = nI q) (hc : c ≤ 6) (hf : ∀ k, k < c → R.1 17 (6 * j + k) = nI (f k) ∧ f k < n) : AC X (d + 3) 95 [.ref mo, .int (nI j), .int (nI c)] (mw st mo R) P = P (.inl none) (mw st mo (mA (mA R 11 (tks n (R.1 12) f c (R.1 11))) 15 (upd (R.1 15) j 0))) := by
  rw [A_X6_takesOff]
  simp only [E_X6_takesOff_0, E_X6_takesOff_1, E_X6_takesOff_2, E_X6_takesOff_3, E_X6_takesOff_5, E_X6_takesOff_8, E_X6_takesOff_8n, E_X6_takesOff_9, E_X6_takesOff_9n, E_X6_takesOff_10, E_X6_takesOff_13, E_X6_takesOff_15, E_X6_takesOff_16, E_X6_takesOff_17, E_X6_takesOff_18, E_X6_takesOff_19, E_X6_takesOff_20, E_X6_takesOff_23, E_X6_takesOff_26, E_X6_takesOff_29, E_X6_takesOff_29n, E_X6_takesOff_30, E_X6_takesOff_33, E_X6_takesOff_34, E_X6_takesOff_35, E_X6_takesOff_36, zwith_some, zwith_none, zif_true, zaft_inl, Option.toList_some, Option.toList_none, List.cons_append, List.nil_append, zc1_int, zc1_ref, zc1_null, zc1_float, List.length_nil, List.length_cons, Nat.reduceAdd, Nat.reduceLeDiff, Nat.zero_add, z1and, z0and, zl00, zl01, zl02, zl03, ze00, ze10, ze20, ze30, if_true, if_false]
  have e := S_takesOff_l (X := X) (d := d) (P := P) (a := .int (nI c)) h hj hn hd ho c (R.1 11) hc hf
  rw [mA_id] at e
  exact e
end R9
