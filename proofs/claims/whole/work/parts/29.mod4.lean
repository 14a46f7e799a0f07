/-! the reference's mends -/
section R4
variable {X : ZX} {d : Nat} {st : ZS} {mo : Nat} {R : MR} {P : ZO → ZS → Prop} {x y z : Int32}
theorem S_mends_i (h : mok st mo) {i k e : Nat} (hi : i < 12) (he : e < 24) (hk : k ≤ e) (hd : R.1 1 i = nI e) : ∀ (m b : Nat), b + m = 24 * i + e → 24 * i + k ≤ b → AW X d 80 38 [.ref mo, .int (nI i), .int (nI k), .int (nI b)] [] (mw st mo (mA (mA R 3 (shf (R.1 3) (24 * i + k) b)) 4 (shf (R.1 4) (24 * i + k) b))) P = AW X d 80 2 [.ref mo, .int (nI i), .int (nI k), .int (nI (24 * i + e))] [] (mw st mo (mA (mA R 3 (shf (R.1 3) (24 * i + k) (24 * i + e))) 4 (shf (R.1 4) (24 * i + k) (24 * i + e)))) P := by
  intro m
  induction m with
  | zero =>
    intro b hb hkb
    have eb : b = 24 * i + e := by omega
    subst eb
    rw [E_X6_mends_38]
    have hz := zix_nI (show i < 12 by omega) (by decide)
    simp only [E_X6_mends_0, E_X6_mends_1, E_X6_mends_3, E_X6_mends_3n, E_X6_mends_4, E_X6_mends_7, E_X6_mends_8, E_X6_mends_9, E_X6_mends_12, E_X6_mends_12n, E_X6_mends_13, E_X6_mends_14, E_X6_mends_15, E_X6_mends_18, E_X6_mends_21, E_X6_mends_21n, E_X6_mends_22, E_X6_mends_25, E_X6_mends_26, E_X6_mends_26i, E_X6_mends_26j, E_X6_mends_27, E_X6_mends_28, E_X6_mends_29, E_X6_mends_30, E_X6_mends_31, E_X6_mends_33, E_X6_mends_34, E_X6_mends_35, E_X6_mends_36, E_X6_mends_37, E_X6_mends_39, E_X6_mends_41, E_X6_mends_42, E_X6_mends_43, E_X6_mends_43n, E_X6_mends_44, E_X6_mends_47, E_X6_mends_48, E_X6_mends_49, E_X6_mends_50, E_X6_mends_53, E_X6_mends_53n, E_X6_mends_54, E_X6_mends_57, E_X6_mends_58, E_X6_mends_58n, E_X6_mends_59, E_X6_mends_62, E_X6_mends_63, E_X6_mends_64, E_X6_mends_65, E_X6_mends_66, E_X6_mends_67, E_X6_mends_67n, E_X6_mends_68, E_X6_mends_71, E_X6_mends_72, E_X6_mends_72n, E_X6_mends_73, E_X6_mends_76, E_X6_mends_77, E_X6_mends_78, E_X6_mends_79, E_X6_mends_80, E_X6_mends_81, E_X6_mends_84, E_X6_mends_87, E_X6_mends_90, E_X6_mends_93, E_X6_mends_96, zwith_some, zwith_none, zif_true, zaft_inl, Option.toList_some, Option.toList_none, List.cons_append, List.nil_append, zc1_int, zc1_ref, zc1_null, zc1_float, List.length_nil, List.length_cons, Nat.reduceAdd, Nat.reduceLeDiff, Nat.zero_add, z1and, z0and, zl00, zl01, zl02, zl03, ze00, ze10, ze20, ze30, if_true, if_false, mA1, mA2, mF1, mF2, mF3, mC1, mC2, mC3, mA_same, mA_comm, mFA, mCA, mCF, mCC, mF_same, mF_comm, Nat.reduceEqDiff, Nat.reduceLT, mget h, mrd h, hz, hd, l24, pk_mul, nI_add]
    rw [if_pos (nI_le (Nat.le_refl _) (by omega))]
  | succ m ih =>
    intro b hb hkb
    have ih := ih (b + 1) (by omega) (by omega)
    rw [E_X6_mends_38]
    have hz := zix_nI (show i < 12 by omega) (by decide)
    have hz2 := zix_nI (show b < 288 by omega) (by decide)
    have hz3 := zix_nI (show b + 1 < 288 by omega) (by decide)
    have hlt : ¬ nI (24 * i + e) ≤ nI b := nI_ge (by omega) (by omega)
    simp only [E_X6_mends_0, E_X6_mends_1, E_X6_mends_3, E_X6_mends_3n, E_X6_mends_4, E_X6_mends_7, E_X6_mends_8, E_X6_mends_9, E_X6_mends_12, E_X6_mends_12n, E_X6_mends_13, E_X6_mends_14, E_X6_mends_15, E_X6_mends_18, E_X6_mends_21, E_X6_mends_21n, E_X6_mends_22, E_X6_mends_25, E_X6_mends_26, E_X6_mends_26i, E_X6_mends_26j, E_X6_mends_27, E_X6_mends_28, E_X6_mends_29, E_X6_mends_30, E_X6_mends_31, E_X6_mends_33, E_X6_mends_34, E_X6_mends_35, E_X6_mends_36, E_X6_mends_37, E_X6_mends_39, E_X6_mends_41, E_X6_mends_42, E_X6_mends_43, E_X6_mends_43n, E_X6_mends_44, E_X6_mends_47, E_X6_mends_48, E_X6_mends_49, E_X6_mends_50, E_X6_mends_53, E_X6_mends_53n, E_X6_mends_54, E_X6_mends_57, E_X6_mends_58, E_X6_mends_58n, E_X6_mends_59, E_X6_mends_62, E_X6_mends_63, E_X6_mends_64, E_X6_mends_65, E_X6_mends_66, E_X6_mends_67, E_X6_mends_67n, E_X6_mends_68, E_X6_mends_71, E_X6_mends_72, E_X6_mends_72n, E_X6_mends_73, E_X6_mends_76, E_X6_mends_77, E_X6_mends_78, E_X6_mends_79, E_X6_mends_80, E_X6_mends_81, E_X6_mends_84, E_X6_mends_87, E_X6_mends_90, E_X6_mends_93, E_X6_mends_96, zwith_some, zwith_none, zif_true, zaft_inl, Option.toList_some, Option.toList_none, List.cons_append, List.nil_append, zc1_int, zc1_ref, zc1_null, zc1_float, List.length_nil, List.length_cons, Nat.reduceAdd, Nat.reduceLeDiff, Nat.zero_add, z1and, z0and, zl00, zl01, zl02, zl03, ze00, ze10, ze20, ze30, if_true, if_false, mA1, mA2, mF1, mF2, mF3, mC1, mC2, mC3, mA_same, mA_comm, mFA, mCA, mCF, mCC, mF_same, mF_comm, Nat.reduceEqDiff, Nat.reduceLT, mget h, mrd h, mrI h, mst h, hz, hd, l24, pk_mul, nI_add, hlt, hz2, nI_1, hz3, shf_a, shf_s hkb]
    exact ih
/-- strokes that are doubled go out, from k on; m: how many are to be looked at -/
def mnd (i : Nat) : Nat → Nat → MR → MR
  | 0, _, R => R
  | m + 1, k, R => if dqs R i k k = true then mnd i m k (mA (mA (mA R 1 (upd (R.1 1) i (nI (k + m)))) 3 (shf (R.1 3) (24 * i + k) (24 * i + (k + m)))) 4 (shf (R.1 4) (24 * i + k) (24 * i + (k + m)))) else mnd i m (k + 1) R
theorem S_mends_l (h : mok st mo) {i : Nat} (hi : i < 12) : ∀ (m k : Nat) (R : MR) (l3 : Value), k + m ≤ 24 → R.1 1 i = nI (k + m) → AW X (d + 1) 80 2 [.ref mo, .int (nI i), .int (nI k), l3] [] (mw st mo R) P = P (.inl none) (mw st mo (mnd i m k R)) := by
  intro m
  induction m with
  | zero =>
    intro k R l3 hk hd
    rw [E_X6_mends_2]
    have hz := zix_nI (show i < 12 by omega) (by decide)
    simp only [E_X6_mends_0, E_X6_mends_1, E_X6_mends_3, E_X6_mends_3n, E_X6_mends_4, E_X6_mends_7, E_X6_mends_8, E_X6_mends_9, E_X6_mends_12, E_X6_mends_12n, E_X6_mends_13, E_X6_mends_14, E_X6_mends_15, E_X6_mends_18, E_X6_mends_21, E_X6_mends_21n, E_X6_mends_22, E_X6_mends_25, E_X6_mends_26, E_X6_mends_26i, E_X6_mends_26j, E_X6_mends_27, E_X6_mends_28, E_X6_mends_29, E_X6_mends_30, E_X6_mends_31, E_X6_mends_33, E_X6_mends_34, E_X6_mends_35, E_X6_mends_36, E_X6_mends_37, E_X6_mends_39, E_X6_mends_41, E_X6_mends_42, E_X6_mends_43, E_X6_mends_43n, E_X6_mends_44, E_X6_mends_47, E_X6_mends_48, E_X6_mends_49, E_X6_mends_50, E_X6_mends_53, E_X6_mends_53n, E_X6_mends_54, E_X6_mends_57, E_X6_mends_58, E_X6_mends_58n, E_X6_mends_59, E_X6_mends_62, E_X6_mends_63, E_X6_mends_64, E_X6_mends_65, E_X6_mends_66, E_X6_mends_67, E_X6_mends_67n, E_X6_mends_68, E_X6_mends_71, E_X6_mends_72, E_X6_mends_72n, E_X6_mends_73, E_X6_mends_76, E_X6_mends_77, E_X6_mends_78, E_X6_mends_79, E_X6_mends_80, E_X6_mends_81, E_X6_mends_84, E_X6_mends_87, E_X6_mends_90, E_X6_mends_93, E_X6_mends_96, zwith_some, zwith_none, zif_true, zaft_inl, Option.toList_some, Option.toList_none, List.cons_append, List.nil_append, zc1_int, zc1_ref, zc1_null, zc1_float, List.length_nil, List.length_cons, Nat.reduceAdd, Nat.reduceLeDiff, Nat.zero_add, z1and, z0and, zl00, zl01, zl02, zl03, ze00, ze10, ze20, ze30, if_true, if_false, mA1, mA2, mF1, mF2, mF3, mC1, mC2, mC3, mA_same, mA_comm, mFA, mCA, mCF, mCC, mF_same, mF_comm, Nat.reduceEqDiff, Nat.reduceLT, mget h, mrd h, hz, hd]
    rw [if_pos (nI_le (by omega) (by omega))]
    rfl
  | succ m ih =>
    intro k R l3 hk hd
    rw [E_X6_mends_2]
    have hz := zix_nI (show i < 12 by omega) (by decide)
    have hlt : ¬ nI (k + (m + 1)) ≤ nI k := nI_ge (by omega) (by omega)
    have hdb := fun {d} {P} => S_isDoubled (X := X) (d := d) (P := P) (R := R) h hi (show k < 24 by omega)
    have hsub : nI (k + (m + 1)) - 1 = nI (k + m) := by
      rw [show (1 : Int32) = nI 1 from rfl, pk_sub (by omega), show k + (m + 1) - 1 = k + m by omega]
    simp only [E_X6_mends_0, E_X6_mends_1, E_X6_mends_3, E_X6_mends_3n, E_X6_mends_4, E_X6_mends_7, E_X6_mends_8, E_X6_mends_9, E_X6_mends_12, E_X6_mends_12n, E_X6_mends_13, E_X6_mends_14, E_X6_mends_15, E_X6_mends_18, E_X6_mends_21, E_X6_mends_21n, E_X6_mends_22, E_X6_mends_25, E_X6_mends_26, E_X6_mends_26i, E_X6_mends_26j, E_X6_mends_27, E_X6_mends_28, E_X6_mends_29, E_X6_mends_30, E_X6_mends_31, E_X6_mends_33, E_X6_mends_34, E_X6_mends_35, E_X6_mends_36, E_X6_mends_37, E_X6_mends_39, E_X6_mends_41, E_X6_mends_42, E_X6_mends_43, E_X6_mends_43n, E_X6_mends_44, E_X6_mends_47, E_X6_mends_48, E_X6_mends_49, E_X6_mends_50, E_X6_mends_53, E_X6_mends_53n, E_X6_mends_54, E_X6_mends_57, E_X6_mends_58, E_X6_mends_58n, E_X6_mends_59, E_X6_mends_62, E_X6_mends_63, E_X6_mends_64, E_X6_mends_65, E_X6_mends_66, E_X6_mends_67, E_X6_mends_67n, E_X6_mends_68, E_X6_mends_71, E_X6_mends_72, E_X6_mends_72n, E_X6_mends_73, E_X6_mends_76, E_X6_mends_77, E_X6_mends_78, E_X6_mends_79, E_X6_mends_80, E_X6_mends_81, E_X6_mends_84, E_X6_mends_87, E_X6_mends_90, E_X6_mends_93, E_X6_mends_96, zwith_some, zwith_none, zif_true, zaft_inl, Option.toList_some, Option.toList_none, List.cons_append, List.nil_append, zc1_int, zc1_ref, zc1_null, zc1_float, List.length_nil, List.length_cons, Nat.reduceAdd, Nat.reduceLeDiff, Nat.zero_add, z1and, z0and, zl00, zl01, zl02, zl03, ze00, ze10, ze20, ze30, if_true, if_false, mA1, mA2, mF1, mF2, mF3, mC1, mC2, mC3, mA_same, mA_comm, mFA, mCA, mCF, mCC, mF_same, mF_comm, Nat.reduceEqDiff, Nat.reduceLT, mget h, mrd h, mrI h, mst h, mis h, hz, hd, hlt, hdb, bN_eq0, hsub, l24, pk_mul, nI_add]
    unfold mnd
    cases hq : dqs R i k k with
    | false =>
      simp only [if_true, Bool.false_eq_true, if_false, nI_1]
      exact ih (k + 1) R _ (by omega) (by rw [hd, show k + 1 + m = k + (m + 1) by omega])
    | true =>
      simp only [Bool.true_eq_false, if_false, if_true]
      have hin := S_mends_i (X := X) (d := d + 1) (P := P) (R := mA R 1 (upd (R.1 1) i (nI (k + m)))) h (k := k) hi (show k + m < 24 by omega) (by omega) (by rw [mA1, if_pos rfl]; exact upd_s) m (24 * i + k) (by omega) (Nat.le_refl _)
      simp only [shf_0, mA_id] at hin
      simp only [mA1, mA2, mF1, mF2, mF3, mC1, mC2, mC3, mA_same, mA_comm, mFA, mCA, mCF, mCC, mF_same, mF_comm, Nat.reduceEqDiff, Nat.reduceLT] at hin
      rw [hin]
      exact ih k _ _ (by omega) (by simp only [mA1, mA2, mF1, mF2, mF3, mC1, mC2, mC3, mA_same, mA_comm, mFA, mCA, mCF, mCC, mF_same, mF_comm, Nat.reduceEqDiff, Nat.reduceLT, if_false, if_true, upd_s])
theorem S_mends (h : mok st mo) {i n : Nat} (hi : i < 12) (hn : n ≤ 24) (hd : R.1 1 i = nI n) : AC X (d + 2) 80 [.ref mo, .int (nI i)] (mw st mo R) P = P (.inl none) (mw st mo (mnd i n 0 R)) := by
  rw [A_X6_mends]
  simp only [E_X6_mends_0, E_X6_mends_1, E_X6_mends_3, E_X6_mends_3n, E_X6_mends_4, E_X6_mends_7, E_X6_mends_8, E_X6_mends_9, E_X6_mends_12, E_X6_mends_12n, E_X6_mends_13, E_X6_mends_14, E_X6_mends_15, E_X6_mends_18, E_X6_mends_21, E_X6_mends_21n, E_X6_mends_22, E_X6_mends_25, E_X6_mends_26, E_X6_mends_26i, E_X6_mends_26j, E_X6_mends_27, E_X6_mends_28, E_X6_mends_29, E_X6_mends_30, E_X6_mends_31, E_X6_mends_33, E_X6_mends_34, E_X6_mends_35, E_X6_mends_36, E_X6_mends_37, E_X6_mends_39, E_X6_mends_41, E_X6_mends_42, E_X6_mends_43, E_X6_mends_43n, E_X6_mends_44, E_X6_mends_47, E_X6_mends_48, E_X6_mends_49, E_X6_mends_50, E_X6_mends_53, E_X6_mends_53n, E_X6_mends_54, E_X6_mends_57, E_X6_mends_58, E_X6_mends_58n, E_X6_mends_59, E_X6_mends_62, E_X6_mends_63, E_X6_mends_64, E_X6_mends_65, E_X6_mends_66, E_X6_mends_67, E_X6_mends_67n, E_X6_mends_68, E_X6_mends_71, E_X6_mends_72, E_X6_mends_72n, E_X6_mends_73, E_X6_mends_76, E_X6_mends_77, E_X6_mends_78, E_X6_mends_79, E_X6_mends_80, E_X6_mends_81, E_X6_mends_84, E_X6_mends_87, E_X6_mends_90, E_X6_mends_93, E_X6_mends_96, zwith_some, zwith_none, zif_true, zaft_inl, Option.toList_some, Option.toList_none, List.cons_append, List.nil_append, zc1_int, zc1_ref, zc1_null, zc1_float, List.length_nil, List.length_cons, Nat.reduceAdd, Nat.reduceLeDiff, Nat.zero_add, z1and, z0and, zl00, zl01, zl02, zl03, ze00, ze10, ze20, ze30, if_true, if_false]
  exact S_mends_l h hi n 0 R _ (by omega) (by rw [hd, Nat.zero_add])
/-- fault: how many strokes there are at each point, stroke by stroke -/
def hsa (R : MR) (i : Nat) : Nat → Nat → Nat
  | 0 => fun _ => 0
  | j + 1 => fun q => hsa R i j q + (if R.1 3 (24 * i + j) = nI q then 1 else 0) + (if R.1 4 (24 * i + j) = nI q then 1 else 0)
/-- the least point below q that has some strokes, but not two -/
def flt (f : Nat → Nat) : Nat → Option Nat
  | 0 => none
  | q + 1 => match flt f q with
    | some p => some p
    | none => if f q ≠ 0 ∧ f q ≠ 2 then some q else none
end R4
