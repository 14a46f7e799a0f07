/-! the reference's fault -/
section R5
variable {X : ZX} {d : Nat} {st : ZS} {mo : Nat} {R : MR} {P : ZO → ZS → Prop} {x y z : Int32}
def hs0 (R : MR) (k : Nat) : Nat → Int32 := fun q => if q < k then 0 else R.1 5 q
def hs (R : MR) (i j : Nat) : Nat → Int32 := fun q => if q < 1024 then nI (hsa R i j q) else R.1 5 q
theorem hs0_s {R : MR} {k : Nat} : upd (hs0 R k) k 0 = hs0 R (k + 1) := by
  funext q
  unfold upd hs0
  by_cases c : q = k
  · rw [if_pos c, if_pos (by omega)]
  · rw [if_neg c]
    by_cases c2 : q < k
    · rw [if_pos c2, if_pos (by omega)]
    · rw [if_neg c2, if_neg (by omega)]
theorem hs0_z {R : MR} : hs0 R 0 = R.1 5 := by
  funext q
  unfold hs0
  rw [if_neg (Nat.not_lt_zero q)]
theorem hs0_e {R : MR} {i : Nat} : hs0 R 1024 = hs R i 0 := rfl
theorem hsa_le {R : MR} {i : Nat} (q : Nat) : ∀ j, hsa R i j q ≤ 2 * j := by
  intro j
  induction j with
  | zero => exact Nat.le_refl _
  | succ j ih =>
    show hsa R i j q + _ + _ ≤ _
    split <;> split <;> omega
theorem hs_s {R : MR} {i j a b : Nat} (ha : a < 1024) (hb : b < 1024) (h1 : R.1 3 (24 * i + j) = nI a) (h2 : R.1 4 (24 * i + j) = nI b) : upd (upd (hs R i j) a (hs R i j a + 1)) b (upd (hs R i j) a (hs R i j a + 1) b + 1) = hs R i (j + 1) := by
  funext q
  have e1 : ∀ q, q < 1024 → ((R.1 3 (24 * i + j) = nI q) ↔ a = q) := fun q hq => by rw [h1]; exact nI_eq (by omega) (by omega)
  have e2 : ∀ q, q < 1024 → ((R.1 4 (24 * i + j) = nI q) ↔ b = q) := fun q hq => by rw [h2]; exact nI_eq (by omega) (by omega)
  unfold upd hs
  by_cases c : q < 1024
  · simp only [if_pos c, if_pos ha, if_pos hb]
    show _ = nI (hsa R i j q + (if R.1 3 (24 * i + j) = nI q then 1 else 0) + (if R.1 4 (24 * i + j) = nI q then 1 else 0))
    by_cases c1 : q = b
    · subst c1
      rw [if_pos rfl, if_pos ((e2 q c).mpr rfl)]
      by_cases c2 : q = a
      · subst c2
        rw [if_pos rfl, if_pos ((e1 q c).mpr rfl), nI_1, nI_1]
      · rw [if_neg c2, if_neg (fun z => c2 ((e1 q c).mp z).symm), nI_1]
    · rw [if_neg c1, if_neg (fun z => c1 ((e2 q c).mp z).symm)]
      by_cases c2 : q = a
      · subst c2
        rw [if_pos rfl, if_pos ((e1 q c).mpr rfl), nI_1]
      · rw [if_neg c2, if_neg (fun z => c2 ((e1 q c).mp z).symm)]; rfl
  · rw [if_neg (by omega), if_neg (by omega), if_neg c, if_neg c]
theorem flt_keep {f : Nat → Nat} {k p : Nat} (h : flt f k = some p) : ∀ t, flt f (k + t) = some p := by
  intro t
  induction t with
  | zero => exact h
  | succ t ih =>
    show (match flt f (k + t) with
      | some p => some p
      | none => if f (k + t) ≠ 0 ∧ f (k + t) ≠ 2 then some (k + t) else none) = some p
    rw [ih]
theorem flt_one {f : Nat → Nat} {k : Nat} (h : flt f k = none) : flt f (k + 1) = if f k ≠ 0 ∧ f k ≠ 2 then some k else none := by
  show (match flt f k with
      | some p => some p
      | none => if f k ≠ 0 ∧ f k ≠ 2 then some k else none) = _
  rw [h]
theorem lK : (1024 : Int32) = nI 1024 := rfl
theorem S_fault_1 (h : mok st mo) {i : Nat} : ∀ (m k : Nat), k + m = 1024 → AW X d 81 2 [.ref mo, .int (nI i), .int (nI k)] [] (mw st mo (mA R 5 (hs0 R k))) P = AW X d 81 22 [.ref mo, .int (nI i), .int (nI 1024)] [] (mw st mo (mA R 5 (hs0 R 1024))) P := by
  intro m
  induction m with
  | zero =>
    intro k hk
    have e : k = 1024 := by omega
    subst e
    rw [E_X6_fault_2]
    simp only [E_X6_fault_0, E_X6_fault_1, E_X6_fault_3, E_X6_fault_6, E_X6_fault_9, E_X6_fault_9n, E_X6_fault_10, E_X6_fault_13, E_X6_fault_14, E_X6_fault_15, E_X6_fault_16, E_X6_fault_19, E_X6_fault_24, E_X6_fault_25, E_X6_fault_26, E_X6_fault_27, E_X6_fault_28, E_X6_fault_30, E_X6_fault_31, E_X6_fault_32, E_X6_fault_32n, E_X6_fault_33, E_X6_fault_36, E_X6_fault_37, E_X6_fault_38, E_X6_fault_39, E_X6_fault_42, E_X6_fault_42n, E_X6_fault_43, E_X6_fault_46, E_X6_fault_46n, E_X6_fault_47, E_X6_fault_50, E_X6_fault_51, E_X6_fault_52, E_X6_fault_52i, E_X6_fault_52j, E_X6_fault_53, E_X6_fault_54, E_X6_fault_55, E_X6_fault_56, E_X6_fault_57, E_X6_fault_57n, E_X6_fault_58, E_X6_fault_61, E_X6_fault_61n, E_X6_fault_62, E_X6_fault_65, E_X6_fault_66, E_X6_fault_67, E_X6_fault_67i, E_X6_fault_67j, E_X6_fault_68, E_X6_fault_69, E_X6_fault_70, E_X6_fault_71, E_X6_fault_72, E_X6_fault_75, E_X6_fault_78, E_X6_fault_79, E_X6_fault_80, E_X6_fault_81, E_X6_fault_84, E_X6_fault_87, E_X6_fault_87n, E_X6_fault_88, E_X6_fault_91, E_X6_fault_92, E_X6_fault_93, E_X6_fault_96, E_X6_fault_96n, E_X6_fault_97, E_X6_fault_100, E_X6_fault_101, E_X6_fault_102, E_X6_fault_103, E_X6_fault_106, E_X6_fault_107, E_X6_fault_108, E_X6_fault_111, E_X6_fault_114, E_X6_fault_114n, E_X6_fault_115, E_X6_fault_118, E_X6_fault_119, E_X6_fault_120, E_X6_fault_123, E_X6_fault_126, E_X6_fault_129, E_X6_fault_130, zwith_some, zwith_none, zif_true, zaft_inl, Option.toList_some, Option.toList_none, List.cons_append, List.nil_append, zc1_int, zc1_ref, zc1_null, zc1_float, List.length_nil, List.length_cons, Nat.reduceAdd, Nat.reduceLeDiff, Nat.zero_add, z1and, z0and, zl00, zl01, zl02, zl03, ze00, ze10, ze20, ze30, if_true, if_false, lK]
    rw [if_pos (nI_le (Nat.le_refl _) (by omega))]
  | succ m ih =>
    intro k hk
    have ih := ih (k + 1) (by omega)
    rw [E_X6_fault_2]
    have hz := zix_nI (show k < 1024 by omega) (by decide)
    have hlt : ¬ nI 1024 ≤ nI k := nI_ge (by omega) (by omega)
    simp only [E_X6_fault_0, E_X6_fault_1, E_X6_fault_3, E_X6_fault_6, E_X6_fault_9, E_X6_fault_9n, E_X6_fault_10, E_X6_fault_13, E_X6_fault_14, E_X6_fault_15, E_X6_fault_16, E_X6_fault_19, E_X6_fault_24, E_X6_fault_25, E_X6_fault_26, E_X6_fault_27, E_X6_fault_28, E_X6_fault_30, E_X6_fault_31, E_X6_fault_32, E_X6_fault_32n, E_X6_fault_33, E_X6_fault_36, E_X6_fault_37, E_X6_fault_38, E_X6_fault_39, E_X6_fault_42, E_X6_fault_42n, E_X6_fault_43, E_X6_fault_46, E_X6_fault_46n, E_X6_fault_47, E_X6_fault_50, E_X6_fault_51, E_X6_fault_52, E_X6_fault_52i, E_X6_fault_52j, E_X6_fault_53, E_X6_fault_54, E_X6_fault_55, E_X6_fault_56, E_X6_fault_57, E_X6_fault_57n, E_X6_fault_58, E_X6_fault_61, E_X6_fault_61n, E_X6_fault_62, E_X6_fault_65, E_X6_fault_66, E_X6_fault_67, E_X6_fault_67i, E_X6_fault_67j, E_X6_fault_68, E_X6_fault_69, E_X6_fault_70, E_X6_fault_71, E_X6_fault_72, E_X6_fault_75, E_X6_fault_78, E_X6_fault_79, E_X6_fault_80, E_X6_fault_81, E_X6_fault_84, E_X6_fault_87, E_X6_fault_87n, E_X6_fault_88, E_X6_fault_91, E_X6_fault_92, E_X6_fault_93, E_X6_fault_96, E_X6_fault_96n, E_X6_fault_97, E_X6_fault_100, E_X6_fault_101, E_X6_fault_102, E_X6_fault_103, E_X6_fault_106, E_X6_fault_107, E_X6_fault_108, E_X6_fault_111, E_X6_fault_114, E_X6_fault_114n, E_X6_fault_115, E_X6_fault_118, E_X6_fault_119, E_X6_fault_120, E_X6_fault_123, E_X6_fault_126, E_X6_fault_129, E_X6_fault_130, zwith_some, zwith_none, zif_true, zaft_inl, Option.toList_some, Option.toList_none, List.cons_append, List.nil_append, zc1_int, zc1_ref, zc1_null, zc1_float, List.length_nil, List.length_cons, Nat.reduceAdd, Nat.reduceLeDiff, Nat.zero_add, z1and, z0and, zl00, zl01, zl02, zl03, ze00, ze10, ze20, ze30, if_true, if_false, mA1, mA2, mF1, mF2, mF3, mC1, mC2, mC3, mA_same, mA_comm, mFA, mCA, mCF, mCC, mF_same, mF_comm, Nat.reduceEqDiff, Nat.reduceLT, lK, hlt, mget h, mrI h, mst h, hz, hs0_s, nI_1]
    exact ih
theorem S_fault_2 (h : mok st mo) {i n : Nat} (hi : i < 12) (hn : n ≤ 24) (hd : R.1 1 i = nI n) (hp : ∀ j, j < n → ∃ a b, a < 1024 ∧ b < 1024 ∧ R.1 3 (24 * i + j) = nI a ∧ R.1 4 (24 * i + j) = nI b) : ∀ (m j : Nat), j + m = n → AW X d 81 27 [.ref mo, .int (nI i), .int (nI (24 * i + j))] [] (mw st mo (mA R 5 (hs R i j))) P = AW X d 81 80 [.ref mo, .int (nI i), .int (nI 0)] [] (mw st mo (mA R 5 (hs R i n))) P := by
  intro m
  induction m with
  | zero =>
    intro j hj
    have e : j = n := by omega
    subst e
    rw [E_X6_fault_27]
    have hz := zix_nI (show i < 12 by omega) (by decide)
    simp only [E_X6_fault_0, E_X6_fault_1, E_X6_fault_2, E_X6_fault_3, E_X6_fault_6, E_X6_fault_9, E_X6_fault_9n, E_X6_fault_10, E_X6_fault_13, E_X6_fault_14, E_X6_fault_15, E_X6_fault_16, E_X6_fault_19, E_X6_fault_22, E_X6_fault_24, E_X6_fault_25, E_X6_fault_26, E_X6_fault_28, E_X6_fault_30, E_X6_fault_31, E_X6_fault_32, E_X6_fault_32n, E_X6_fault_33, E_X6_fault_36, E_X6_fault_37, E_X6_fault_38, E_X6_fault_39, E_X6_fault_42, E_X6_fault_42n, E_X6_fault_43, E_X6_fault_46, E_X6_fault_46n, E_X6_fault_47, E_X6_fault_50, E_X6_fault_51, E_X6_fault_52, E_X6_fault_52i, E_X6_fault_52j, E_X6_fault_53, E_X6_fault_54, E_X6_fault_55, E_X6_fault_56, E_X6_fault_57, E_X6_fault_57n, E_X6_fault_58, E_X6_fault_61, E_X6_fault_61n, E_X6_fault_62, E_X6_fault_65, E_X6_fault_66, E_X6_fault_67, E_X6_fault_67i, E_X6_fault_67j, E_X6_fault_68, E_X6_fault_69, E_X6_fault_70, E_X6_fault_71, E_X6_fault_72, E_X6_fault_75, E_X6_fault_78, E_X6_fault_79, E_X6_fault_81, E_X6_fault_84, E_X6_fault_87, E_X6_fault_87n, E_X6_fault_88, E_X6_fault_91, E_X6_fault_92, E_X6_fault_93, E_X6_fault_96, E_X6_fault_96n, E_X6_fault_97, E_X6_fault_100, E_X6_fault_101, E_X6_fault_102, E_X6_fault_103, E_X6_fault_106, E_X6_fault_107, E_X6_fault_108, E_X6_fault_111, E_X6_fault_114, E_X6_fault_114n, E_X6_fault_115, E_X6_fault_118, E_X6_fault_119, E_X6_fault_120, E_X6_fault_123, E_X6_fault_126, E_X6_fault_129, E_X6_fault_130, zwith_some, zwith_none, zif_true, zaft_inl, Option.toList_some, Option.toList_none, List.cons_append, List.nil_append, zc1_int, zc1_ref, zc1_null, zc1_float, List.length_nil, List.length_cons, Nat.reduceAdd, Nat.reduceLeDiff, Nat.zero_add, z1and, z0and, zl00, zl01, zl02, zl03, ze00, ze10, ze20, ze30, if_true, if_false, mA1, mA2, mF1, mF2, mF3, mC1, mC2, mC3, mA_same, mA_comm, mFA, mCA, mCF, mCC, mF_same, mF_comm, Nat.reduceEqDiff, Nat.reduceLT, mget h, mrd h, hz, hd, l24, pk_mul, nI_add, if_false]
    rw [if_pos (nI_le (Nat.le_refl _) (by omega))]
    rfl
  | succ m ih =>
    intro j hj
    have ih := ih (j + 1) (by omega)
    obtain ⟨a, b, ha, hb, h1, h2⟩ := hp j (by omega)
    rw [E_X6_fault_27]
    have hz := zix_nI (show i < 12 by omega) (by decide)
    have hz2 := zix_nI (show 24 * i + j < 288 by omega) (by decide)
    have hza := zix_nI ha (by decide)
    have hzb := zix_nI hb (by decide)
    have hlt : ¬ nI (24 * i + n) ≤ nI (24 * i + j) := nI_ge (by omega) (by omega)
    have hss := hs_s ha hb h1 h2
    simp only [E_X6_fault_0, E_X6_fault_1, E_X6_fault_2, E_X6_fault_3, E_X6_fault_6, E_X6_fault_9, E_X6_fault_9n, E_X6_fault_10, E_X6_fault_13, E_X6_fault_14, E_X6_fault_15, E_X6_fault_16, E_X6_fault_19, E_X6_fault_22, E_X6_fault_24, E_X6_fault_25, E_X6_fault_26, E_X6_fault_28, E_X6_fault_30, E_X6_fault_31, E_X6_fault_32, E_X6_fault_32n, E_X6_fault_33, E_X6_fault_36, E_X6_fault_37, E_X6_fault_38, E_X6_fault_39, E_X6_fault_42, E_X6_fault_42n, E_X6_fault_43, E_X6_fault_46, E_X6_fault_46n, E_X6_fault_47, E_X6_fault_50, E_X6_fault_51, E_X6_fault_52, E_X6_fault_52i, E_X6_fault_52j, E_X6_fault_53, E_X6_fault_54, E_X6_fault_55, E_X6_fault_56, E_X6_fault_57, E_X6_fault_57n, E_X6_fault_58, E_X6_fault_61, E_X6_fault_61n, E_X6_fault_62, E_X6_fault_65, E_X6_fault_66, E_X6_fault_67, E_X6_fault_67i, E_X6_fault_67j, E_X6_fault_68, E_X6_fault_69, E_X6_fault_70, E_X6_fault_71, E_X6_fault_72, E_X6_fault_75, E_X6_fault_78, E_X6_fault_79, E_X6_fault_81, E_X6_fault_84, E_X6_fault_87, E_X6_fault_87n, E_X6_fault_88, E_X6_fault_91, E_X6_fault_92, E_X6_fault_93, E_X6_fault_96, E_X6_fault_96n, E_X6_fault_97, E_X6_fault_100, E_X6_fault_101, E_X6_fault_102, E_X6_fault_103, E_X6_fault_106, E_X6_fault_107, E_X6_fault_108, E_X6_fault_111, E_X6_fault_114, E_X6_fault_114n, E_X6_fault_115, E_X6_fault_118, E_X6_fault_119, E_X6_fault_120, E_X6_fault_123, E_X6_fault_126, E_X6_fault_129, E_X6_fault_130, zwith_some, zwith_none, zif_true, zaft_inl, Option.toList_some, Option.toList_none, List.cons_append, List.nil_append, zc1_int, zc1_ref, zc1_null, zc1_float, List.length_nil, List.length_cons, Nat.reduceAdd, Nat.reduceLeDiff, Nat.zero_add, z1and, z0and, zl00, zl01, zl02, zl03, ze00, ze10, ze20, ze30, if_true, if_false, mA1, mA2, mF1, mF2, mF3, mC1, mC2, mC3, mA_same, mA_comm, mFA, mCA, mCF, mCC, mF_same, mF_comm, Nat.reduceEqDiff, Nat.reduceLT, mget h, mrd h, mrI h, mst h, hz, hd, l24, pk_mul, nI_add, hlt, if_false, hz2, h1, h2, hza, hzb, hss, nI_1, Nat.add_assoc]
    exact ih
def fau (R : MR) (i n : Nat) : Int32 := match flt (hsa R i n) 1024 with
  | some p => nI p
  | none => if n = 0 then 1024 else -1
theorem S_fault_3 (h : mok st mo) {i n : Nat} (hi : i < 12) (hn : n ≤ 24) (hd : R.1 1 i = nI n) : ∀ (m k : Nat), k + m = 1024 → flt (hsa R i n) k = none → AW X d 81 80 [.ref mo, .int (nI i), .int (nI k)] [] (mw st mo (mA R 5 (hs R i n))) P = P (.inl (some (.int (fau R i n)))) (mw st mo (mA R 5 (hs R i n))) := by
  intro m
  induction m with
  | zero =>
    intro k hk hf
    have e : k = 1024 := by omega
    subst e
    rw [E_X6_fault_80]
    have hz := zix_nI (show i < 12 by omega) (by decide)
    simp only [E_X6_fault_0, E_X6_fault_1, E_X6_fault_2, E_X6_fault_3, E_X6_fault_6, E_X6_fault_9, E_X6_fault_9n, E_X6_fault_10, E_X6_fault_13, E_X6_fault_14, E_X6_fault_15, E_X6_fault_16, E_X6_fault_19, E_X6_fault_22, E_X6_fault_24, E_X6_fault_25, E_X6_fault_26, E_X6_fault_27, E_X6_fault_28, E_X6_fault_30, E_X6_fault_31, E_X6_fault_32, E_X6_fault_32n, E_X6_fault_33, E_X6_fault_36, E_X6_fault_37, E_X6_fault_38, E_X6_fault_39, E_X6_fault_42, E_X6_fault_42n, E_X6_fault_43, E_X6_fault_46, E_X6_fault_46n, E_X6_fault_47, E_X6_fault_50, E_X6_fault_51, E_X6_fault_52, E_X6_fault_52i, E_X6_fault_52j, E_X6_fault_53, E_X6_fault_54, E_X6_fault_55, E_X6_fault_56, E_X6_fault_57, E_X6_fault_57n, E_X6_fault_58, E_X6_fault_61, E_X6_fault_61n, E_X6_fault_62, E_X6_fault_65, E_X6_fault_66, E_X6_fault_67, E_X6_fault_67i, E_X6_fault_67j, E_X6_fault_68, E_X6_fault_69, E_X6_fault_70, E_X6_fault_71, E_X6_fault_72, E_X6_fault_75, E_X6_fault_78, E_X6_fault_79, E_X6_fault_81, E_X6_fault_84, E_X6_fault_87, E_X6_fault_87n, E_X6_fault_88, E_X6_fault_91, E_X6_fault_92, E_X6_fault_93, E_X6_fault_96, E_X6_fault_96n, E_X6_fault_97, E_X6_fault_100, E_X6_fault_101, E_X6_fault_102, E_X6_fault_103, E_X6_fault_106, E_X6_fault_107, E_X6_fault_108, E_X6_fault_111, E_X6_fault_114, E_X6_fault_114n, E_X6_fault_115, E_X6_fault_118, E_X6_fault_119, E_X6_fault_120, E_X6_fault_123, E_X6_fault_126, E_X6_fault_129, E_X6_fault_130, zwith_some, zwith_none, zif_true, zaft_inl, Option.toList_some, Option.toList_none, List.cons_append, List.nil_append, zc1_int, zc1_ref, zc1_null, zc1_float, List.length_nil, List.length_cons, Nat.reduceAdd, Nat.reduceLeDiff, Nat.zero_add, z1and, z0and, zl00, zl01, zl02, zl03, ze00, ze10, ze20, ze30, if_true, if_false, mA1, mA2, mF1, mF2, mF3, mC1, mC2, mC3, mA_same, mA_comm, mFA, mCA, mCF, mCC, mF_same, mF_comm, Nat.reduceEqDiff, Nat.reduceLT, lK, mget h, mrd h, hz, hd, if_false]
    rw [if_pos (nI_le (Nat.le_refl _) (by omega))]
    unfold fau
    rw [hf]
    by_cases c : n = 0
    · subst c; rfl
    · have hne : ¬ nI n = 0 := fun z => c ((nI_eq (by omega) (by omega)).mp z)
      simp only [hne, c, not_false_iff, if_true, if_false]
  | succ m ih =>
    intro k hk hf
    have hf1 := flt_one hf
    rw [E_X6_fault_80]
    have hz := zix_nI (show k < 1024 by omega) (by decide)
    have hlt : ¬ nI 1024 ≤ nI k := nI_ge (by omega) (by omega)
    have hv : hs R i n k = nI (hsa R i n k) := by unfold hs; rw [if_pos (by omega)]
    have hle := hsa_le (R := R) (i := i) k n
    simp only [E_X6_fault_0, E_X6_fault_1, E_X6_fault_2, E_X6_fault_3, E_X6_fault_6, E_X6_fault_9, E_X6_fault_9n, E_X6_fault_10, E_X6_fault_13, E_X6_fault_14, E_X6_fault_15, E_X6_fault_16, E_X6_fault_19, E_X6_fault_22, E_X6_fault_24, E_X6_fault_25, E_X6_fault_26, E_X6_fault_27, E_X6_fault_28, E_X6_fault_30, E_X6_fault_31, E_X6_fault_32, E_X6_fault_32n, E_X6_fault_33, E_X6_fault_36, E_X6_fault_37, E_X6_fault_38, E_X6_fault_39, E_X6_fault_42, E_X6_fault_42n, E_X6_fault_43, E_X6_fault_46, E_X6_fault_46n, E_X6_fault_47, E_X6_fault_50, E_X6_fault_51, E_X6_fault_52, E_X6_fault_52i, E_X6_fault_52j, E_X6_fault_53, E_X6_fault_54, E_X6_fault_55, E_X6_fault_56, E_X6_fault_57, E_X6_fault_57n, E_X6_fault_58, E_X6_fault_61, E_X6_fault_61n, E_X6_fault_62, E_X6_fault_65, E_X6_fault_66, E_X6_fault_67, E_X6_fault_67i, E_X6_fault_67j, E_X6_fault_68, E_X6_fault_69, E_X6_fault_70, E_X6_fault_71, E_X6_fault_72, E_X6_fault_75, E_X6_fault_78, E_X6_fault_79, E_X6_fault_81, E_X6_fault_84, E_X6_fault_87, E_X6_fault_87n, E_X6_fault_88, E_X6_fault_91, E_X6_fault_92, E_X6_fault_93, E_X6_fault_96, E_X6_fault_96n, E_X6_fault_97, E_X6_fault_100, E_X6_fault_101, E_X6_fault_102, E_X6_fault_103, E_X6_fault_106, E_X6_fault_107, E_X6_fault_108, E_X6_fault_111, E_X6_fault_114, E_X6_fault_114n, E_X6_fault_115, E_X6_fault_118, E_X6_fault_119, E_X6_fault_120, E_X6_fault_123, E_X6_fault_126, E_X6_fault_129, E_X6_fault_130, zwith_some, zwith_none, zif_true, zaft_inl, Option.toList_some, Option.toList_none, List.cons_append, List.nil_append, zc1_int, zc1_ref, zc1_null, zc1_float, List.length_nil, List.length_cons, Nat.reduceAdd, Nat.reduceLeDiff, Nat.zero_add, z1and, z0and, zl00, zl01, zl02, zl03, ze00, ze10, ze20, ze30, if_true, if_false, mA1, mA2, mF1, mF2, mF3, mC1, mC2, mC3, mA_same, mA_comm, mFA, mCA, mCF, mCC, mF_same, mF_comm, Nat.reduceEqDiff, Nat.reduceLT, lK, mget h, mrd h, hz, hlt, if_false, hv]
    by_cases c0 : hsa R i n k = 0
    · have ih := ih (k + 1) (by omega) (by rw [hf1, if_neg (fun z => z.1 c0)])
      have e0 : nI (hsa R i n k) = 0 := by rw [c0]; rfl
      simp only [e0, if_true, nI_1]
      exact ih
    · have e0 : ¬ nI (hsa R i n k) = 0 := fun z => c0 ((nI_eq (by omega) (by omega)).mp z)
      simp only [e0, if_false]
      by_cases c2 : hsa R i n k = 2
      · have ih := ih (k + 1) (by omega) (by rw [hf1, if_neg (fun z => z.2 c2)])
        have e2 : nI (hsa R i n k) = 2 := by rw [c2]; rfl
        simp only [e2, if_true, nI_1]
        exact ih
      · have e2 : ¬ nI (hsa R i n k) = 2 := fun z => c2 ((nI_eq (by omega) (by omega)).mp z)
        have hfin := flt_keep (show flt (hsa R i n) (k + 1) = some k by rw [hf1, if_pos ⟨c0, c2⟩]) m
        rw [show k + 1 + m = 1024 by omega] at hfin
        have hfa : fau R i n = nI k := by unfold fau; rw [hfin]
        simp only [e2, if_false, hfa]
theorem S_fault (h : mok st mo) {i n : Nat} (hi : i < 12) (hn : n ≤ 24) (hd : R.1 1 i = nI n) (hp : ∀ j, j < n → ∃ a b, a < 1024 ∧ b < 1024 ∧ R.1 3 (24 * i + j) = nI a ∧ R.1 4 (24 * i + j) = nI b) : AC X (d + 1) 81 [.ref mo, .int (nI i)] (mw st mo R) P = P (.inl (some (.int (fau R i n)))) (mw st mo (mA R 5 (hs R i n))) := by
  rw [A_X6_fault]
  simp only [E_X6_fault_0, E_X6_fault_1, E_X6_fault_3, E_X6_fault_6, E_X6_fault_9, E_X6_fault_9n, E_X6_fault_10, E_X6_fault_13, E_X6_fault_14, E_X6_fault_15, E_X6_fault_16, E_X6_fault_19, E_X6_fault_22, E_X6_fault_24, E_X6_fault_25, E_X6_fault_26, E_X6_fault_28, E_X6_fault_30, E_X6_fault_31, E_X6_fault_32, E_X6_fault_32n, E_X6_fault_33, E_X6_fault_36, E_X6_fault_37, E_X6_fault_38, E_X6_fault_39, E_X6_fault_42, E_X6_fault_42n, E_X6_fault_43, E_X6_fault_46, E_X6_fault_46n, E_X6_fault_47, E_X6_fault_50, E_X6_fault_51, E_X6_fault_52, E_X6_fault_52i, E_X6_fault_52j, E_X6_fault_53, E_X6_fault_54, E_X6_fault_55, E_X6_fault_56, E_X6_fault_57, E_X6_fault_57n, E_X6_fault_58, E_X6_fault_61, E_X6_fault_61n, E_X6_fault_62, E_X6_fault_65, E_X6_fault_66, E_X6_fault_67, E_X6_fault_67i, E_X6_fault_67j, E_X6_fault_68, E_X6_fault_69, E_X6_fault_70, E_X6_fault_71, E_X6_fault_72, E_X6_fault_75, E_X6_fault_78, E_X6_fault_79, E_X6_fault_81, E_X6_fault_84, E_X6_fault_87, E_X6_fault_87n, E_X6_fault_88, E_X6_fault_91, E_X6_fault_92, E_X6_fault_93, E_X6_fault_96, E_X6_fault_96n, E_X6_fault_97, E_X6_fault_100, E_X6_fault_101, E_X6_fault_102, E_X6_fault_103, E_X6_fault_106, E_X6_fault_107, E_X6_fault_108, E_X6_fault_111, E_X6_fault_114, E_X6_fault_114n, E_X6_fault_115, E_X6_fault_118, E_X6_fault_119, E_X6_fault_120, E_X6_fault_123, E_X6_fault_126, E_X6_fault_129, E_X6_fault_130, zwith_some, zwith_none, zif_true, zaft_inl, Option.toList_some, Option.toList_none, List.cons_append, List.nil_append, zc1_int, zc1_ref, zc1_null, zc1_float, List.length_nil, List.length_cons, Nat.reduceAdd, Nat.reduceLeDiff, Nat.zero_add, z1and, z0and, zl00, zl01, zl02, zl03, ze00, ze10, ze20, ze30, if_true, if_false]
  have e1 := S_fault_1 (X := X) (d := d) (P := P) (R := R) h (i := i) 1024 0 (by omega)
  rw [hs0_z, mA_id] at e1
  rw [show (0 : Int32) = nI 0 from rfl, e1]
  simp only [E_X6_fault_0, E_X6_fault_1, E_X6_fault_3, E_X6_fault_6, E_X6_fault_9, E_X6_fault_9n, E_X6_fault_10, E_X6_fault_13, E_X6_fault_14, E_X6_fault_15, E_X6_fault_16, E_X6_fault_19, E_X6_fault_22, E_X6_fault_24, E_X6_fault_25, E_X6_fault_26, E_X6_fault_28, E_X6_fault_30, E_X6_fault_31, E_X6_fault_32, E_X6_fault_32n, E_X6_fault_33, E_X6_fault_36, E_X6_fault_37, E_X6_fault_38, E_X6_fault_39, E_X6_fault_42, E_X6_fault_42n, E_X6_fault_43, E_X6_fault_46, E_X6_fault_46n, E_X6_fault_47, E_X6_fault_50, E_X6_fault_51, E_X6_fault_52, E_X6_fault_52i, E_X6_fault_52j, E_X6_fault_53, E_X6_fault_54, E_X6_fault_55, E_X6_fault_56, E_X6_fault_57, E_X6_fault_57n, E_X6_fault_58, E_X6_fault_61, E_X6_fault_61n, E_X6_fault_62, E_X6_fault_65, E_X6_fault_66, E_X6_fault_67, E_X6_fault_67i, E_X6_fault_67j, E_X6_fault_68, E_X6_fault_69, E_X6_fault_70, E_X6_fault_71, E_X6_fault_72, E_X6_fault_75, E_X6_fault_78, E_X6_fault_79, E_X6_fault_81, E_X6_fault_84, E_X6_fault_87, E_X6_fault_87n, E_X6_fault_88, E_X6_fault_91, E_X6_fault_92, E_X6_fault_93, E_X6_fault_96, E_X6_fault_96n, E_X6_fault_97, E_X6_fault_100, E_X6_fault_101, E_X6_fault_102, E_X6_fault_103, E_X6_fault_106, E_X6_fault_107, E_X6_fault_108, E_X6_fault_111, E_X6_fault_114, E_X6_fault_114n, E_X6_fault_115, E_X6_fault_118, E_X6_fault_119, E_X6_fault_120, E_X6_fault_123, E_X6_fault_126, E_X6_fault_129, E_X6_fault_130, zwith_some, zwith_none, zif_true, zaft_inl, Option.toList_some, Option.toList_none, List.cons_append, List.nil_append, zc1_int, zc1_ref, zc1_null, zc1_float, List.length_nil, List.length_cons, Nat.reduceAdd, Nat.reduceLeDiff, Nat.zero_add, z1and, z0and, zl00, zl01, zl02, zl03, ze00, ze10, ze20, ze30, if_true, if_false, l24, pk_mul]
  rw [hs0_e (i := i)]
  have e2 := S_fault_2 (X := X) (d := d) (P := P) (R := R) h hi hn hd hp n 0 (by omega)
  rw [Nat.add_zero] at e2
  rw [e2]
  exact S_fault_3 h hi hn hd 1024 0 (by omega) rfl
end R5
