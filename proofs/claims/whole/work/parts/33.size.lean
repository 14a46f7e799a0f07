/-! the reference's size -/
section R7
variable {X : ZX} {d : Nat} {st : ZS} {mo : Nat} {R : MR} {P : ZO → ZS → Prop} {x y z : Int32}
def crd (w : Bool) (x : Int32) : Int32 := if w = true then x - x / 32 * 32 else x / 32
def mn2 (x y : Int32) : Int32 := if y < x then y else x
def mx2 (x y : Int32) : Int32 := if x < y then y else x
def szl (a b : Nat → Int32) : Nat → Int32
  | 0 => 32
  | j + 1 => mn2 (mn2 (szl a b j) (a j)) (b j)
def szm (a b : Nat → Int32) : Nat → Int32
  | 0 => -1
  | j + 1 => mx2 (mx2 (szm a b j) (a j)) (b j)
def siz (a b : Nat → Int32) (n : Nat) : Int32 := if szm a b n < 0 then 0 else szm a b n - szl a b n + 1
def cra (R : MR) (i : Nat) (w : Bool) : Nat → Int32 := fun j => crd w (R.1 3 (24 * i + j))
def crb (R : MR) (i : Nat) (w : Bool) : Nat → Int32 := fun j => crd w (R.1 4 (24 * i + j))
theorem z32m : (¬ (32 : Int32) = 0) = True := eq_true (by decide)
theorem gt_if {α : Sort _} {a b : Int32} {x y : α} : (if a ≤ b then x else y) = if b < a then y else x := by
  by_cases c : a ≤ b
  · rw [if_pos c, if_neg (Int32.not_lt.mpr c)]
  · rw [if_neg c, if_pos (Int32.not_le.mp c)]
theorem if_AW {c : Prop} [Decidable c] {mi pc : Nat} {L : List Value} {u v : Int32} {f : Int32 → List Value} : (if c then AW X d mi pc (f u) [] st P else AW X d mi pc (f v) [] st P) = AW X d mi pc (f (if c then u else v)) [] st P := by split <;> rfl
theorem S_size_l (h : mok st mo) {i n : Nat} {w : Bool} (hi : i < 12) (hn : n ≤ 24) (hd : R.1 1 i = nI n) : ∀ (m j : Nat) (l6 l7 : Value), j + m = n → AW X d 83 12 [.ref mo, .int (nI i), .int (bN w), .int (szl (cra R i w) (crb R i w) j), .int (szm (cra R i w) (crb R i w) j), .int (nI (24 * i + j)), l6, l7] [] (mw st mo R) P = P (.inl (some (.int (siz (cra R i w) (crb R i w) n)))) (mw st mo R) := by
  intro m
  induction m with
  | zero =>
    intro j l6 l7 hj
    have e : j = n := by omega
    subst e
    rw [E_X6_size_12]
    have hz := zix_nI (show i < 12 by omega) (by decide)
    simp only [E_X6_size_0, E_X6_size_2, E_X6_size_3, E_X6_size_4, E_X6_size_6, E_X6_size_8, E_X6_size_9, E_X6_size_10, E_X6_size_14, E_X6_size_16, E_X6_size_17, E_X6_size_18, E_X6_size_18n, E_X6_size_19, E_X6_size_22, E_X6_size_23, E_X6_size_24, E_X6_size_25, E_X6_size_28, E_X6_size_29, E_X6_size_32, E_X6_size_32n, E_X6_size_33, E_X6_size_36, E_X6_size_38, E_X6_size_39, E_X6_size_41, E_X6_size_42, E_X6_size_45, E_X6_size_45n, E_X6_size_46, E_X6_size_49, E_X6_size_51, E_X6_size_52, E_X6_size_54, E_X6_size_55, E_X6_size_57, E_X6_size_58, E_X6_size_61, E_X6_size_61n, E_X6_size_62, E_X6_size_65, E_X6_size_67, E_X6_size_68, E_X6_size_70, E_X6_size_71, E_X6_size_74, E_X6_size_74n, E_X6_size_75, E_X6_size_78, E_X6_size_80, E_X6_size_81, E_X6_size_83, E_X6_size_84, E_X6_size_86, E_X6_size_88, E_X6_size_89, E_X6_size_92, E_X6_size_94, E_X6_size_97, E_X6_size_98, E_X6_size_99, E_X6_size_101, E_X6_size_102, E_X6_size_105, E_X6_size_107, E_X6_size_110, E_X6_size_111, E_X6_size_112, E_X6_size_114, E_X6_size_116, E_X6_size_119, E_X6_size_121, E_X6_size_124, E_X6_size_126, E_X6_size_128, E_X6_size_130, E_X6_size_132, E_X6_size_135, E_X6_size_137, E_X6_size_140, E_X6_size_142, E_X6_size_144, E_X6_size_147, E_X6_size_150, E_X6_size_152, E_X6_size_155, E_X6_size_156, E_X6_size_159, E_X6_size_161, E_X6_size_162, E_X6_size_163, E_X6_size_164, E_X6_size_165, zwith_some, zwith_none, zif_true, zaft_inl, Option.toList_some, Option.toList_none, List.cons_append, List.nil_append, zc1_int, zc1_ref, zc1_null, zc1_float, List.length_nil, List.length_cons, Nat.reduceAdd, Nat.reduceLeDiff, Nat.zero_add, z1and, z0and, zl00, zl01, zl02, zl03, ze00, ze10, ze20, ze30, if_true, if_false, mget h, mrd h, hz, hd, l24, pk_mul, nI_add]
    rw [if_pos (nI_le (Nat.le_refl _) (by omega))]
    unfold siz
    by_cases c : szm (cra R i w) (crb R i w) j < 0
    · rw [if_neg (Int32.not_le.mpr c), if_pos c]
    · rw [if_pos (Int32.not_lt.mp c), if_neg c]
  | succ m ih =>
    intro j l6 l7 hj
    have ih := ih (j + 1)
    have hz := zix_nI (show i < 12 by omega) (by decide)
    have hz2 := zix_nI (show 24 * i + j < 288 by omega) (by decide)
    have hlt : ¬ nI (24 * i + n) ≤ nI (24 * i + j) := nI_ge (by omega) (by omega)
    have e1 : szl (cra R i w) (crb R i w) (j + 1) = mn2 (mn2 (szl (cra R i w) (crb R i w) j) (cra R i w j)) (crb R i w j) := rfl
    have e2 : szm (cra R i w) (crb R i w) (j + 1) = mx2 (mx2 (szm (cra R i w) (crb R i w) j) (cra R i w j)) (crb R i w j) := rfl
    rw [e1, e2] at ih
    rw [E_X6_size_12]
    generalize szl (cra R i w) (crb R i w) j = lo at ih ⊢
    generalize szm (cra R i w) (crb R i w) j = hi' at ih ⊢
    have ea : cra R i w j = crd w (R.1 3 (24 * i + j)) := rfl
    have eb : crb R i w j = crd w (R.1 4 (24 * i + j)) := rfl
    rw [ea, eb] at ih
    unfold crd at ih
    simp only [E_X6_size_0, E_X6_size_2, E_X6_size_3, E_X6_size_4, E_X6_size_6, E_X6_size_8, E_X6_size_9, E_X6_size_10, E_X6_size_14, E_X6_size_16, E_X6_size_17, E_X6_size_18, E_X6_size_18n, E_X6_size_19, E_X6_size_22, E_X6_size_23, E_X6_size_24, E_X6_size_25, E_X6_size_28, E_X6_size_29, E_X6_size_32, E_X6_size_32n, E_X6_size_33, E_X6_size_36, E_X6_size_38, E_X6_size_39, E_X6_size_41, E_X6_size_42, E_X6_size_45, E_X6_size_45n, E_X6_size_46, E_X6_size_49, E_X6_size_51, E_X6_size_52, E_X6_size_54, E_X6_size_55, E_X6_size_57, E_X6_size_58, E_X6_size_61, E_X6_size_61n, E_X6_size_62, E_X6_size_65, E_X6_size_67, E_X6_size_68, E_X6_size_70, E_X6_size_71, E_X6_size_74, E_X6_size_74n, E_X6_size_75, E_X6_size_78, E_X6_size_80, E_X6_size_81, E_X6_size_83, E_X6_size_84, E_X6_size_86, E_X6_size_88, E_X6_size_89, E_X6_size_92, E_X6_size_94, E_X6_size_97, E_X6_size_98, E_X6_size_99, E_X6_size_101, E_X6_size_102, E_X6_size_105, E_X6_size_107, E_X6_size_110, E_X6_size_111, E_X6_size_112, E_X6_size_114, E_X6_size_116, E_X6_size_119, E_X6_size_121, E_X6_size_124, E_X6_size_126, E_X6_size_128, E_X6_size_130, E_X6_size_132, E_X6_size_135, E_X6_size_137, E_X6_size_140, E_X6_size_142, E_X6_size_144, E_X6_size_147, E_X6_size_150, E_X6_size_152, E_X6_size_155, E_X6_size_156, E_X6_size_159, E_X6_size_161, E_X6_size_162, E_X6_size_163, E_X6_size_164, E_X6_size_165, zwith_some, zwith_none, zif_true, zaft_inl, Option.toList_some, Option.toList_none, List.cons_append, List.nil_append, zc1_int, zc1_ref, zc1_null, zc1_float, List.length_nil, List.length_cons, Nat.reduceAdd, Nat.reduceLeDiff, Nat.zero_add, z1and, z0and, zl00, zl01, zl02, zl03, ze00, ze10, ze20, ze30, if_true, if_false, mget h, mrd h, hz, hz2, hd, l24, pk_mul, nI_add, hlt, z32m, bN_eq0, nI_1, Nat.add_assoc, gt_if]
    generalize R.1 3 (24 * i + j) = a at ih ⊢
    generalize R.1 4 (24 * i + j) = b at ih ⊢
    cases w with
    | true =>
      simp only [Bool.true_eq_false, if_false, if_true] at ih ⊢
      generalize a - a / 32 * 32 = a at ih ⊢
      generalize b - b / 32 * 32 = b at ih ⊢
      unfold mn2 mx2 at ih
      have ih := ih (.int a) (.int b) (by omega)
      rw [← ih]
      repeat' split
      all_goals first | rfl | (simp_all; done)
    | false =>
      simp only [Bool.false_eq_true, if_false, if_true] at ih ⊢
      generalize a / 32 = a at ih ⊢
      generalize b / 32 = b at ih ⊢
      unfold mn2 mx2 at ih
      have ih := ih (.int a) (.int b) (by omega)
      rw [← ih]
      repeat' split
      all_goals first | rfl | (simp_all; done)
theorem S_size (h : mok st mo) {i n : Nat} {w : Bool} (hi : i < 12) (hn : n ≤ 24) (hd : R.1 1 i = nI n) : AC X (d + 1) 83 [.ref mo, .int (nI i), .int (bN w)] (mw st mo R) P = P (.inl (some (.int (siz (cra R i w) (crb R i w) n)))) (mw st mo R) := by
  rw [A_X6_size]
  simp only [E_X6_size_0, E_X6_size_2, E_X6_size_3, E_X6_size_4, E_X6_size_6, E_X6_size_8, E_X6_size_9, E_X6_size_10, E_X6_size_14, E_X6_size_16, E_X6_size_17, E_X6_size_18, E_X6_size_18n, E_X6_size_19, E_X6_size_22, E_X6_size_23, E_X6_size_24, E_X6_size_25, E_X6_size_28, E_X6_size_29, E_X6_size_32, E_X6_size_32n, E_X6_size_33, E_X6_size_36, E_X6_size_38, E_X6_size_39, E_X6_size_41, E_X6_size_42, E_X6_size_45, E_X6_size_45n, E_X6_size_46, E_X6_size_49, E_X6_size_51, E_X6_size_52, E_X6_size_54, E_X6_size_55, E_X6_size_57, E_X6_size_58, E_X6_size_61, E_X6_size_61n, E_X6_size_62, E_X6_size_65, E_X6_size_67, E_X6_size_68, E_X6_size_70, E_X6_size_71, E_X6_size_74, E_X6_size_74n, E_X6_size_75, E_X6_size_78, E_X6_size_80, E_X6_size_81, E_X6_size_83, E_X6_size_84, E_X6_size_86, E_X6_size_88, E_X6_size_89, E_X6_size_92, E_X6_size_94, E_X6_size_97, E_X6_size_98, E_X6_size_99, E_X6_size_101, E_X6_size_102, E_X6_size_105, E_X6_size_107, E_X6_size_110, E_X6_size_111, E_X6_size_112, E_X6_size_114, E_X6_size_116, E_X6_size_119, E_X6_size_121, E_X6_size_124, E_X6_size_126, E_X6_size_128, E_X6_size_130, E_X6_size_132, E_X6_size_135, E_X6_size_137, E_X6_size_140, E_X6_size_142, E_X6_size_144, E_X6_size_147, E_X6_size_150, E_X6_size_152, E_X6_size_155, E_X6_size_156, E_X6_size_159, E_X6_size_161, E_X6_size_162, E_X6_size_163, E_X6_size_164, E_X6_size_165, zwith_some, zwith_none, zif_true, zaft_inl, Option.toList_some, Option.toList_none, List.cons_append, List.nil_append, zc1_int, zc1_ref, zc1_null, zc1_float, List.length_nil, List.length_cons, Nat.reduceAdd, Nat.reduceLeDiff, Nat.zero_add, z1and, z0and, zl00, zl01, zl02, zl03, ze00, ze10, ze20, ze30, if_true, if_false, l24, pk_mul]
  exact S_size_l h hi hn hd n 0 _ _ (by omega)
end R7
