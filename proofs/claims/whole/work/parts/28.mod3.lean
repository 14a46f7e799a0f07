/-! the reference's loops over strokes -/
def bN (b : Bool) : Int32 := if b = true then 1 else 0
theorem bN_or1 (b : Bool) : bN b ||| 1 = bN true := by cases b <;> decide
theorem bN_or0 (b : Bool) : bN b ||| 0 = bN b := by cases b <;> decide
theorem bN_and (b : Bool) : (bN b &&& 1 = bN b) = True := by cases b <;> decide
theorem bN_eq0 (b : Bool) : (bN b = 0) = (b = false) := by cases b <;> decide
section R3
variable {X : ZX} {d : Nat} {st : ZS} {mo : Nat} {R : MR} {P : ZO → ZS → Prop} {x y z : Int32}
/-- stroke j of drawing i has the points of stroke k -/
def dqm (R : MR) (i k j : Nat) : Prop := (R.1 3 (24 * i + j) = R.1 3 (24 * i + k) ∧ R.1 4 (24 * i + j) = R.1 4 (24 * i + k)) ∨ (R.1 3 (24 * i + j) = R.1 4 (24 * i + k) ∧ R.1 4 (24 * i + j) = R.1 3 (24 * i + k))
def dqb (R : MR) (i k j : Nat) : Bool := (decide (R.1 3 (24 * i + j) = R.1 3 (24 * i + k)) && decide (R.1 4 (24 * i + j) = R.1 4 (24 * i + k))) || (decide (R.1 3 (24 * i + j) = R.1 4 (24 * i + k)) && decide (R.1 4 (24 * i + j) = R.1 3 (24 * i + k)))
def dqs (R : MR) (i k : Nat) : Nat → Bool
  | 0 => false
  | j + 1 => dqs R i k j || dqb R i k j
theorem S_isDoubled_l (h : mok st mo) {i k : Nat} (hi : i < 12) (hk : k < 24) : ∀ (m j : Nat), j + m = k → AW X d 79 34 [.ref mo, .int (nI i), .int (nI k), .int (bN (dqs R i k j)), .int (R.1 3 (24 * i + k)), .int (R.1 4 (24 * i + k)), .int (nI (24 * i + j))] [] (mw st mo R) P = P (.inl (some (.int (bN (dqs R i k k))))) (mw st mo R) := by
  intro m
  induction m with
  | zero =>
    intro j hj
    have e : j = k := by omega
    subst e
    rw [E_X6_isDoubled_34]
    simp only [E_X6_isDoubled_0, E_X6_isDoubled_1, E_X6_isDoubled_2, E_X6_isDoubled_2n, E_X6_isDoubled_3, E_X6_isDoubled_6, E_X6_isDoubled_8, E_X6_isDoubled_9, E_X6_isDoubled_10, E_X6_isDoubled_11, E_X6_isDoubled_12, E_X6_isDoubled_13, E_X6_isDoubled_15, E_X6_isDoubled_15n, E_X6_isDoubled_16, E_X6_isDoubled_19, E_X6_isDoubled_21, E_X6_isDoubled_22, E_X6_isDoubled_23, E_X6_isDoubled_24, E_X6_isDoubled_25, E_X6_isDoubled_26, E_X6_isDoubled_28, E_X6_isDoubled_30, E_X6_isDoubled_31, E_X6_isDoubled_32, E_X6_isDoubled_36, E_X6_isDoubled_38, E_X6_isDoubled_39, E_X6_isDoubled_40, E_X6_isDoubled_41, E_X6_isDoubled_42, E_X6_isDoubled_45, E_X6_isDoubled_46, E_X6_isDoubled_46n, E_X6_isDoubled_47, E_X6_isDoubled_50, E_X6_isDoubled_52, E_X6_isDoubled_53, E_X6_isDoubled_55, E_X6_isDoubled_58, E_X6_isDoubled_58n, E_X6_isDoubled_59, E_X6_isDoubled_62, E_X6_isDoubled_64, E_X6_isDoubled_65, E_X6_isDoubled_67, E_X6_isDoubled_70, E_X6_isDoubled_70n, E_X6_isDoubled_71, E_X6_isDoubled_74, E_X6_isDoubled_76, E_X6_isDoubled_77, E_X6_isDoubled_79, E_X6_isDoubled_82, E_X6_isDoubled_82n, E_X6_isDoubled_83, E_X6_isDoubled_86, E_X6_isDoubled_88, E_X6_isDoubled_89, E_X6_isDoubled_91, E_X6_isDoubled_94, E_X6_isDoubled_95, E_X6_isDoubled_98, E_X6_isDoubled_99, E_X6_isDoubled_100, E_X6_isDoubled_101, E_X6_isDoubled_104, E_X6_isDoubled_107, E_X6_isDoubled_108, zwith_some, zwith_none, zif_true, zaft_inl, Option.toList_some, Option.toList_none, List.cons_append, List.nil_append, zc1_int, zc1_ref, zc1_null, zc1_float, List.length_nil, List.length_cons, Nat.reduceAdd, Nat.reduceLeDiff, Nat.zero_add, z1and, z0and, zl00, zl01, zl02, zl03, ze00, ze10, ze20, ze30, if_true, if_false, l24, pk_mul, nI_add, bN_and]
    rw [if_pos (nI_le (Nat.le_refl _) (by omega))]
  | succ m ih =>
    intro j hj
    have ih := ih (j + 1) (by omega)
    rw [E_X6_isDoubled_34]
    have hlt : ¬ nI (24 * i + k) ≤ nI (24 * i + j) := nI_ge (by omega) (by omega)
    have hz := zix_nI (show 24 * i + j < 288 by omega) (by decide)
    simp only [E_X6_isDoubled_0, E_X6_isDoubled_1, E_X6_isDoubled_2, E_X6_isDoubled_2n, E_X6_isDoubled_3, E_X6_isDoubled_6, E_X6_isDoubled_8, E_X6_isDoubled_9, E_X6_isDoubled_10, E_X6_isDoubled_11, E_X6_isDoubled_12, E_X6_isDoubled_13, E_X6_isDoubled_15, E_X6_isDoubled_15n, E_X6_isDoubled_16, E_X6_isDoubled_19, E_X6_isDoubled_21, E_X6_isDoubled_22, E_X6_isDoubled_23, E_X6_isDoubled_24, E_X6_isDoubled_25, E_X6_isDoubled_26, E_X6_isDoubled_28, E_X6_isDoubled_30, E_X6_isDoubled_31, E_X6_isDoubled_32, E_X6_isDoubled_36, E_X6_isDoubled_38, E_X6_isDoubled_39, E_X6_isDoubled_40, E_X6_isDoubled_41, E_X6_isDoubled_42, E_X6_isDoubled_45, E_X6_isDoubled_46, E_X6_isDoubled_46n, E_X6_isDoubled_47, E_X6_isDoubled_50, E_X6_isDoubled_52, E_X6_isDoubled_53, E_X6_isDoubled_55, E_X6_isDoubled_58, E_X6_isDoubled_58n, E_X6_isDoubled_59, E_X6_isDoubled_62, E_X6_isDoubled_64, E_X6_isDoubled_65, E_X6_isDoubled_67, E_X6_isDoubled_70, E_X6_isDoubled_70n, E_X6_isDoubled_71, E_X6_isDoubled_74, E_X6_isDoubled_76, E_X6_isDoubled_77, E_X6_isDoubled_79, E_X6_isDoubled_82, E_X6_isDoubled_82n, E_X6_isDoubled_83, E_X6_isDoubled_86, E_X6_isDoubled_88, E_X6_isDoubled_89, E_X6_isDoubled_91, E_X6_isDoubled_94, E_X6_isDoubled_95, E_X6_isDoubled_98, E_X6_isDoubled_99, E_X6_isDoubled_100, E_X6_isDoubled_101, E_X6_isDoubled_104, E_X6_isDoubled_107, E_X6_isDoubled_108, zwith_some, zwith_none, zif_true, zaft_inl, Option.toList_some, Option.toList_none, List.cons_append, List.nil_append, zc1_int, zc1_ref, zc1_null, zc1_float, List.length_nil, List.length_cons, Nat.reduceAdd, Nat.reduceLeDiff, Nat.zero_add, z1and, z0and, zl00, zl01, zl02, zl03, ze00, ze10, ze20, ze30, if_true, if_false, l24, pk_mul, nI_add, hlt, mget h, mrd h, hz]
    have eb : dqs R i k (j + 1) = (dqs R i k j || dqb R i k j) := rfl
    have hn : nI (24 * i + j) + 1 = nI (24 * i + (j + 1)) := by rw [nI_1, Nat.add_assoc]
    rw [hn, bN_or1, bN_or0]
    have e1 : dqb R i k j = true → bN (dqs R i k (j + 1)) = bN true := fun z => by rw [eb, z, Bool.or_true]
    have e0 : dqb R i k j = false → bN (dqs R i k (j + 1)) = bN (dqs R i k j) := fun z => by rw [eb, z, Bool.or_false]
    repeat' split
    all_goals first
      | (rw [← e1 (by simp_all [dqb])]; exact ih)
      | (rw [← e0 (by simp_all [dqb])]; exact ih)
theorem S_isDoubled (h : mok st mo) {i k : Nat} (hi : i < 12) (hk : k < 24) : AC X (d + 1) 79 [.ref mo, .int (nI i), .int (nI k)] (mw st mo R) P = P (.inl (some (.int (bN (dqs R i k k))))) (mw st mo R) := by
  rw [A_X6_isDoubled]
  have hz := zix_nI (show 24 * i + k < 288 by omega) (by decide)
  have hl := S_isDoubled_l (X := X) (d := d) (P := P) (R := R) h hi hk k 0 (by omega)
  simp only [E_X6_isDoubled_0, E_X6_isDoubled_1, E_X6_isDoubled_2, E_X6_isDoubled_2n, E_X6_isDoubled_3, E_X6_isDoubled_6, E_X6_isDoubled_8, E_X6_isDoubled_9, E_X6_isDoubled_10, E_X6_isDoubled_11, E_X6_isDoubled_12, E_X6_isDoubled_13, E_X6_isDoubled_15, E_X6_isDoubled_15n, E_X6_isDoubled_16, E_X6_isDoubled_19, E_X6_isDoubled_21, E_X6_isDoubled_22, E_X6_isDoubled_23, E_X6_isDoubled_24, E_X6_isDoubled_25, E_X6_isDoubled_26, E_X6_isDoubled_28, E_X6_isDoubled_30, E_X6_isDoubled_31, E_X6_isDoubled_32, E_X6_isDoubled_36, E_X6_isDoubled_38, E_X6_isDoubled_39, E_X6_isDoubled_40, E_X6_isDoubled_41, E_X6_isDoubled_42, E_X6_isDoubled_45, E_X6_isDoubled_46, E_X6_isDoubled_46n, E_X6_isDoubled_47, E_X6_isDoubled_50, E_X6_isDoubled_52, E_X6_isDoubled_53, E_X6_isDoubled_55, E_X6_isDoubled_58, E_X6_isDoubled_58n, E_X6_isDoubled_59, E_X6_isDoubled_62, E_X6_isDoubled_64, E_X6_isDoubled_65, E_X6_isDoubled_67, E_X6_isDoubled_70, E_X6_isDoubled_70n, E_X6_isDoubled_71, E_X6_isDoubled_74, E_X6_isDoubled_76, E_X6_isDoubled_77, E_X6_isDoubled_79, E_X6_isDoubled_82, E_X6_isDoubled_82n, E_X6_isDoubled_83, E_X6_isDoubled_86, E_X6_isDoubled_88, E_X6_isDoubled_89, E_X6_isDoubled_91, E_X6_isDoubled_94, E_X6_isDoubled_95, E_X6_isDoubled_98, E_X6_isDoubled_99, E_X6_isDoubled_100, E_X6_isDoubled_101, E_X6_isDoubled_104, E_X6_isDoubled_107, E_X6_isDoubled_108, zwith_some, zwith_none, zif_true, zaft_inl, Option.toList_some, Option.toList_none, List.cons_append, List.nil_append, zc1_int, zc1_ref, zc1_null, zc1_float, List.length_nil, List.length_cons, Nat.reduceAdd, Nat.reduceLeDiff, Nat.zero_add, z1and, z0and, zl00, zl01, zl02, zl03, ze00, ze10, ze20, ze30, if_true, if_false, l24, pk_mul, nI_add, mget h, mrd h, hz]
  exact hl
/-- the array with the places from a on to b moved down -/
def shf (f : Nat → Int32) (a b : Nat) : Nat → Int32 := fun j => if a ≤ j ∧ j < b then f (j + 1) else f j
theorem shf_0 {f : Nat → Int32} {a : Nat} : shf f a a = f := by
  funext j
  unfold shf
  rw [if_neg (by omega)]
theorem shf_s {f : Nat → Int32} {a b : Nat} (h : a ≤ b) : upd (shf f a b) b (f (b + 1)) = shf f a (b + 1) := by
  funext j
  unfold upd shf
  by_cases c : j = b
  · rw [if_pos c, if_pos (by omega), c]
  · rw [if_neg c]
    by_cases c2 : a ≤ j ∧ j < b
    · rw [if_pos c2, if_pos (by omega)]
    · rw [if_neg c2, if_neg (by omega)]
theorem shf_a {f : Nat → Int32} {a b : Nat} : shf f a b (b + 1) = f (b + 1) := by
  unfold shf
  rw [if_neg (by omega)]
end R3
