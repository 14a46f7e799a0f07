/-! the reference's root and lengthOf -/
section R6
variable {X : ZX} {d : Nat} {st : ZS} {mo : Nat} {R : MR} {P : ZO → ZS → Prop} {x y z : Int32}
theorem eqs {α : Type} {a : α} : (a = a) = True := propext ⟨fun _ => trivial, fun _ => rfl⟩
theorem S_root_l {n : Int32} {st : ZS} : ∀ (m k : Nat) (r r2 : UInt64), k + m = 24 → rgo (FP.i2d n) m r = some r2 → AW X d 85 6 [.ref mo, .int n, .double r, .retAddr 1, .int (nI k)] [] st P = P (.inl (some (.double r2))) st := by
  intro m
  induction m with
  | zero =>
    intro k r r2 hk hr
    have e : k = 24 := by omega
    subst e
    cases hr
    rw [E_X6_root_6]
    simp only [E_X6_root_0, E_X6_root_1, E_X6_root_2, E_X6_root_3, E_X6_root_4, E_X6_root_8, E_X6_root_10, E_X6_root_13, E_X6_root_14, E_X6_root_15, E_X6_root_16, E_X6_root_17, E_X6_root_18, E_X6_root_19, E_X6_root_22, E_X6_root_23, E_X6_root_24, E_X6_root_27, E_X6_root_30, E_X6_root_31, zwith_some, zwith_none, zif_true, zaft_inl, Option.toList_some, Option.toList_none, List.cons_append, List.nil_append, zc1_int, zc1_ref, zc1_null, zc1_float, List.length_nil, List.length_cons, Nat.reduceAdd, Nat.reduceLeDiff, Nat.zero_add, z1and, z0and, zl00, zl01, zl02, zl03, ze00, ze10, ze20, ze30, if_true, if_false, l24]
    rw [if_pos (nI_le (Nat.le_refl _) (by omega))]
  | succ m ih =>
    intro k r r2 hk hr
    unfold rgo at hr
    split at hr
    · rename_i c
      obtain ⟨c1, c2, c3⟩ := c
      have ih := ih (k + 1) (rst (FP.i2d n) r) r2 (by omega) hr
      have c3' : zn64 (FP.ddiv (FP.dadd r (FP.ddiv (FP.i2d n) r)) 4611686018427387904) = true := c3
      have hlt : ¬ nI 24 ≤ nI k := nI_ge (by omega) (by omega)
      rw [E_X6_root_6]
      simp only [E_X6_root_0, E_X6_root_1, E_X6_root_2, E_X6_root_3, E_X6_root_4, E_X6_root_8, E_X6_root_10, E_X6_root_13, E_X6_root_14, E_X6_root_15, E_X6_root_16, E_X6_root_17, E_X6_root_18, E_X6_root_19, E_X6_root_22, E_X6_root_23, E_X6_root_24, E_X6_root_27, E_X6_root_30, E_X6_root_31, zwith_some, zwith_none, zif_true, zaft_inl, Option.toList_some, Option.toList_none, List.cons_append, List.nil_append, zc1_int, zc1_ref, zc1_null, zc1_float, List.length_nil, List.length_cons, Nat.reduceAdd, Nat.reduceLeDiff, Nat.zero_add, z1and, z0and, zl00, zl01, zl02, zl03, ze00, ze10, ze20, ze30, if_true, if_false, l24, hlt, c1, c2, c3', eqs, nI_1]
      exact ih
    · cases hr
theorem S_root {n : Nat} {r2 : UInt64} (hr : rgo (FP.i2d (nI n)) 24 (FP.i2d (nI n)) = some r2) : AC X (d + 1) 85 [.ref mo, .int (nI n)] st P = P (.inl (some (.double r2))) st := by
  rw [A_X6_root]
  simp only [E_X6_root_0, E_X6_root_1, E_X6_root_2, E_X6_root_3, E_X6_root_4, E_X6_root_8, E_X6_root_10, E_X6_root_13, E_X6_root_14, E_X6_root_15, E_X6_root_16, E_X6_root_17, E_X6_root_18, E_X6_root_19, E_X6_root_22, E_X6_root_23, E_X6_root_24, E_X6_root_27, E_X6_root_30, E_X6_root_31, zwith_some, zwith_none, zif_true, zaft_inl, Option.toList_some, Option.toList_none, List.cons_append, List.nil_append, zc1_int, zc1_ref, zc1_null, zc1_float, List.length_nil, List.length_cons, Nat.reduceAdd, Nat.reduceLeDiff, Nat.zero_add, z1and, z0and, zl00, zl01, zl02, zl03, ze00, ze10, ze20, ze30, if_true, if_false]
  exact S_root_l 24 0 _ _ (by omega) hr
/-- the length of stroke j of drawing i; the sum of the first ones -/
def dis (p q : Nat) : Nat := (if p % 32 < q % 32 then q % 32 - p % 32 else p % 32 - q % 32) * (if p % 32 < q % 32 then q % 32 - p % 32 else p % 32 - q % 32) + (if p / 32 < q / 32 then q / 32 - p / 32 else p / 32 - q / 32) * (if p / 32 < q / 32 then q / 32 - p / 32 else p / 32 - q / 32)
def lens (f g : Nat → Nat) : Nat → UInt32
  | 0 => FP.fconst0
  | j + 1 => FP.fadd (lens f g j) (rtf (dis (f j) (g j)))
end R6
