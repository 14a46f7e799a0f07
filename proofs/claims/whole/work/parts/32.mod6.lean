/-! the reference's root and lengthOf -/
section R6
variable {X : ZX} {d : Nat} {st : ZS} {mo : Nat} {R : MR} {P : ZO → ZS → Prop} {x y z : Int32}
theorem eqs {α : Type} {a : α} : (a = a) = True := propext ⟨fun _ => trivial, fun _ => rfl⟩
theorem S_root_l {n : Int32} {st : ZS} : ∀ (m k : Nat) (r r2 : UInt64), k + m = 24 → rgo (FP.i2d n) m r = some r2 → AW X d 85 6 [.ref mo, .int n, .double r, .retAddr 1, .int (nI k)] [] st P = P (.inl (some (.double r2))) st := by
  intro m
  induction m with
  | zero =>
    intro k r r2 hk hr
    have e : k = 24 := by omega
    subst e
    cases hr
    rw [E_X6_root_6]
    simp only [E_X6_root_0, E_X6_root_1, E_X6_root_2, E_X6_root_3, E_X6_root_4, E_X6_root_8, E_X6_root_10, E_X6_root_13, E_X6_root_14, E_X6_root_15, E_X6_root_16, E_X6_root_17, E_X6_root_18, E_X6_root_19, E_X6_root_22, E_X6_root_23, E_X6_root_24, E_X6_root_27, E_X6_root_30, E_X6_root_31, zwith_some, zwith_none, zif_true, zaft_inl, Option.toList_some, Option.toList_none, List.cons_append, List.nil_append, zc1_int, zc1_ref, zc1_null, zc1_float, List.length_nil, List.length_cons, Nat.reduceAdd, Nat.reduceLeDiff, Nat.zero_add, z1and, z0and, zl00, zl01, zl02, zl03, ze00, ze10, ze20, ze30, if_true, if_false, l24]
    rw [if_pos (nI_le (Nat.le_refl _) (by omega))]
  | succ m ih =>
    intro k r r2 hk hr
    unfold rgo at hr
    split at hr
    · rename_i c
      obtain ⟨c1, c2, c3, -⟩ := c
      have ih := ih (k + 1) (rst (FP.i2d n) r) r2 (by omega) hr
      have c3' : zn64 (FP.ddiv (FP.dadd r (FP.ddiv (FP.i2d n) r)) 4611686018427387904) = true := c3
      have hlt : ¬ nI 24 ≤ nI k := nI_ge (by omega) (by omega)
      rw [E_X6_root_6]
      simp only [E_X6_root_0, E_X6_root_1, E_X6_root_2, E_X6_root_3, E_X6_root_4, E_X6_root_8, E_X6_root_10, E_X6_root_13, E_X6_root_14, E_X6_root_15, E_X6_root_16, E_X6_root_17, E_X6_root_18, E_X6_root_19, E_X6_root_22, E_X6_root_23, E_X6_root_24, E_X6_root_27, E_X6_root_30, E_X6_root_31, zwith_some, zwith_none, zif_true, zaft_inl, Option.toList_some, Option.toList_none, List.cons_append, List.nil_append, zc1_int, zc1_ref, zc1_null, zc1_float, List.length_nil, List.length_cons, Nat.reduceAdd, Nat.reduceLeDiff, Nat.zero_add, z1and, z0and, zl00, zl01, zl02, zl03, ze00, ze10, ze20, ze30, if_true, if_false, l24, hlt, c1, c2, c3', eqs, nI_1]
      exact ih
    · cases hr
theorem S_root {n : Nat} {r2 : UInt64} (hr : rgo (FP.i2d (nI n)) 24 (FP.i2d (nI n)) = some r2) : AC X (d + 1) 85 [.ref mo, .int (nI n)] st P = P (.inl (some (.double r2))) st := by
  rw [A_X6_root]
  simp only [E_X6_root_0, E_X6_root_1, E_X6_root_2, E_X6_root_3, E_X6_root_4, E_X6_root_8, E_X6_root_10, E_X6_root_13, E_X6_root_14, E_X6_root_15, E_X6_root_16, E_X6_root_17, E_X6_root_18, E_X6_root_19, E_X6_root_22, E_X6_root_23, E_X6_root_24, E_X6_root_27, E_X6_root_30, E_X6_root_31, zwith_some, zwith_none, zif_true, zaft_inl, Option.toList_some, Option.toList_none, List.cons_append, List.nil_append, zc1_int, zc1_ref, zc1_null, zc1_float, List.length_nil, List.length_cons, Nat.reduceAdd, Nat.reduceLeDiff, Nat.zero_add, z1and, z0and, zl00, zl01, zl02, zl03, ze00, ze10, ze20, ze30, if_true, if_false]
  exact S_root_l 24 0 _ _ (by omega) hr
/-- the length of stroke j of drawing i; the sum of the first ones -/
def dis (p q : Nat) : Nat := (if p % 32 < q % 32 then q % 32 - p % 32 else p % 32 - q % 32) * (if p % 32 < q % 32 then q % 32 - p % 32 else p % 32 - q % 32) + (if p / 32 < q / 32 then q / 32 - p / 32 else p / 32 - q / 32) * (if p / 32 < q / 32 then q / 32 - p / 32 else p / 32 - q / 32)
def lens (f g : Nat → Nat) : Nat → UInt32
  | 0 => FP.fconst0
  | j + 1 => FP.fadd (lens f g j) (rtf (dis (f j) (g j)))
theorem adf_ok : ((List.range 32).all fun a => (List.range 32).all fun b => decide ((nI a - nI b) * (nI a - nI b) = nI ((if a < b then b - a else a - b) * (if a < b then b - a else a - b)))) = true := by decide +kernel
theorem adf {a b : Nat} (ha : a < 32) (hb : b < 32) : (nI a - nI b) * (nI a - nI b) = nI ((if a < b then b - a else a - b) * (if a < b then b - a else a - b)) :=
  of_decide_eq_true (List.all_eq_true.mp (List.all_eq_true.mp adf_ok a (List.mem_range.mpr ha)) b (List.mem_range.mpr hb))
theorem dis_I {p q : Nat} (hp : p < 1024) (hq : q < 1024) : (nI (p % 32) - nI (q % 32)) * (nI (p % 32) - nI (q % 32)) + (nI (p / 32) - nI (q / 32)) * (nI (p / 32) - nI (q / 32)) = nI (dis p q) := by
  rw [adf (by omega) (by omega), adf (by omega) (by omega), nI_add]
  rfl
theorem dis_rch {p q : Nat} (hp : p < 1024) (hq : q < 1024) (h : p ≠ q) : rch (dis p q) = true := by
  unfold dis
  refine rch_ok ?_ ?_ ?_
  · split <;> omega
  · split <;> omega
  · intro z
    have z1 := z.1
    have z2 := z.2
    split at z1 <;> split at z2 <;> omega
theorem l32 : (32 : Int32) = nI 32 := rfl
theorem z32n : (¬ (nI 32 : Int32) = 0) = True := eq_true (by decide)
theorem lens_ok {f g : Nat → Nat} : ∀ n, (∀ j, j < n → f j < 1024 ∧ g j < 1024 ∧ f j ≠ g j) → lens f g n ≤ 2139095040
  | 0, _ => by show FP.fconst0 ≤ 2139095040; decide
  | n + 1, h => by
    obtain ⟨_, _, _, _, _, _, h5⟩ := rch_spec (dis_rch (h n (by omega)).1 (h n (by omega)).2.1 (h n (by omega)).2.2)
    exact fp_add (lens_ok n fun j hj => h j (by omega)) h5
/-- the strokes of a drawing as numbers -/
def pts (R : MR) (i n : Nat) (f g : Nat → Nat) : Prop := ∀ j, j < n → (f j < 1024 ∧ g j < 1024 ∧ f j ≠ g j) ∧ R.1 3 (24 * i + j) = nI (f j) ∧ R.1 4 (24 * i + j) = nI (g j)
theorem S_lengthOf_l (h : mok st mo) {i n : Nat} {f g : Nat → Nat} (hi : i < 12) (hn : n ≤ 24) (hd : R.1 1 i = nI n) (hp : pts R i n f g) : ∀ (m j : Nat) (l4 l5 : Value), j + m = n → AW X (d + 1) 86 7 [.ref mo, .int (nI i), .float (lens f g j), .int (nI (24 * i + j)), l4, l5] [] (mw st mo R) P = P (.inl (some (.float (lens f g n)))) (mw st mo R) := by
  intro m
  induction m with
  | zero =>
    intro j l4 l5 hj
    have e : j = n := by omega
    subst e
    rw [E_X6_lengthOf_7]
    have hz := zix_nI (show i < 12 by omega) (by decide)
    simp only [E_X6_lengthOf_0, E_X6_lengthOf_1, E_X6_lengthOf_2, E_X6_lengthOf_4, E_X6_lengthOf_5, E_X6_lengthOf_6, E_X6_lengthOf_8, E_X6_lengthOf_10, E_X6_lengthOf_11, E_X6_lengthOf_12, E_X6_lengthOf_12n, E_X6_lengthOf_13, E_X6_lengthOf_16, E_X6_lengthOf_17, E_X6_lengthOf_18, E_X6_lengthOf_19, E_X6_lengthOf_22, E_X6_lengthOf_22n, E_X6_lengthOf_23, E_X6_lengthOf_26, E_X6_lengthOf_27, E_X6_lengthOf_28, E_X6_lengthOf_30, E_X6_lengthOf_31, E_X6_lengthOf_31n, E_X6_lengthOf_32, E_X6_lengthOf_35, E_X6_lengthOf_36, E_X6_lengthOf_37, E_X6_lengthOf_39, E_X6_lengthOf_40, E_X6_lengthOf_41, E_X6_lengthOf_43, E_X6_lengthOf_43n, E_X6_lengthOf_44, E_X6_lengthOf_47, E_X6_lengthOf_48, E_X6_lengthOf_49, E_X6_lengthOf_51, E_X6_lengthOf_52, E_X6_lengthOf_52n, E_X6_lengthOf_53, E_X6_lengthOf_56, E_X6_lengthOf_57, E_X6_lengthOf_58, E_X6_lengthOf_60, E_X6_lengthOf_61, E_X6_lengthOf_62, E_X6_lengthOf_64, E_X6_lengthOf_65, E_X6_lengthOf_65n, E_X6_lengthOf_66, E_X6_lengthOf_68, E_X6_lengthOf_70, E_X6_lengthOf_71, E_X6_lengthOf_73, E_X6_lengthOf_75, E_X6_lengthOf_76, E_X6_lengthOf_77, E_X6_lengthOf_80, E_X6_lengthOf_81, E_X6_lengthOf_82, E_X6_lengthOf_83, E_X6_lengthOf_86, E_X6_lengthOf_89, E_X6_lengthOf_90, zwith_some, zwith_none, zif_true, zaft_inl, Option.toList_some, Option.toList_none, List.cons_append, List.nil_append, zc1_int, zc1_ref, zc1_null, zc1_float, List.length_nil, List.length_cons, Nat.reduceAdd, Nat.reduceLeDiff, Nat.zero_add, z1and, z0and, zl00, zl01, zl02, zl03, ze00, ze10, ze20, ze30, if_true, if_false, mget h, mrd h, hz, hd, l24, pk_mul, nI_add]
    rw [if_pos (nI_le (Nat.le_refl _) (by omega))]
  | succ m ih =>
    intro j l4 l5 hj
    have hpj := hp j (by omega)
    obtain ⟨⟨p1, p2, p3⟩, p4, p5⟩ := hpj
    obtain ⟨r, r2, _, r4, _, r6, r7⟩ := rch_spec (dis_rch p1 p2 p3)
    have hz := zix_nI (show i < 12 by omega) (by decide)
    have hz2 := zix_nI (show 24 * i + j < 288 by omega) (by decide)
    have hlt : ¬ nI (24 * i + n) ≤ nI (24 * i + j) := nI_ge (by omega) (by omega)
    have hrt := fun {P} => S_root (X := X) (d := d) (mo := mo) (st := mw st mo R) (P := P) r4
    have hzn : zn32 (FP.fadd (lens f g j) (rtf (dis (f j) (g j)))) = true := fp_zn (fp_add (lens_ok j fun k hk => (hp k (by omega)).1) r7)
    have hd1 := dis_I p1 p2
    have k1 := pk_rem (a := f j) (d := 32) (by omega) (by decide) (by decide)
    have k2 := pk_rem (a := g j) (d := 32) (by omega) (by decide) (by decide)
    have k3 := pk_div (a := f j) (d := 32) (by omega) (by decide) (by decide)
    have k4 := pk_div (a := g j) (d := 32) (by omega) (by decide) (by decide)
    have r8 : zn32 (FP.d2f r2) = true := by rw [r6]; exact fp_zn r7
    rw [E_X6_lengthOf_7]
    simp only [E_X6_lengthOf_0, E_X6_lengthOf_1, E_X6_lengthOf_2, E_X6_lengthOf_4, E_X6_lengthOf_5, E_X6_lengthOf_6, E_X6_lengthOf_8, E_X6_lengthOf_10, E_X6_lengthOf_11, E_X6_lengthOf_12, E_X6_lengthOf_12n, E_X6_lengthOf_13, E_X6_lengthOf_16, E_X6_lengthOf_17, E_X6_lengthOf_18, E_X6_lengthOf_19, E_X6_lengthOf_22, E_X6_lengthOf_22n, E_X6_lengthOf_23, E_X6_lengthOf_26, E_X6_lengthOf_27, E_X6_lengthOf_28, E_X6_lengthOf_30, E_X6_lengthOf_31, E_X6_lengthOf_31n, E_X6_lengthOf_32, E_X6_lengthOf_35, E_X6_lengthOf_36, E_X6_lengthOf_37, E_X6_lengthOf_39, E_X6_lengthOf_40, E_X6_lengthOf_41, E_X6_lengthOf_43, E_X6_lengthOf_43n, E_X6_lengthOf_44, E_X6_lengthOf_47, E_X6_lengthOf_48, E_X6_lengthOf_49, E_X6_lengthOf_51, E_X6_lengthOf_52, E_X6_lengthOf_52n, E_X6_lengthOf_53, E_X6_lengthOf_56, E_X6_lengthOf_57, E_X6_lengthOf_58, E_X6_lengthOf_60, E_X6_lengthOf_61, E_X6_lengthOf_62, E_X6_lengthOf_64, E_X6_lengthOf_65, E_X6_lengthOf_65n, E_X6_lengthOf_66, E_X6_lengthOf_68, E_X6_lengthOf_70, E_X6_lengthOf_71, E_X6_lengthOf_73, E_X6_lengthOf_75, E_X6_lengthOf_76, E_X6_lengthOf_77, E_X6_lengthOf_80, E_X6_lengthOf_81, E_X6_lengthOf_82, E_X6_lengthOf_83, E_X6_lengthOf_86, E_X6_lengthOf_89, E_X6_lengthOf_90, zwith_some, zwith_none, zif_true, zaft_inl, Option.toList_some, Option.toList_none, List.cons_append, List.nil_append, zc1_int, zc1_ref, zc1_null, zc1_float, List.length_nil, List.length_cons, Nat.reduceAdd, Nat.reduceLeDiff, Nat.zero_add, z1and, z0and, zl00, zl01, zl02, zl03, ze00, ze10, ze20, ze30, if_true, if_false, mget h, mrd h, mis h, hz, hz2, hd, l24, pk_mul, nI_add, hlt, p4, p5, l32, z32n, k1, k2]
    simp only [k3, k4, hd1, hrt]
    simp only [E_X6_lengthOf_0, E_X6_lengthOf_1, E_X6_lengthOf_2, E_X6_lengthOf_4, E_X6_lengthOf_5, E_X6_lengthOf_6, E_X6_lengthOf_8, E_X6_lengthOf_10, E_X6_lengthOf_11, E_X6_lengthOf_12, E_X6_lengthOf_12n, E_X6_lengthOf_13, E_X6_lengthOf_16, E_X6_lengthOf_17, E_X6_lengthOf_18, E_X6_lengthOf_19, E_X6_lengthOf_22, E_X6_lengthOf_22n, E_X6_lengthOf_23, E_X6_lengthOf_26, E_X6_lengthOf_27, E_X6_lengthOf_28, E_X6_lengthOf_30, E_X6_lengthOf_31, E_X6_lengthOf_31n, E_X6_lengthOf_32, E_X6_lengthOf_35, E_X6_lengthOf_36, E_X6_lengthOf_37, E_X6_lengthOf_39, E_X6_lengthOf_40, E_X6_lengthOf_41, E_X6_lengthOf_43, E_X6_lengthOf_43n, E_X6_lengthOf_44, E_X6_lengthOf_47, E_X6_lengthOf_48, E_X6_lengthOf_49, E_X6_lengthOf_51, E_X6_lengthOf_52, E_X6_lengthOf_52n, E_X6_lengthOf_53, E_X6_lengthOf_56, E_X6_lengthOf_57, E_X6_lengthOf_58, E_X6_lengthOf_60, E_X6_lengthOf_61, E_X6_lengthOf_62, E_X6_lengthOf_64, E_X6_lengthOf_65, E_X6_lengthOf_65n, E_X6_lengthOf_66, E_X6_lengthOf_68, E_X6_lengthOf_70, E_X6_lengthOf_71, E_X6_lengthOf_73, E_X6_lengthOf_75, E_X6_lengthOf_76, E_X6_lengthOf_77, E_X6_lengthOf_80, E_X6_lengthOf_81, E_X6_lengthOf_82, E_X6_lengthOf_83, E_X6_lengthOf_86, E_X6_lengthOf_89, E_X6_lengthOf_90, zwith_some, zwith_none, zif_true, zaft_inl, Option.toList_some, Option.toList_none, List.cons_append, List.nil_append, zc1_int, zc1_ref, zc1_null, zc1_float, List.length_nil, List.length_cons, Nat.reduceAdd, Nat.reduceLeDiff, Nat.zero_add, z1and, z0and, zl00, zl01, zl02, zl03, ze00, ze10, ze20, ze30, if_true, if_false, r6, r8, hzn, fp_zn r7, nI_1, Nat.add_assoc]
    exact ih (j + 1) _ _ (by omega)
theorem S_lengthOf (h : mok st mo) {i n : Nat} {f g : Nat → Nat} (hi : i < 12) (hn : n ≤ 24) (hd : R.1 1 i = nI n) (hp : pts R i n f g) : AC X (d + 2) 86 [.ref mo, .int (nI i)] (mw st mo R) P = P (.inl (some (.float (lens f g n)))) (mw st mo R) := by
  rw [A_X6_lengthOf]
  simp only [E_X6_lengthOf_0, E_X6_lengthOf_1, E_X6_lengthOf_2, E_X6_lengthOf_4, E_X6_lengthOf_5, E_X6_lengthOf_6, E_X6_lengthOf_8, E_X6_lengthOf_10, E_X6_lengthOf_11, E_X6_lengthOf_12, E_X6_lengthOf_12n, E_X6_lengthOf_13, E_X6_lengthOf_16, E_X6_lengthOf_17, E_X6_lengthOf_18, E_X6_lengthOf_19, E_X6_lengthOf_22, E_X6_lengthOf_22n, E_X6_lengthOf_23, E_X6_lengthOf_26, E_X6_lengthOf_27, E_X6_lengthOf_28, E_X6_lengthOf_30, E_X6_lengthOf_31, E_X6_lengthOf_31n, E_X6_lengthOf_32, E_X6_lengthOf_35, E_X6_lengthOf_36, E_X6_lengthOf_37, E_X6_lengthOf_39, E_X6_lengthOf_40, E_X6_lengthOf_41, E_X6_lengthOf_43, E_X6_lengthOf_43n, E_X6_lengthOf_44, E_X6_lengthOf_47, E_X6_lengthOf_48, E_X6_lengthOf_49, E_X6_lengthOf_51, E_X6_lengthOf_52, E_X6_lengthOf_52n, E_X6_lengthOf_53, E_X6_lengthOf_56, E_X6_lengthOf_57, E_X6_lengthOf_58, E_X6_lengthOf_60, E_X6_lengthOf_61, E_X6_lengthOf_62, E_X6_lengthOf_64, E_X6_lengthOf_65, E_X6_lengthOf_65n, E_X6_lengthOf_66, E_X6_lengthOf_68, E_X6_lengthOf_70, E_X6_lengthOf_71, E_X6_lengthOf_73, E_X6_lengthOf_75, E_X6_lengthOf_76, E_X6_lengthOf_77, E_X6_lengthOf_80, E_X6_lengthOf_81, E_X6_lengthOf_82, E_X6_lengthOf_83, E_X6_lengthOf_86, E_X6_lengthOf_89, E_X6_lengthOf_90, zwith_some, zwith_none, zif_true, zaft_inl, Option.toList_some, Option.toList_none, List.cons_append, List.nil_append, zc1_int, zc1_ref, zc1_null, zc1_float, List.length_nil, List.length_cons, Nat.reduceAdd, Nat.reduceLeDiff, Nat.zero_add, z1and, z0and, zl00, zl01, zl02, zl03, ze00, ze10, ze20, ze30, if_true, if_false, l24, pk_mul]
  exact S_lengthOf_l h hi hn hd hp n 0 _ _ (by omega)
end R6
