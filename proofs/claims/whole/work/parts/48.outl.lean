/-! OUTLINES: the small methods, size, length -/
section CO
variable {X : ZX} {d : Nat} {st : ZS} {G : CG} {V : CV} {P : ZO → ZS → Prop} {x y : Int32} {n m : Nat} {f g : Nat → Nat}
abbrev oul (V : CV) (n m : Nat) (f g : Nat → Nat) : Prop := V.i 7 n = nI m ∧ m ≤ 24 ∧ ∀ k, k < m → V.s n k = nI (1024 * f k + g k) ∧ f k < 1024 ∧ g k < 1024
theorem l1024 : (1024 : Int32) = nI 1024 := rfl
theorem z1024 : (¬ (nI 1024 : Int32) = 0) = True := eq_true (by decide)
theorem C_fromOf {a b : Nat} (ha : a < 1024) (hb : b < 1024) : AC X (d + 1) 21 [.int (nI (1024 * a + b))] st P = P (.inl (some (.int (nI a)))) st := by
  have k := pk_div (a := 1024 * a + b) (d := 1024) (by omega) (by decide) (by decide)
  rw [show (1024 * a + b) / 1024 = a by omega] at k
  rw [A_X2_fromOf]
  simp only [E_X2_fromOf_0, E_X2_fromOf_1, E_X2_fromOf_4, E_X2_fromOf_5, zwith_some, zwith_none, zif_true, zaft_inl, Option.toList_some, Option.toList_none, List.cons_append, List.nil_append, zc1_int, zc1_ref, zc1_null, zc1_float, List.length_nil, List.length_cons, Nat.reduceAdd, Nat.reduceLeDiff, Nat.zero_add, z1and, z0and, zl00, zl01, zl02, zl03, ze00, ze10, ze20, ze30, if_true, if_false, l1024, z1024, k]
theorem C_toOf {a b : Nat} (ha : a < 1024) (hb : b < 1024) : AC X (d + 1) 22 [.int (nI (1024 * a + b))] st P = P (.inl (some (.int (nI b)))) st := by
  have k := pk_rem (a := 1024 * a + b) (d := 1024) (by omega) (by decide) (by decide)
  rw [show (1024 * a + b) % 1024 = b by omega] at k
  rw [A_X2_toOf]
  simp only [E_X2_toOf_0, E_X2_toOf_1, E_X2_toOf_4, E_X2_toOf_5, zwith_some, zwith_none, zif_true, zaft_inl, Option.toList_some, Option.toList_none, List.cons_append, List.nil_append, zc1_int, zc1_ref, zc1_null, zc1_float, List.length_nil, List.length_cons, Nat.reduceAdd, Nat.reduceLeDiff, Nat.zero_add, z1and, z0and, zl00, zl01, zl02, zl03, ze00, ze10, ze20, ze30, if_true, if_false, l1024, z1024, k]
theorem C_xOf {a : Nat} (ha : a < 1024) : AC X (d + 1) 23 [.int (nI a)] st P = P (.inl (some (.int (nI (a % 32))))) st := by
  have k := pk_rem (a := a) (d := 32) (by omega) (by decide) (by decide)
  rw [A_X2_xOf]
  simp only [E_X2_xOf_0, E_X2_xOf_1, E_X2_xOf_3, E_X2_xOf_4, zwith_some, zwith_none, zif_true, zaft_inl, Option.toList_some, Option.toList_none, List.cons_append, List.nil_append, zc1_int, zc1_ref, zc1_null, zc1_float, List.length_nil, List.length_cons, Nat.reduceAdd, Nat.reduceLeDiff, Nat.zero_add, z1and, z0and, zl00, zl01, zl02, zl03, ze00, ze10, ze20, ze30, if_true, if_false, l32, z32n, k]
theorem C_yOf {a : Nat} (ha : a < 1024) : AC X (d + 1) 24 [.int (nI a)] st P = P (.inl (some (.int (nI (a / 32))))) st := by
  have k := pk_div (a := a) (d := 32) (by omega) (by decide) (by decide)
  rw [A_X2_yOf]
  simp only [E_X2_yOf_0, E_X2_yOf_1, E_X2_yOf_3, E_X2_yOf_4, zwith_some, zwith_none, zif_true, zaft_inl, Option.toList_some, Option.toList_none, List.cons_append, List.nil_append, zc1_int, zc1_ref, zc1_null, zc1_float, List.length_nil, List.length_cons, Nat.reduceAdd, Nat.reduceLeDiff, Nat.zero_add, z1and, z0and, zl00, zl01, zl02, zl03, ze00, ze10, ze20, ze30, if_true, if_false, l32, z32n, k]
theorem C_root_l {n : Int32} {st : ZS} : ∀ (m k : Nat) (r r2 : UInt64), k + m = 16 → rgo (FP.i2d n) m r = some r2 → AW X d 26 11 [.int n, .double r, .retAddr 1, .int (nI k)] [] st P = P (.inl (some (.double r2))) st := by
  intro m
  induction m with
  | zero =>
    intro k r r2 hk hr
    have e : k = 16 := by omega
    subst e
    cases hr
    rw [E_X2_root_11]
    simp only [E_X2_root_0, E_X2_root_1, E_X2_root_4, E_X2_root_5, E_X2_root_6, E_X2_root_7, E_X2_root_8, E_X2_root_9, E_X2_root_10, E_X2_root_12, E_X2_root_14, E_X2_root_17, E_X2_root_18, E_X2_root_19, E_X2_root_20, E_X2_root_23, E_X2_root_24, E_X2_root_25, E_X2_root_26, E_X2_root_27, E_X2_root_28, E_X2_root_29, E_X2_root_32, E_X2_root_33, E_X2_root_34, E_X2_root_37, E_X2_root_40, E_X2_root_41, zwith_some, zwith_none, zif_true, zaft_inl, Option.toList_some, Option.toList_none, List.cons_append, List.nil_append, zc1_int, zc1_ref, zc1_null, zc1_float, List.length_nil, List.length_cons, Nat.reduceAdd, Nat.reduceLeDiff, Nat.zero_add, z1and, z0and, zl00, zl01, zl02, zl03, ze00, ze10, ze20, ze30, if_true, if_false, show (16 : Int32) = nI 16 from rfl]
    rw [if_pos (nI_le (Nat.le_refl _) (by omega))]
  | succ m ih =>
    intro k r r2 hk hr
    unfold rgo at hr
    split at hr
    · rename_i c
      obtain ⟨c1, c2, c3, c4⟩ := c
      have c4 : Op.cmpValue (FP.dcmp r FP.dconst0) .l = 1 := of_decide_eq_true c4
      have c5 : ¬ (1 : Int32) ≤ 0 := by decide
      have ih := ih (k + 1) (rst (FP.i2d n) r) r2 (by omega) hr
      have c3' : zn64 (FP.ddiv (FP.dadd r (FP.ddiv (FP.i2d n) r)) 4611686018427387904) = true := c3
      have hlt : ¬ nI 16 ≤ nI k := nI_ge (by omega) (by omega)
      rw [E_X2_root_11]
      simp only [E_X2_root_0, E_X2_root_1, E_X2_root_4, E_X2_root_5, E_X2_root_6, E_X2_root_7, E_X2_root_8, E_X2_root_9, E_X2_root_10, E_X2_root_12, E_X2_root_14, E_X2_root_17, E_X2_root_18, E_X2_root_19, E_X2_root_20, E_X2_root_23, E_X2_root_24, E_X2_root_25, E_X2_root_26, E_X2_root_27, E_X2_root_28, E_X2_root_29, E_X2_root_32, E_X2_root_33, E_X2_root_34, E_X2_root_37, E_X2_root_40, E_X2_root_41, zwith_some, zwith_none, zif_true, zaft_inl, Option.toList_some, Option.toList_none, List.cons_append, List.nil_append, zc1_int, zc1_ref, zc1_null, zc1_float, List.length_nil, List.length_cons, Nat.reduceAdd, Nat.reduceLeDiff, Nat.zero_add, z1and, z0and, zl00, zl01, zl02, zl03, ze00, ze10, ze20, ze30, if_true, if_false, show (16 : Int32) = nI 16 from rfl, hlt, c1, c2, c3', c4, c5, eqs, nI_1]
      exact ih
    · cases hr
theorem C_root {n : Nat} {r2 : UInt64} (hn : 0 < n) (hn2 : n < 2 ^ 31) (hr : rgo (FP.i2d (nI n)) 16 (FP.i2d (nI n)) = some r2) : AC X (d + 1) 26 [.int (nI n)] st P = P (.inl (some (.double r2))) st := by
  have h0 : 0 < nI n := nI_lt (a := 0) hn hn2
  rw [A_X2_root]
  simp only [E_X2_root_0, E_X2_root_1, E_X2_root_4, E_X2_root_5, E_X2_root_6, E_X2_root_7, E_X2_root_8, E_X2_root_9, E_X2_root_10, E_X2_root_12, E_X2_root_14, E_X2_root_17, E_X2_root_18, E_X2_root_19, E_X2_root_20, E_X2_root_23, E_X2_root_24, E_X2_root_25, E_X2_root_26, E_X2_root_27, E_X2_root_28, E_X2_root_29, E_X2_root_32, E_X2_root_33, E_X2_root_34, E_X2_root_37, E_X2_root_40, E_X2_root_41, zwith_some, zwith_none, zif_true, zaft_inl, Option.toList_some, Option.toList_none, List.cons_append, List.nil_append, zc1_int, zc1_ref, zc1_null, zc1_float, List.length_nil, List.length_cons, Nat.reduceAdd, Nat.reduceLeDiff, Nat.zero_add, z1and, z0and, zl00, zl01, zl02, zl03, ze00, ze10, ze20, ze30, if_true, if_false, h0]
  exact C_root_l 16 0 _ _ (by omega) hr
theorem dis_pos {p q : Nat} (hp : p < 1024) (hq : q < 1024) (h : p ≠ q) : 0 < dis p q ∧ dis p q < 2000 := by
  have hb : ∀ a b : Nat, a < 32 → b < 32 → (if a < b then b - a else a - b) ≤ 31 := by
    intro a b _ _
    split <;> omega
  have h1 := hb (p % 32) (q % 32) (by omega) (by omega)
  have h2 := hb (p / 32) (q / 32) (by omega) (by omega)
  have h3 := Nat.mul_le_mul h1 h1
  have h4 := Nat.mul_le_mul h2 h2
  unfold dis
  refine ⟨?_, by omega⟩
  rcases Nat.eq_zero_or_pos (if p % 32 < q % 32 then q % 32 - p % 32 else p % 32 - q % 32) with e | e
  · rcases Nat.eq_zero_or_pos (if p / 32 < q / 32 then q / 32 - p / 32 else p / 32 - q / 32) with e2 | e2
    · exfalso
      split at e <;> split at e2 <;> omega
    · have := Nat.mul_pos e2 e2
      omega
  · have := Nat.mul_pos e e
    omega
theorem C_distance {p q : Nat} (hp : p < 1024) (hq : q < 1024) (h : p ≠ q) : AC X (d + 2) 25 [.int (nI p), .int (nI q)] st P = P (.inl (some (.float (rtf (dis p q))))) st := by
  obtain ⟨r, r2, r3, r4, r5, r6, r7⟩ := rch_spec (dis_rch hp hq h)
  obtain ⟨h0, h1⟩ := dis_pos hp hq h
  have hd1 := dis_I hp hq
  have hr := fun {d} {P} => C_root (X := X) (d := d) (st := st) (P := P) h0 (by omega) r3
  have r8 : zn32 (FP.d2f r) = true := by rw [r5]; exact fp_zn r7
  rw [A_X2_distance]
  simp only [E_X2_distance_0, E_X2_distance_1, E_X2_distance_4, E_X2_distance_5, E_X2_distance_8, E_X2_distance_9, E_X2_distance_10, E_X2_distance_11, E_X2_distance_14, E_X2_distance_15, E_X2_distance_18, E_X2_distance_19, E_X2_distance_20, E_X2_distance_21, E_X2_distance_22, E_X2_distance_23, E_X2_distance_24, E_X2_distance_25, E_X2_distance_26, E_X2_distance_27, E_X2_distance_30, E_X2_distance_31, zwith_some, zwith_none, zif_true, zaft_inl, Option.toList_some, Option.toList_none, List.cons_append, List.nil_append, zc1_int, zc1_ref, zc1_null, zc1_float, List.length_nil, List.length_cons, Nat.reduceAdd, Nat.reduceLeDiff, Nat.zero_add, z1and, z0and, zl00, zl01, zl02, zl03, ze00, ze10, ze20, ze30, if_true, if_false, C_xOf hp, C_xOf hq, C_yOf hp, C_yOf hq, hd1, hr, r8, r5, fp_zn r7]
theorem C_sum_l (h : cok st G) (ho : G.live (.ou n)) (hs : G.live (.sk n)) (hl : oul V n m f g) (hne : ∀ k, k < m → f k ≠ g k) : ∀ (k j : Nat), j + k = m → AW X (d + 3) 20 4 [.ref (G.A (.ou n)), .float (lens f g j), .int (nI j)] [] (cw st G V) P = P (.inl (some (.float (lens f g m)))) (cw st G V) := by
  intro k
  induction k with
  | zero =>
    intro j hj
    have e : j = m := by omega
    subst e
    have hle : nI j ≤ nI j := nI_le (Nat.le_refl _) (by have := hl.2.1; omega)
    rw [E_X2_sumOfStrokes_4]
    simp only [E_X2_sumOfStrokes_0, E_X2_sumOfStrokes_1, E_X2_sumOfStrokes_2, E_X2_sumOfStrokes_3, E_X2_sumOfStrokes_5, E_X2_sumOfStrokes_5n, E_X2_sumOfStrokes_6, E_X2_sumOfStrokes_9, E_X2_sumOfStrokes_12, E_X2_sumOfStrokes_13, E_X2_sumOfStrokes_13n, E_X2_sumOfStrokes_14, E_X2_sumOfStrokes_17, E_X2_sumOfStrokes_18, E_X2_sumOfStrokes_21, E_X2_sumOfStrokes_22, E_X2_sumOfStrokes_22n, E_X2_sumOfStrokes_23, E_X2_sumOfStrokes_26, E_X2_sumOfStrokes_27, E_X2_sumOfStrokes_28, E_X2_sumOfStrokes_31, E_X2_sumOfStrokes_31n, E_X2_sumOfStrokes_32, E_X2_sumOfStrokes_35, E_X2_sumOfStrokes_36, E_X2_sumOfStrokes_37, E_X2_sumOfStrokes_40, E_X2_sumOfStrokes_43, E_X2_sumOfStrokes_44, E_X2_sumOfStrokes_45, E_X2_sumOfStrokes_48, E_X2_sumOfStrokes_51, E_X2_sumOfStrokes_52, zwith_some, zwith_none, zif_true, zaft_inl, Option.toList_some, Option.toList_none, List.cons_append, List.nil_append, zc1_int, zc1_ref, zc1_null, zc1_float, List.length_nil, List.length_cons, Nat.reduceAdd, Nat.reduceLeDiff, Nat.zero_add, z1and, z0and, zl00, zl01, zl02, zl03, ze00, ze10, ze20, ze30, if_true, if_false, cg_ou h ho, hl.1, hle]
  | succ k ih =>
    intro j hj
    have ih := ih (j + 1) (by omega)
    have h24 := hl.2.1
    obtain ⟨hk1, hk2, hk3⟩ := hl.2.2 j (by omega)
    have hn := hne j (by omega)
    obtain ⟨r, r2, r3, r4, r5, r6, r7⟩ := rch_spec (dis_rch hk2 hk3 hn)
    have hlt : ¬ nI m ≤ nI j := nI_ge (by omega) (by omega)
    have hlt2 : ¬ nI 24 ≤ nI j := nI_ge (by omega) (by omega)
    have hz := zix_nI (show j < 24 by omega) (by decide)
    have hzn : zn32 (FP.fadd (lens f g j) (rtf (dis (f j) (g j)))) = true := fp_zn (fp_add (lens_ok j fun i hi => ⟨(hl.2.2 i (by omega)).2.1, (hl.2.2 i (by omega)).2.2, hne i (by omega)⟩) r7)
    have hdi := fun {d} {st} {P} => C_distance (X := X) (d := d) (st := st) (P := P) hk2 hk3 hn
    rw [E_X2_sumOfStrokes_4]
    simp only [E_X2_sumOfStrokes_0, E_X2_sumOfStrokes_1, E_X2_sumOfStrokes_2, E_X2_sumOfStrokes_3, E_X2_sumOfStrokes_5, E_X2_sumOfStrokes_5n, E_X2_sumOfStrokes_6, E_X2_sumOfStrokes_9, E_X2_sumOfStrokes_12, E_X2_sumOfStrokes_13, E_X2_sumOfStrokes_13n, E_X2_sumOfStrokes_14, E_X2_sumOfStrokes_17, E_X2_sumOfStrokes_18, E_X2_sumOfStrokes_21, E_X2_sumOfStrokes_22, E_X2_sumOfStrokes_22n, E_X2_sumOfStrokes_23, E_X2_sumOfStrokes_26, E_X2_sumOfStrokes_27, E_X2_sumOfStrokes_28, E_X2_sumOfStrokes_31, E_X2_sumOfStrokes_31n, E_X2_sumOfStrokes_32, E_X2_sumOfStrokes_35, E_X2_sumOfStrokes_36, E_X2_sumOfStrokes_37, E_X2_sumOfStrokes_40, E_X2_sumOfStrokes_43, E_X2_sumOfStrokes_44, E_X2_sumOfStrokes_45, E_X2_sumOfStrokes_48, E_X2_sumOfStrokes_51, E_X2_sumOfStrokes_52, zwith_some, zwith_none, zif_true, zaft_inl, Option.toList_some, Option.toList_none, List.cons_append, List.nil_append, zc1_int, zc1_ref, zc1_null, zc1_float, List.length_nil, List.length_cons, Nat.reduceAdd, Nat.reduceLeDiff, Nat.zero_add, z1and, z0and, zl00, zl01, zl02, zl03, ze00, ze10, ze20, ze30, if_true, if_false, cg_ou h ho, hl.1, hlt, ca_sk (X := X) h hs, show Int32.ofNat 24 = nI 24 from rfl, hlt2, hz, hk1, C_fromOf hk2 hk3, C_toOf hk2 hk3, hdi, hzn, nI_1]
    exact ih
theorem C_sum (h : cok st G) (ho : G.live (.ou n)) (hs : G.live (.sk n)) (hl : oul V n m f g) (hne : ∀ k, k < m → f k ≠ g k) : AC X (d + 4) 20 [.ref (G.A (.ou n))] (cw st G V) P = P (.inl (some (.float (lens f g m)))) (cw st G V) := by
  rw [A_X2_sumOfStrokes]
  simp only [E_X2_sumOfStrokes_0, E_X2_sumOfStrokes_1, E_X2_sumOfStrokes_2, E_X2_sumOfStrokes_3, E_X2_sumOfStrokes_5, E_X2_sumOfStrokes_5n, E_X2_sumOfStrokes_6, E_X2_sumOfStrokes_9, E_X2_sumOfStrokes_12, E_X2_sumOfStrokes_13, E_X2_sumOfStrokes_13n, E_X2_sumOfStrokes_14, E_X2_sumOfStrokes_17, E_X2_sumOfStrokes_18, E_X2_sumOfStrokes_21, E_X2_sumOfStrokes_22, E_X2_sumOfStrokes_22n, E_X2_sumOfStrokes_23, E_X2_sumOfStrokes_26, E_X2_sumOfStrokes_27, E_X2_sumOfStrokes_28, E_X2_sumOfStrokes_31, E_X2_sumOfStrokes_31n, E_X2_sumOfStrokes_32, E_X2_sumOfStrokes_35, E_X2_sumOfStrokes_36, E_X2_sumOfStrokes_37, E_X2_sumOfStrokes_40, E_X2_sumOfStrokes_43, E_X2_sumOfStrokes_44, E_X2_sumOfStrokes_45, E_X2_sumOfStrokes_48, E_X2_sumOfStrokes_51, E_X2_sumOfStrokes_52, zwith_some, zwith_none, zif_true, zaft_inl, Option.toList_some, Option.toList_none, List.cons_append, List.nil_append, zc1_int, zc1_ref, zc1_null, zc1_float, List.length_nil, List.length_cons, Nat.reduceAdd, Nat.reduceLeDiff, Nat.zero_add, z1and, z0and, zl00, zl01, zl02, zl03, ze00, ze10, ze20, ze30, if_true, if_false]
  exact C_sum_l h ho hs hl hne m 0 (by omega)
/-! width and height -/
def mnw (a b : Nat → Int32) : Nat → Int32
  | 0 => 32
  | j + 1 => mn2 (mnw a b j) (mn2 (a j) (b j))
def mxw (a b : Nat → Int32) : Nat → Int32
  | 0 => -1
  | j + 1 => mx2 (mxw a b j) (mx2 (a j) (b j))
theorem mn2_a {x y z : Int32} : mn2 (mn2 x y) z = mn2 x (mn2 y z) := by
  unfold mn2
  have h1 := fun a b : Int32 => Int32.lt_iff_toInt_lt (x := a) (y := b)
  repeat' split
  all_goals first | rfl | (exfalso; simp only [h1] at *; omega)
theorem mx2_a {x y z : Int32} : mx2 (mx2 x y) z = mx2 x (mx2 y z) := by
  unfold mx2
  have h1 := fun a b : Int32 => Int32.lt_iff_toInt_lt (x := a) (y := b)
  repeat' split
  all_goals first | rfl | (exfalso; simp only [h1] at *; omega)
theorem mnw_l {a b : Nat → Int32} : ∀ m, mnw a b m = szl a b m
  | 0 => rfl
  | m + 1 => by
    show mn2 (mnw a b m) (mn2 (a m) (b m)) = mn2 (mn2 (szl a b m) (a m)) (b m)
    rw [mn2_a, mnw_l m]
theorem mxw_m {a b : Nat → Int32} : ∀ m, mxw a b m = szm a b m
  | 0 => rfl
  | m + 1 => by
    show mx2 (mxw a b m) (mx2 (a m) (b m)) = mx2 (mx2 (szm a b m) (a m)) (b m)
    rw [mx2_a, mxw_m m]
theorem mx2_ge {x y : Int32} : y ≤ mx2 x y := by
  unfold mx2
  split
  · exact Int32.le_refl _
  · rename_i c; exact Int32.not_lt.mp c
theorem szm_0 {a b : Nat → Int32} {m : Nat} (h : 0 < m) (hb : 0 ≤ b (m - 1)) : ¬ szm a b m < 0 := by
  obtain ⟨k, rfl⟩ : ∃ k, m = k + 1 := ⟨m - 1, by omega⟩
  rw [Nat.add_sub_cancel] at hb
  show ¬ mx2 (mx2 (szm a b k) (a k)) (b k) < 0
  exact Int32.not_lt.mpr (Int32.le_trans hb mx2_ge)
def ext (w : Bool) (f : Nat → Nat) : Nat → Int32 := fun k => nI (if w = true then f k % 32 else f k / 32)
theorem C_wide_l (h : cok st G) (ho : G.live (.ou n)) (hs : G.live (.sk n)) (hl : oul V n m f g) : ∀ (k j : Nat) (l4 l5 : Value), j + k = m → AW X (d + 1) 18 7 [.ref (G.A (.ou n)), .int (mnw (ext true f) (ext true g) j), .int (mxw (ext true f) (ext true g) j), .int (nI j), l4, l5] [] (cw st G V) P = P (.inl (some (.int (siz (ext true f) (ext true g) m)))) (cw st G V) := by
  intro k
  induction k with
  | zero =>
    intro j l4 l5 hj
    have e : j = m := by omega
    subst e
    have h24 := hl.2.1
    have hle : nI j ≤ nI j := nI_le (Nat.le_refl _) (by omega)
    rw [E_X2_wide_7]
    by_cases c : j = 0
    · subst c
      simp only [E_X2_wide_0, E_X2_wide_2, E_X2_wide_3, E_X2_wide_4, E_X2_wide_5, E_X2_wide_6, E_X2_wide_8, E_X2_wide_8n, E_X2_wide_9, E_X2_wide_12, E_X2_wide_15, E_X2_wide_16, E_X2_wide_16n, E_X2_wide_17, E_X2_wide_20, E_X2_wide_21, E_X2_wide_24, E_X2_wide_24n, E_X2_wide_25, E_X2_wide_28, E_X2_wide_29, E_X2_wide_30, E_X2_wide_33, E_X2_wide_36, E_X2_wide_38, E_X2_wide_38n, E_X2_wide_39, E_X2_wide_42, E_X2_wide_43, E_X2_wide_44, E_X2_wide_47, E_X2_wide_50, E_X2_wide_52, E_X2_wide_53, E_X2_wide_55, E_X2_wide_57, E_X2_wide_60, E_X2_wide_63, E_X2_wide_64, E_X2_wide_65, E_X2_wide_67, E_X2_wide_69, E_X2_wide_72, E_X2_wide_75, E_X2_wide_76, E_X2_wide_79, E_X2_wide_82, E_X2_wide_82n, E_X2_wide_83, E_X2_wide_86, E_X2_wide_89, E_X2_wide_90, E_X2_wide_93, E_X2_wide_94, E_X2_wide_95, E_X2_wide_96, E_X2_wide_97, E_X2_wide_98, zwith_some, zwith_none, zif_true, zaft_inl, Option.toList_some, Option.toList_none, List.cons_append, List.nil_append, zc1_int, zc1_ref, zc1_null, zc1_float, List.length_nil, List.length_cons, Nat.reduceAdd, Nat.reduceLeDiff, Nat.zero_add, z1and, z0and, zl00, zl01, zl02, zl03, ze00, ze10, ze20, ze30, if_true, if_false, cg_ou h ho, hl.1, hle, nI_0]
      rfl
    · have hn0 : ¬ nI j = 0 := nI_ne0 (by omega) (by omega)
      have hb : 0 ≤ ext true g (j - 1) := nI_pos' (by have := (hl.2.2 (j - 1) (by omega)).2.2; split <;> omega)
      simp only [E_X2_wide_0, E_X2_wide_2, E_X2_wide_3, E_X2_wide_4, E_X2_wide_5, E_X2_wide_6, E_X2_wide_8, E_X2_wide_8n, E_X2_wide_9, E_X2_wide_12, E_X2_wide_15, E_X2_wide_16, E_X2_wide_16n, E_X2_wide_17, E_X2_wide_20, E_X2_wide_21, E_X2_wide_24, E_X2_wide_24n, E_X2_wide_25, E_X2_wide_28, E_X2_wide_29, E_X2_wide_30, E_X2_wide_33, E_X2_wide_36, E_X2_wide_38, E_X2_wide_38n, E_X2_wide_39, E_X2_wide_42, E_X2_wide_43, E_X2_wide_44, E_X2_wide_47, E_X2_wide_50, E_X2_wide_52, E_X2_wide_53, E_X2_wide_55, E_X2_wide_57, E_X2_wide_60, E_X2_wide_63, E_X2_wide_64, E_X2_wide_65, E_X2_wide_67, E_X2_wide_69, E_X2_wide_72, E_X2_wide_75, E_X2_wide_76, E_X2_wide_79, E_X2_wide_82, E_X2_wide_82n, E_X2_wide_83, E_X2_wide_86, E_X2_wide_89, E_X2_wide_90, E_X2_wide_93, E_X2_wide_94, E_X2_wide_95, E_X2_wide_96, E_X2_wide_97, E_X2_wide_98, zwith_some, zwith_none, zif_true, zaft_inl, Option.toList_some, Option.toList_none, List.cons_append, List.nil_append, zc1_int, zc1_ref, zc1_null, zc1_float, List.length_nil, List.length_cons, Nat.reduceAdd, Nat.reduceLeDiff, Nat.zero_add, z1and, z0and, zl00, zl01, zl02, zl03, ze00, ze10, ze20, ze30, if_true, if_false, cg_ou h ho, hl.1, hle, hn0, not_false_iff]
      unfold siz
      rw [if_neg (szm_0 (by omega) hb), mnw_l, mxw_m]
  | succ k ih =>
    intro j l4 l5 hj
    have ih := ih (j + 1) (.int (ext true f j)) (.int (ext true g j)) (by omega)
    have h24 := hl.2.1
    obtain ⟨hk1, hk2, hk3⟩ := hl.2.2 j (by omega)
    have hlt : ¬ nI m ≤ nI j := nI_ge (by omega) (by omega)
    have hlt2 : ¬ nI 24 ≤ nI j := nI_ge (by omega) (by omega)
    have hz := zix_nI (show j < 24 by omega) (by decide)
    have e1 : mnw (ext true f) (ext true g) (j + 1) = mn2 (mnw (ext true f) (ext true g) j) (mn2 (nI (f j % 32)) (nI (g j % 32))) := rfl
    have e2 : mxw (ext true f) (ext true g) (j + 1) = mx2 (mxw (ext true f) (ext true g) j) (mx2 (nI (f j % 32)) (nI (g j % 32))) := rfl
    rw [e1, e2] at ih
    unfold mn2 mx2 at ih
    have e3 : ext true f j = nI (f j % 32) := rfl
    have e4 : ext true g j = nI (g j % 32) := rfl
    rw [e3, e4] at ih
    rw [E_X2_wide_7]
    simp only [E_X2_wide_0, E_X2_wide_2, E_X2_wide_3, E_X2_wide_4, E_X2_wide_5, E_X2_wide_6, E_X2_wide_8, E_X2_wide_8n, E_X2_wide_9, E_X2_wide_12, E_X2_wide_15, E_X2_wide_16, E_X2_wide_16n, E_X2_wide_17, E_X2_wide_20, E_X2_wide_21, E_X2_wide_24, E_X2_wide_24n, E_X2_wide_25, E_X2_wide_28, E_X2_wide_29, E_X2_wide_30, E_X2_wide_33, E_X2_wide_36, E_X2_wide_38, E_X2_wide_38n, E_X2_wide_39, E_X2_wide_42, E_X2_wide_43, E_X2_wide_44, E_X2_wide_47, E_X2_wide_50, E_X2_wide_52, E_X2_wide_53, E_X2_wide_55, E_X2_wide_57, E_X2_wide_60, E_X2_wide_63, E_X2_wide_64, E_X2_wide_65, E_X2_wide_67, E_X2_wide_69, E_X2_wide_72, E_X2_wide_75, E_X2_wide_76, E_X2_wide_79, E_X2_wide_82, E_X2_wide_82n, E_X2_wide_83, E_X2_wide_86, E_X2_wide_89, E_X2_wide_90, E_X2_wide_93, E_X2_wide_94, E_X2_wide_95, E_X2_wide_96, E_X2_wide_97, E_X2_wide_98, zwith_some, zwith_none, zif_true, zaft_inl, Option.toList_some, Option.toList_none, List.cons_append, List.nil_append, zc1_int, zc1_ref, zc1_null, zc1_float, List.length_nil, List.length_cons, Nat.reduceAdd, Nat.reduceLeDiff, Nat.zero_add, z1and, z0and, zl00, zl01, zl02, zl03, ze00, ze10, ze20, ze30, if_true, if_false, cg_ou h ho, hl.1, hlt, ca_sk (X := X) h hs, show Int32.ofNat 24 = nI 24 from rfl, hlt2, hz, hk1, C_fromOf hk2 hk3, C_toOf hk2 hk3, C_xOf hk2, C_xOf hk3, nI_1]
    exact ih
theorem C_wide (h : cok st G) (ho : G.live (.ou n)) (hs : G.live (.sk n)) (hl : oul V n m f g) : AC X (d + 2) 18 [.ref (G.A (.ou n))] (cw st G V) P = P (.inl (some (.int (siz (ext true f) (ext true g) m)))) (cw st G V) := by
  rw [A_X2_wide]
  simp only [E_X2_wide_0, E_X2_wide_2, E_X2_wide_3, E_X2_wide_4, E_X2_wide_5, E_X2_wide_6, E_X2_wide_8, E_X2_wide_8n, E_X2_wide_9, E_X2_wide_12, E_X2_wide_15, E_X2_wide_16, E_X2_wide_16n, E_X2_wide_17, E_X2_wide_20, E_X2_wide_21, E_X2_wide_24, E_X2_wide_24n, E_X2_wide_25, E_X2_wide_28, E_X2_wide_29, E_X2_wide_30, E_X2_wide_33, E_X2_wide_36, E_X2_wide_38, E_X2_wide_38n, E_X2_wide_39, E_X2_wide_42, E_X2_wide_43, E_X2_wide_44, E_X2_wide_47, E_X2_wide_50, E_X2_wide_52, E_X2_wide_53, E_X2_wide_55, E_X2_wide_57, E_X2_wide_60, E_X2_wide_63, E_X2_wide_64, E_X2_wide_65, E_X2_wide_67, E_X2_wide_69, E_X2_wide_72, E_X2_wide_75, E_X2_wide_76, E_X2_wide_79, E_X2_wide_82, E_X2_wide_82n, E_X2_wide_83, E_X2_wide_86, E_X2_wide_89, E_X2_wide_90, E_X2_wide_93, E_X2_wide_94, E_X2_wide_95, E_X2_wide_96, E_X2_wide_97, E_X2_wide_98, zwith_some, zwith_none, zif_true, zaft_inl, Option.toList_some, Option.toList_none, List.cons_append, List.nil_append, zc1_int, zc1_ref, zc1_null, zc1_float, List.length_nil, List.length_cons, Nat.reduceAdd, Nat.reduceLeDiff, Nat.zero_add, z1and, z0and, zl00, zl01, zl02, zl03, ze00, ze10, ze20, ze30, if_true, if_false]
  exact C_wide_l h ho hs hl m 0 _ _ (by omega)
theorem C_high_l (h : cok st G) (ho : G.live (.ou n)) (hs : G.live (.sk n)) (hl : oul V n m f g) : ∀ (k j : Nat) (l4 l5 : Value), j + k = m → AW X (d + 1) 19 7 [.ref (G.A (.ou n)), .int (mnw (ext false f) (ext false g) j), .int (mxw (ext false f) (ext false g) j), .int (nI j), l4, l5] [] (cw st G V) P = P (.inl (some (.int (siz (ext false f) (ext false g) m)))) (cw st G V) := by
  intro k
  induction k with
  | zero =>
    intro j l4 l5 hj
    have e : j = m := by omega
    subst e
    have h24 := hl.2.1
    have hle : nI j ≤ nI j := nI_le (Nat.le_refl _) (by omega)
    rw [E_X2_high_7]
    by_cases c : j = 0
    · subst c
      simp only [E_X2_high_0, E_X2_high_2, E_X2_high_3, E_X2_high_4, E_X2_high_5, E_X2_high_6, E_X2_high_8, E_X2_high_8n, E_X2_high_9, E_X2_high_12, E_X2_high_15, E_X2_high_16, E_X2_high_16n, E_X2_high_17, E_X2_high_20, E_X2_high_21, E_X2_high_24, E_X2_high_24n, E_X2_high_25, E_X2_high_28, E_X2_high_29, E_X2_high_30, E_X2_high_33, E_X2_high_36, E_X2_high_38, E_X2_high_38n, E_X2_high_39, E_X2_high_42, E_X2_high_43, E_X2_high_44, E_X2_high_47, E_X2_high_50, E_X2_high_52, E_X2_high_53, E_X2_high_55, E_X2_high_57, E_X2_high_60, E_X2_high_63, E_X2_high_64, E_X2_high_65, E_X2_high_67, E_X2_high_69, E_X2_high_72, E_X2_high_75, E_X2_high_76, E_X2_high_79, E_X2_high_82, E_X2_high_82n, E_X2_high_83, E_X2_high_86, E_X2_high_89, E_X2_high_90, E_X2_high_93, E_X2_high_94, E_X2_high_95, E_X2_high_96, E_X2_high_97, E_X2_high_98, zwith_some, zwith_none, zif_true, zaft_inl, Option.toList_some, Option.toList_none, List.cons_append, List.nil_append, zc1_int, zc1_ref, zc1_null, zc1_float, List.length_nil, List.length_cons, Nat.reduceAdd, Nat.reduceLeDiff, Nat.zero_add, z1and, z0and, zl00, zl01, zl02, zl03, ze00, ze10, ze20, ze30, if_true, if_false, cg_ou h ho, hl.1, hle, nI_0]
      rfl
    · have hn0 : ¬ nI j = 0 := nI_ne0 (by omega) (by omega)
      have hb : 0 ≤ ext false g (j - 1) := nI_pos' (by have := (hl.2.2 (j - 1) (by omega)).2.2; split <;> omega)
      simp only [E_X2_high_0, E_X2_high_2, E_X2_high_3, E_X2_high_4, E_X2_high_5, E_X2_high_6, E_X2_high_8, E_X2_high_8n, E_X2_high_9, E_X2_high_12, E_X2_high_15, E_X2_high_16, E_X2_high_16n, E_X2_high_17, E_X2_high_20, E_X2_high_21, E_X2_high_24, E_X2_high_24n, E_X2_high_25, E_X2_high_28, E_X2_high_29, E_X2_high_30, E_X2_high_33, E_X2_high_36, E_X2_high_38, E_X2_high_38n, E_X2_high_39, E_X2_high_42, E_X2_high_43, E_X2_high_44, E_X2_high_47, E_X2_high_50, E_X2_high_52, E_X2_high_53, E_X2_high_55, E_X2_high_57, E_X2_high_60, E_X2_high_63, E_X2_high_64, E_X2_high_65, E_X2_high_67, E_X2_high_69, E_X2_high_72, E_X2_high_75, E_X2_high_76, E_X2_high_79, E_X2_high_82, E_X2_high_82n, E_X2_high_83, E_X2_high_86, E_X2_high_89, E_X2_high_90, E_X2_high_93, E_X2_high_94, E_X2_high_95, E_X2_high_96, E_X2_high_97, E_X2_high_98, zwith_some, zwith_none, zif_true, zaft_inl, Option.toList_some, Option.toList_none, List.cons_append, List.nil_append, zc1_int, zc1_ref, zc1_null, zc1_float, List.length_nil, List.length_cons, Nat.reduceAdd, Nat.reduceLeDiff, Nat.zero_add, z1and, z0and, zl00, zl01, zl02, zl03, ze00, ze10, ze20, ze30, if_true, if_false, cg_ou h ho, hl.1, hle, hn0, not_false_iff]
      unfold siz
      rw [if_neg (szm_0 (by omega) hb), mnw_l, mxw_m]
  | succ k ih =>
    intro j l4 l5 hj
    have ih := ih (j + 1) (.int (ext false f j)) (.int (ext false g j)) (by omega)
    have h24 := hl.2.1
    obtain ⟨hk1, hk2, hk3⟩ := hl.2.2 j (by omega)
    have hlt : ¬ nI m ≤ nI j := nI_ge (by omega) (by omega)
    have hlt2 : ¬ nI 24 ≤ nI j := nI_ge (by omega) (by omega)
    have hz := zix_nI (show j < 24 by omega) (by decide)
    have e1 : mnw (ext false f) (ext false g) (j + 1) = mn2 (mnw (ext false f) (ext false g) j) (mn2 (nI (f j / 32)) (nI (g j / 32))) := rfl
    have e2 : mxw (ext false f) (ext false g) (j + 1) = mx2 (mxw (ext false f) (ext false g) j) (mx2 (nI (f j / 32)) (nI (g j / 32))) := rfl
    rw [e1, e2] at ih
    unfold mn2 mx2 at ih
    have e3 : ext false f j = nI (f j / 32) := rfl
    have e4 : ext false g j = nI (g j / 32) := rfl
    rw [e3, e4] at ih
    rw [E_X2_high_7]
    simp only [E_X2_high_0, E_X2_high_2, E_X2_high_3, E_X2_high_4, E_X2_high_5, E_X2_high_6, E_X2_high_8, E_X2_high_8n, E_X2_high_9, E_X2_high_12, E_X2_high_15, E_X2_high_16, E_X2_high_16n, E_X2_high_17, E_X2_high_20, E_X2_high_21, E_X2_high_24, E_X2_high_24n, E_X2_high_25, E_X2_high_28, E_X2_high_29, E_X2_high_30, E_X2_high_33, E_X2_high_36, E_X2_high_38, E_X2_high_38n, E_X2_high_39, E_X2_high_42, E_X2_high_43, E_X2_high_44, E_X2_high_47, E_X2_high_50, E_X2_high_52, E_X2_high_53, E_X2_high_55, E_X2_high_57, E_X2_high_60, E_X2_high_63, E_X2_high_64, E_X2_high_65, E_X2_high_67, E_X2_high_69, E_X2_high_72, E_X2_high_75, E_X2_high_76, E_X2_high_79, E_X2_high_82, E_X2_high_82n, E_X2_high_83, E_X2_high_86, E_X2_high_89, E_X2_high_90, E_X2_high_93, E_X2_high_94, E_X2_high_95, E_X2_high_96, E_X2_high_97, E_X2_high_98, zwith_some, zwith_none, zif_true, zaft_inl, Option.toList_some, Option.toList_none, List.cons_append, List.nil_append, zc1_int, zc1_ref, zc1_null, zc1_float, List.length_nil, List.length_cons, Nat.reduceAdd, Nat.reduceLeDiff, Nat.zero_add, z1and, z0and, zl00, zl01, zl02, zl03, ze00, ze10, ze20, ze30, if_true, if_false, cg_ou h ho, hl.1, hlt, ca_sk (X := X) h hs, show Int32.ofNat 24 = nI 24 from rfl, hlt2, hz, hk1, C_fromOf hk2 hk3, C_toOf hk2 hk3, C_yOf hk2, C_yOf hk3, nI_1]
    exact ih
theorem C_high (h : cok st G) (ho : G.live (.ou n)) (hs : G.live (.sk n)) (hl : oul V n m f g) : AC X (d + 2) 19 [.ref (G.A (.ou n))] (cw st G V) P = P (.inl (some (.int (siz (ext false f) (ext false g) m)))) (cw st G V) := by
  rw [A_X2_high]
  simp only [E_X2_high_0, E_X2_high_2, E_X2_high_3, E_X2_high_4, E_X2_high_5, E_X2_high_6, E_X2_high_8, E_X2_high_8n, E_X2_high_9, E_X2_high_12, E_X2_high_15, E_X2_high_16, E_X2_high_16n, E_X2_high_17, E_X2_high_20, E_X2_high_21, E_X2_high_24, E_X2_high_24n, E_X2_high_25, E_X2_high_28, E_X2_high_29, E_X2_high_30, E_X2_high_33, E_X2_high_36, E_X2_high_38, E_X2_high_38n, E_X2_high_39, E_X2_high_42, E_X2_high_43, E_X2_high_44, E_X2_high_47, E_X2_high_50, E_X2_high_52, E_X2_high_53, E_X2_high_55, E_X2_high_57, E_X2_high_60, E_X2_high_63, E_X2_high_64, E_X2_high_65, E_X2_high_67, E_X2_high_69, E_X2_high_72, E_X2_high_75, E_X2_high_76, E_X2_high_79, E_X2_high_82, E_X2_high_82n, E_X2_high_83, E_X2_high_86, E_X2_high_89, E_X2_high_90, E_X2_high_93, E_X2_high_94, E_X2_high_95, E_X2_high_96, E_X2_high_97, E_X2_high_98, zwith_some, zwith_none, zif_true, zaft_inl, Option.toList_some, Option.toList_none, List.cons_append, List.nil_append, zc1_int, zc1_ref, zc1_null, zc1_float, List.length_nil, List.length_cons, Nat.reduceAdd, Nat.reduceLeDiff, Nat.zero_add, z1and, z0and, zl00, zl01, zl02, zl03, ze00, ze10, ze20, ze30, if_true, if_false]
  exact C_high_l h ho hs hl m 0 _ _ (by omega)
end CO
