/-! PIECES: their methods over the values -/
section CP
variable {X : ZX} {d : Nat} {st : ZS} {G : CG} {V : CV} {P : ZO → ZS → Prop} {x y : Int32} {n m p q : Nat}
theorem C_area (h : cok st G) (hl : G.live (.pc p)) : AC X (d + 1) 30 [.ref (G.A (.pc p))] (cw st G V) P = P (.inl (some (.int (V.i 11 p * V.i 12 p)))) (cw st G V) := by
  rw [A_X3_area]
  simp only [E_X3_area_0, E_X3_area_0n, E_X3_area_1, E_X3_area_4, E_X3_area_4n, E_X3_area_5, E_X3_area_8, E_X3_area_9, zwith_some, zwith_none, zif_true, zaft_inl, Option.toList_some, Option.toList_none, List.cons_append, List.nil_append, zc1_int, zc1_ref, zc1_null, zc1_float, List.length_nil, List.length_cons, Nat.reduceAdd, Nat.reduceLeDiff, Nat.zero_add, z1and, z0and, zl00, zl01, zl02, zl03, ze00, ze10, ze20, ze30, if_true, if_false, cg_pc h hl]
def hdV (V : CV) (p : Nat) (w h : Int32) : Bool := decide (V.i 13 p = 0) && (decide (w ≤ V.i 11 p) && decide (h ≤ V.i 12 p))
theorem C_holds (h : cok st G) (hl : G.live (.pc p)) {w hh : Int32} : AC X (d + 1) 29 [.ref (G.A (.pc p)), .int w, .int hh] (cw st G V) P = P (.inl (some (.int (bN (hdV V p w hh))))) (cw st G V) := by
  unfold hdV
  rw [A_X3_holds]
  simp only [E_X3_holds_0, E_X3_holds_0n, E_X3_holds_1, E_X3_holds_4, E_X3_holds_7, E_X3_holds_7n, E_X3_holds_8, E_X3_holds_11, E_X3_holds_12, E_X3_holds_15, E_X3_holds_15n, E_X3_holds_16, E_X3_holds_19, E_X3_holds_20, E_X3_holds_23, E_X3_holds_24, E_X3_holds_27, E_X3_holds_28, zwith_some, zwith_none, zif_true, zaft_inl, Option.toList_some, Option.toList_none, List.cons_append, List.nil_append, zc1_int, zc1_ref, zc1_null, zc1_float, List.length_nil, List.length_cons, Nat.reduceAdd, Nat.reduceLeDiff, Nat.zero_add, z1and, z0and, zl00, zl01, zl02, zl03, ze00, ze10, ze20, ze30, if_true, if_false, cg_pc h hl]
  by_cases c1 : V.i 13 p = 0
  · by_cases c2 : w ≤ V.i 11 p
    · by_cases c3 : hh ≤ V.i 12 p
      · simp only [c1, c2, c3, Int32.not_lt.mpr c2, Int32.not_lt.mpr c3, not_true, if_true, if_false, decide_true, Bool.and_self, zif_true, z1and, bN]
      · simp only [c1, c2, c3, Int32.not_lt.mpr c2, Int32.not_le.mp c3, not_true, if_true, if_false, decide_true, decide_false, Bool.and_false, Bool.and_self, zif_true, z0and, bN, Bool.false_eq_true]
    · simp only [c1, c2, Int32.not_le.mp c2, not_true, if_true, if_false, decide_true, decide_false, Bool.false_and, Bool.and_false, Bool.and_self, zif_true, z0and, bN, Bool.false_eq_true]
  · simp only [c1, not_false_iff, if_true, if_false, decide_false, Bool.false_and, zif_true, z0and, bN, Bool.false_eq_true]
def tcV (V : CV) (p q : Nat) : Bool := decide (V.i 8 p = V.i 8 q) && (decide (V.i 9 p ≤ V.i 9 q + V.i 11 q) && (decide (V.i 9 q ≤ V.i 9 p + V.i 11 p) && (decide (V.i 10 p ≤ V.i 10 q + V.i 12 q) && decide (V.i 10 q ≤ V.i 10 p + V.i 12 p))))
theorem C_touches (h : cok st G) (hl : G.live (.pc p)) (hl2 : G.live (.pc q)) : AC X (d + 1) 31 [.ref (G.A (.pc p)), .ref (G.A (.pc q))] (cw st G V) P = P (.inl (some (.int (bN (tcV V p q))))) (cw st G V) := by
  unfold tcV
  rw [A_X3_touches rfl]
  simp only [E_X3_touches_0, E_X3_touches_0n, E_X3_touches_1, E_X3_touches_4, E_X3_touches_4n, E_X3_touches_5, E_X3_touches_8, E_X3_touches_11, E_X3_touches_11n, E_X3_touches_12, E_X3_touches_15, E_X3_touches_15n, E_X3_touches_16, E_X3_touches_19, E_X3_touches_19n, E_X3_touches_20, E_X3_touches_23, E_X3_touches_24, E_X3_touches_27, E_X3_touches_27n, E_X3_touches_28, E_X3_touches_31, E_X3_touches_31n, E_X3_touches_32, E_X3_touches_35, E_X3_touches_35n, E_X3_touches_36, E_X3_touches_39, E_X3_touches_40, E_X3_touches_43, E_X3_touches_43n, E_X3_touches_44, E_X3_touches_47, E_X3_touches_47n, E_X3_touches_48, E_X3_touches_51, E_X3_touches_51n, E_X3_touches_52, E_X3_touches_55, E_X3_touches_56, E_X3_touches_59, E_X3_touches_59n, E_X3_touches_60, E_X3_touches_63, E_X3_touches_63n, E_X3_touches_64, E_X3_touches_67, E_X3_touches_67n, E_X3_touches_68, E_X3_touches_71, E_X3_touches_72, E_X3_touches_75, E_X3_touches_76, E_X3_touches_79, E_X3_touches_80, zwith_some, zwith_none, zif_true, zaft_inl, Option.toList_some, Option.toList_none, List.cons_append, List.nil_append, zc1_int, zc1_ref, zc1_null, zc1_float, List.length_nil, List.length_cons, Nat.reduceAdd, Nat.reduceLeDiff, Nat.zero_add, z1and, z0and, zl00, zl01, zl02, zl03, ze00, ze10, ze20, ze30, if_true, if_false, cg_pc h hl, cg_pc h hl2]
  by_cases c1 : V.i 8 p = V.i 8 q
  · by_cases c2 : V.i 9 p ≤ V.i 9 q + V.i 11 q
    · by_cases c3 : V.i 9 q ≤ V.i 9 p + V.i 11 p
      · by_cases c4 : V.i 10 p ≤ V.i 10 q + V.i 12 q
        · by_cases c5 : V.i 10 q ≤ V.i 10 p + V.i 12 p
          · simp only [c1, c2, c3, c4, c5, Int32.not_lt.mpr c2, Int32.not_lt.mpr c3, Int32.not_lt.mpr c4, Int32.not_lt.mpr c5, not_true, if_true, if_false, decide_true, Bool.and_self, zif_true, z1and, z0and, bN]
          · simp only [c1, c2, c3, c4, c5, Int32.not_lt.mpr c2, Int32.not_lt.mpr c3, Int32.not_lt.mpr c4, Int32.not_le.mp c5, not_true, if_true, if_false, decide_true, decide_false, Bool.and_false, Bool.and_self, zif_true, z1and, z0and, bN, Bool.false_eq_true]
        · simp only [c1, c2, c3, c4, Int32.not_lt.mpr c2, Int32.not_lt.mpr c3, Int32.not_le.mp c4, not_true, if_true, if_false, decide_true, decide_false, Bool.and_false, Bool.false_and, Bool.and_self, zif_true, z1and, z0and, bN, Bool.false_eq_true]
      · simp only [c1, c2, c3, Int32.not_lt.mpr c2, Int32.not_le.mp c3, not_true, if_true, if_false, decide_true, decide_false, Bool.and_false, Bool.false_and, Bool.and_self, zif_true, z1and, z0and, bN, Bool.false_eq_true]
    · simp only [c1, c2, Int32.not_le.mp c2, not_true, if_true, if_false, decide_true, decide_false, Bool.and_false, Bool.false_and, Bool.and_self, zif_true, z1and, z0and, bN, Bool.false_eq_true]
  · simp only [c1, not_true, not_false_iff, if_true, if_false, decide_false, Bool.false_and, zif_true, z0and, bN, Bool.false_eq_true]
def vJ (V : CV) (p : Nat) : CV := vR (vR (vR V 2 p none) 3 p none) 4 p none
theorem C_join (h : cok st G) (hl : G.live (.pc p)) : AC X (d + 1) 37 [.ref (G.A (.pc p))] (cw st G V) P = P (.inl none) (cw st G (vJ V p)) := by
  rw [A_X3_joinPieces]
  simp only [E_X3_joinPieces_0, E_X3_joinPieces_0n, E_X3_joinPieces_1, E_X3_joinPieces_2, E_X3_joinPieces_2n, E_X3_joinPieces_5, E_X3_joinPieces_5n, E_X3_joinPieces_6, E_X3_joinPieces_7, E_X3_joinPieces_7n, E_X3_joinPieces_10, E_X3_joinPieces_10n, E_X3_joinPieces_11, E_X3_joinPieces_12, E_X3_joinPieces_12n, E_X3_joinPieces_15, zwith_some, zwith_none, zif_true, zaft_inl, Option.toList_some, Option.toList_none, List.cons_append, List.nil_append, zc1_int, zc1_ref, zc1_null, zc1_float, List.length_nil, List.length_cons, Nat.reduceAdd, Nat.reduceLeDiff, Nat.zero_add, z1and, z0and, zl00, zl01, zl02, zl03, ze00, ze10, ze20, ze30, if_true, if_false, cg_pc h hl, cp_pc h hl]
  rfl
/-- a piece's values when it begins -/
def vB (V : CV) (p : Nat) (o : Option Nat) (s l t w hh : Int32) : CV := vJ (vI (vI (vI (vI (vI (vI (vR V 1 p o) 8 p s) 9 p l) 10 p t) 11 p w) 12 p hh) 13 p 0) p
theorem zc1_rfv {A : CK → Nat} {f : Nat → CK} {o : Option Nat} : zc1 (rfv A f o) = true := by cases o <;> rfl
theorem C_begin (h : cok st G) (hl : G.live (.pc p)) {o : Option Nat} {s l t w hh : Int32} : AC X (d + 2) 28 [.ref (G.A (.pc p)), rfv G.A .pc o, .int s, .int l, .int t, .int w, .int hh] (cw st G V) P = P (.inl none) (cw st G (vB V p o s l t w hh)) := by
  rw [A_X3_begin zc1_rfv]
  cases o with
  | none =>
    simp only [rfv_n, E_X3_begin_0, E_X3_begin_0n, E_X3_begin_1, E_X3_begin_1n, E_X3_begin_2, E_X3_begin_2n, E_X3_begin_5, E_X3_begin_5n, E_X3_begin_6, E_X3_begin_7, E_X3_begin_10, E_X3_begin_10n, E_X3_begin_11, E_X3_begin_12, E_X3_begin_15, E_X3_begin_15n, E_X3_begin_16, E_X3_begin_18, E_X3_begin_21, E_X3_begin_21n, E_X3_begin_22, E_X3_begin_24, E_X3_begin_27, E_X3_begin_27n, E_X3_begin_28, E_X3_begin_30, E_X3_begin_33, E_X3_begin_33n, E_X3_begin_34, E_X3_begin_35, E_X3_begin_38, E_X3_begin_38n, E_X3_begin_39, E_X3_begin_42, zwith_some, zwith_none, zif_true, zaft_inl, Option.toList_some, Option.toList_none, List.cons_append, List.nil_append, zc1_int, zc1_ref, zc1_null, zc1_float, List.length_nil, List.length_cons, Nat.reduceAdd, Nat.reduceLeDiff, Nat.zero_add, z1and, z0and, zl00, zl01, zl02, zl03, ze00, ze10, ze20, ze30, if_true, if_false, cg_pc h hl, cp_pc h hl, C_join h hl]
    rfl
  | some q =>
    simp only [rfv_s, E_X3_begin_0, E_X3_begin_0n, E_X3_begin_1, E_X3_begin_1n, E_X3_begin_2, E_X3_begin_2n, E_X3_begin_5, E_X3_begin_5n, E_X3_begin_6, E_X3_begin_7, E_X3_begin_10, E_X3_begin_10n, E_X3_begin_11, E_X3_begin_12, E_X3_begin_15, E_X3_begin_15n, E_X3_begin_16, E_X3_begin_18, E_X3_begin_21, E_X3_begin_21n, E_X3_begin_22, E_X3_begin_24, E_X3_begin_27, E_X3_begin_27n, E_X3_begin_28, E_X3_begin_30, E_X3_begin_33, E_X3_begin_33n, E_X3_begin_34, E_X3_begin_35, E_X3_begin_38, E_X3_begin_38n, E_X3_begin_39, E_X3_begin_42, zwith_some, zwith_none, zif_true, zaft_inl, Option.toList_some, Option.toList_none, List.cons_append, List.nil_append, zc1_int, zc1_ref, zc1_null, zc1_float, List.length_nil, List.length_cons, Nat.reduceAdd, Nat.reduceLeDiff, Nat.zero_add, z1and, z0and, zl00, zl01, zl02, zl03, ze00, ze10, ze20, ze30, if_true, if_false, cg_pc h hl, cp_pc h hl, C_join h hl]
    rfl
def fon (V : CV) : Option Nat → Bool
  | none => true
  | some q => decide (V.i 13 q = 0)
theorem C_free1 (h : cok st G) {o : Option Nat} (hl : ∀ q, o = some q → G.live (.pc q)) : AC X (d + 1) 34 [rfv G.A .pc o] (cw st G V) P = P (.inl (some (.int (bN (fon V o))))) (cw st G V) := by
  rw [A_X3_isFreeOrNone zc1_rfv]
  cases o with
  | none =>
    simp only [rfv_n, E_X3_isFreeOrNone_0, E_X3_isFreeOrNone_0n, E_X3_isFreeOrNone_1, E_X3_isFreeOrNone_1n, E_X3_isFreeOrNone_4, E_X3_isFreeOrNone_4n, E_X3_isFreeOrNone_5, E_X3_isFreeOrNone_8, E_X3_isFreeOrNone_11, E_X3_isFreeOrNone_12, E_X3_isFreeOrNone_15, E_X3_isFreeOrNone_16, zwith_some, zwith_none, zif_true, zaft_inl, Option.toList_some, Option.toList_none, List.cons_append, List.nil_append, zc1_int, zc1_ref, zc1_null, zc1_float, List.length_nil, List.length_cons, Nat.reduceAdd, Nat.reduceLeDiff, Nat.zero_add, z1and, z0and, zl00, zl01, zl02, zl03, ze00, ze10, ze20, ze30, if_true, if_false]
    rfl
  | some q =>
    simp only [rfv_s, E_X3_isFreeOrNone_0, E_X3_isFreeOrNone_0n, E_X3_isFreeOrNone_1, E_X3_isFreeOrNone_1n, E_X3_isFreeOrNone_4, E_X3_isFreeOrNone_4n, E_X3_isFreeOrNone_5, E_X3_isFreeOrNone_8, E_X3_isFreeOrNone_11, E_X3_isFreeOrNone_12, E_X3_isFreeOrNone_15, E_X3_isFreeOrNone_16, zwith_some, zwith_none, zif_true, zaft_inl, Option.toList_some, Option.toList_none, List.cons_append, List.nil_append, zc1_int, zc1_ref, zc1_null, zc1_float, List.length_nil, List.length_cons, Nat.reduceAdd, Nat.reduceLeDiff, Nat.zero_add, z1and, z0and, zl00, zl01, zl02, zl03, ze00, ze10, ze20, ze30, if_true, if_false, cg_pc h (hl q rfl)]
    unfold fon
    by_cases c : V.i 13 q = 0
    · simp only [c, not_true, if_false, decide_true, zif_true, z1and, bN, if_true]
    · simp only [c, not_false_iff, if_true, decide_false, zif_true, z0and, bN, Bool.false_eq_true, if_false]
def afV (V : CV) (p : Nat) : Bool := fon V (V.r 2 p) && (fon V (V.r 3 p) && fon V (V.r 4 p))
/-- what the references of pieces name is there -/
abbrev rok (G : CG) (V : CV) : Prop := (∀ p, G.live (.pc p) → ∀ a q, (a = 1 ∨ a = 2 ∨ a = 3 ∨ a = 4) → V.r a p = some q → G.live (.pc q)) ∧ ∀ p q, G.live (.pc p) → V.r 1 p = some q → q < p
theorem C_allFree (h : cok st G) (hr : rok G V) (hl : G.live (.pc p)) : AC X (d + 2) 33 [.ref (G.A (.pc p))] (cw st G V) P = P (.inl (some (.int (bN (afV V p))))) (cw st G V) := by
  have h2 := fun {d} {P} => C_free1 (X := X) (d := d) (P := P) (V := V) (o := V.r 2 p) h fun q hq => hr.1 p hl 2 q (.inr (.inl rfl)) hq
  have h3 := fun {d} {P} => C_free1 (X := X) (d := d) (P := P) (V := V) (o := V.r 3 p) h fun q hq => hr.1 p hl 3 q (.inr (.inr (.inl rfl))) hq
  have h4 := fun {d} {P} => C_free1 (X := X) (d := d) (P := P) (V := V) (o := V.r 4 p) h fun q hq => hr.1 p hl 4 q (.inr (.inr (.inr rfl))) hq
  unfold afV
  rw [A_X3_hasAllFree]
  simp only [E_X3_hasAllFree_0, E_X3_hasAllFree_0n, E_X3_hasAllFree_1, E_X3_hasAllFree_4, E_X3_hasAllFree_7, E_X3_hasAllFree_10, E_X3_hasAllFree_10n, E_X3_hasAllFree_11, E_X3_hasAllFree_14, E_X3_hasAllFree_17, E_X3_hasAllFree_20, E_X3_hasAllFree_20n, E_X3_hasAllFree_21, E_X3_hasAllFree_24, E_X3_hasAllFree_27, E_X3_hasAllFree_30, E_X3_hasAllFree_31, E_X3_hasAllFree_34, E_X3_hasAllFree_35, zwith_some, zwith_none, zif_true, zaft_inl, Option.toList_some, Option.toList_none, List.cons_append, List.nil_append, zc1_int, zc1_ref, zc1_null, zc1_float, List.length_nil, List.length_cons, Nat.reduceAdd, Nat.reduceLeDiff, Nat.zero_add, z1and, z0and, zl00, zl01, zl02, zl03, ze00, ze10, ze20, ze30, if_true, if_false, cg_pc h hl, h2, h3, h4, bN_eq0]
  cases fon V (V.r 2 p) with
  | false => simp only [if_true, Bool.false_and, zif_true, z0and, bN, Bool.false_eq_true, if_false]
  | true =>
    cases fon V (V.r 3 p) with
    | false => simp only [if_true, Bool.true_eq_false, Bool.true_and, Bool.false_and, zif_true, z0and, bN, Bool.false_eq_true, if_false]
    | true =>
      cases fon V (V.r 4 p) with
      | false => simp only [if_true, Bool.true_eq_false, Bool.true_and, Bool.and_false, zif_true, z0and, bN, Bool.false_eq_true, if_false]
      | true => simp only [if_true, Bool.true_eq_false, Bool.true_and, zif_true, z1and, bN, if_false]
def vN (V : CV) : Option Nat → CV
  | none => V
  | some q => vI V 13 q 3
theorem vN_r {o : Option Nat} : (vN V o).r = V.r := by cases o <;> rfl
theorem C_end (h : cok st G) {o : Option Nat} (hl : ∀ q, o = some q → G.live (.pc q)) : AC X (d + 1) 36 [rfv G.A .pc o] (cw st G V) P = P (.inl none) (cw st G (vN V o)) := by
  rw [A_X3_end zc1_rfv]
  cases o with
  | none =>
    simp only [rfv_n, E_X3_end_0, E_X3_end_0n, E_X3_end_1, E_X3_end_1n, E_X3_end_4, E_X3_end_4n, E_X3_end_5, E_X3_end_6, E_X3_end_9, zwith_some, zwith_none, zif_true, zaft_inl, Option.toList_some, Option.toList_none, List.cons_append, List.nil_append, zc1_int, zc1_ref, zc1_null, zc1_float, List.length_nil, List.length_cons, Nat.reduceAdd, Nat.reduceLeDiff, Nat.zero_add, z1and, z0and, zl00, zl01, zl02, zl03, ze00, ze10, ze20, ze30, if_true, if_false]
    rfl
  | some q =>
    simp only [rfv_s, E_X3_end_0, E_X3_end_0n, E_X3_end_1, E_X3_end_1n, E_X3_end_4, E_X3_end_4n, E_X3_end_5, E_X3_end_6, E_X3_end_9, zwith_some, zwith_none, zif_true, zaft_inl, Option.toList_some, Option.toList_none, List.cons_append, List.nil_append, zc1_int, zc1_ref, zc1_null, zc1_float, List.length_nil, List.length_cons, Nat.reduceAdd, Nat.reduceLeDiff, Nat.zero_add, z1and, z0and, zl00, zl01, zl02, zl03, ze00, ze10, ze20, ze30, if_true, if_false, cg_pc h (hl q rfl), cp_pc h (hl q rfl)]
    rfl
def vNP (V : CV) (p : Nat) : CV := vJ (vN (vN (vN V (V.r 2 p)) (V.r 3 p)) (V.r 4 p)) p
theorem C_endP (h : cok st G) (hr : rok G V) (hl : G.live (.pc p)) : AC X (d + 2) 35 [.ref (G.A (.pc p))] (cw st G V) P = P (.inl none) (cw st G (vNP V p)) := by
  have h2 := fun {d} {P} {V' : CV} => C_end (X := X) (d := d) (P := P) (V := V') (o := V.r 2 p) h fun q hq => hr.1 p hl 2 q (.inr (.inl rfl)) hq
  have h3 := fun {d} {P} {V' : CV} => C_end (X := X) (d := d) (P := P) (V := V') (o := V.r 3 p) h fun q hq => hr.1 p hl 3 q (.inr (.inr (.inl rfl))) hq
  have h4 := fun {d} {P} {V' : CV} => C_end (X := X) (d := d) (P := P) (V := V') (o := V.r 4 p) h fun q hq => hr.1 p hl 4 q (.inr (.inr (.inr rfl))) hq
  rw [A_X3_endPieces]
  simp only [E_X3_endPieces_0, E_X3_endPieces_0n, E_X3_endPieces_1, E_X3_endPieces_4, E_X3_endPieces_7, E_X3_endPieces_7n, E_X3_endPieces_8, E_X3_endPieces_11, E_X3_endPieces_14, E_X3_endPieces_14n, E_X3_endPieces_15, E_X3_endPieces_18, E_X3_endPieces_21, E_X3_endPieces_21n, E_X3_endPieces_22, E_X3_endPieces_25, zwith_some, zwith_none, zif_true, zaft_inl, Option.toList_some, Option.toList_none, List.cons_append, List.nil_append, zc1_int, zc1_ref, zc1_null, zc1_float, List.length_nil, List.length_cons, Nat.reduceAdd, Nat.reduceLeDiff, Nat.zero_add, z1and, z0and, zl00, zl01, zl02, zl03, ze00, ze10, ze20, ze30, if_true, if_false, cg_pc h hl, h2, h3, h4, vN_r, C_join h hl]
  rfl
/-- the values when what can be joined from o outward is joined -/
def rlV : Nat → CV → Option Nat → CV
  | 0, V, _ => V
  | _ + 1, V, none => V
  | k + 1, V, some o => if afV V o = true then rlV k (vI (vNP V o) 13 o 0) (V.r 1 o) else V
theorem vNP_r {a : Nat} : (vNP V p).r a q = if (a = 2 ∨ a = 3 ∨ a = 4) ∧ q = p then none else V.r a q := by
  unfold vNP vJ
  rw [vR_r, vR_r, vR_r, vN_r, vN_r, vN_r]
  by_cases e : q = p
  · by_cases e4 : a = 4
    · rw [if_pos ⟨e4, e⟩, if_pos ⟨.inr (.inr e4), e⟩]
    · rw [if_neg (fun z => e4 z.1)]
      by_cases e3 : a = 3
      · rw [if_pos ⟨e3, e⟩, if_pos ⟨.inr (.inl e3), e⟩]
      · rw [if_neg (fun z => e3 z.1)]
        by_cases e2 : a = 2
        · rw [if_pos ⟨e2, e⟩, if_pos ⟨.inl e2, e⟩]
        · rw [if_neg (fun z => e2 z.1), if_neg (fun z => z.1.elim e2 fun z => z.elim e3 e4)]
  · rw [if_neg (fun z => e z.2), if_neg (fun z => e z.2), if_neg (fun z => e z.2), if_neg (fun z => e z.2)]
theorem vNP_r1 : (vI (vNP V p) 13 p 0).r 1 q = V.r 1 q := by
  rw [vI_r, vNP_r, if_neg (by omega)]
theorem rok_P (hr : rok G V) : rok G (vI (vNP V p) 13 p 0) := by
  refine ⟨fun k hk a q ha hq => ?_, fun k q hk hq => ?_⟩
  · rw [vI_r, vNP_r] at hq
    split at hq
    · cases hq
    · exact hr.1 k hk a q ha hq
  · rw [vNP_r1] at hq
    exact hr.2 k q hk hq
theorem C_release_l (h : cok st G) : ∀ (k : Nat) (V : CV) (o : Option Nat), (∀ q, o = some q → q < k ∧ G.live (.pc q)) → rok G V → AW X (d + 2) 32 10 [.ref (G.A (.pc p)), rfv G.A .pc o] [] (cw st G V) P = P (.inl none) (cw st G (rlV k V o)) := by
  intro k
  induction k with
  | zero =>
    intro V o ho hr
    cases o with
    | none =>
      rw [rfv_n, E_X3_release_10n]
      simp only [E_X3_release_0, E_X3_release_0n, E_X3_release_1, E_X3_release_2, E_X3_release_5, E_X3_release_5n, E_X3_release_6, E_X3_release_9, E_X3_release_9n, E_X3_release_11, E_X3_release_11n, E_X3_release_14, E_X3_release_14n, E_X3_release_15, E_X3_release_18, E_X3_release_21, E_X3_release_21n, E_X3_release_22, E_X3_release_25, E_X3_release_25n, E_X3_release_26, E_X3_release_27, E_X3_release_30, E_X3_release_30n, E_X3_release_31, E_X3_release_34, E_X3_release_34n, E_X3_release_35, E_X3_release_38, zwith_some, zwith_none, zif_true, zaft_inl, Option.toList_some, Option.toList_none, List.cons_append, List.nil_append, zc1_int, zc1_ref, zc1_null, zc1_float, List.length_nil, List.length_cons, Nat.reduceAdd, Nat.reduceLeDiff, Nat.zero_add, z1and, z0and, zl00, zl01, zl02, zl03, ze00, ze10, ze20, ze30, if_true, if_false]
      rfl
    | some q => exact absurd (ho q rfl).1 (Nat.not_lt_zero q)
  | succ k ih =>
    intro V o ho hr
    cases o with
    | none =>
      rw [rfv_n, E_X3_release_10n]
      simp only [E_X3_release_0, E_X3_release_0n, E_X3_release_1, E_X3_release_2, E_X3_release_5, E_X3_release_5n, E_X3_release_6, E_X3_release_9, E_X3_release_9n, E_X3_release_11, E_X3_release_11n, E_X3_release_14, E_X3_release_14n, E_X3_release_15, E_X3_release_18, E_X3_release_21, E_X3_release_21n, E_X3_release_22, E_X3_release_25, E_X3_release_25n, E_X3_release_26, E_X3_release_27, E_X3_release_30, E_X3_release_30n, E_X3_release_31, E_X3_release_34, E_X3_release_34n, E_X3_release_35, E_X3_release_38, zwith_some, zwith_none, zif_true, zaft_inl, Option.toList_some, Option.toList_none, List.cons_append, List.nil_append, zc1_int, zc1_ref, zc1_null, zc1_float, List.length_nil, List.length_cons, Nat.reduceAdd, Nat.reduceLeDiff, Nat.zero_add, z1and, z0and, zl00, zl01, zl02, zl03, ze00, ze10, ze20, ze30, if_true, if_false]
      rfl
    | some o =>
      obtain ⟨h1, h2⟩ := ho o rfl
      have ih := ih (vI (vNP V o) 13 o 0) (V.r 1 o) (fun q hq => ⟨by have := hr.2 o q h2 hq; omega, hr.1 o h2 1 q (.inl rfl) hq⟩) (rok_P hr)
      rw [rfv_s, E_X3_release_10]
      simp only [E_X3_release_0, E_X3_release_0n, E_X3_release_1, E_X3_release_2, E_X3_release_5, E_X3_release_5n, E_X3_release_6, E_X3_release_9, E_X3_release_9n, E_X3_release_11, E_X3_release_11n, E_X3_release_14, E_X3_release_14n, E_X3_release_15, E_X3_release_18, E_X3_release_21, E_X3_release_21n, E_X3_release_22, E_X3_release_25, E_X3_release_25n, E_X3_release_26, E_X3_release_27, E_X3_release_30, E_X3_release_30n, E_X3_release_31, E_X3_release_34, E_X3_release_34n, E_X3_release_35, E_X3_release_38, zwith_some, zwith_none, zif_true, zaft_inl, Option.toList_some, Option.toList_none, List.cons_append, List.nil_append, zc1_int, zc1_ref, zc1_null, zc1_float, List.length_nil, List.length_cons, Nat.reduceAdd, Nat.reduceLeDiff, Nat.zero_add, z1and, z0and, zl00, zl01, zl02, zl03, ze00, ze10, ze20, ze30, if_true, if_false, cis_pc h h2, C_allFree h hr h2, bN_eq0]
      unfold rlV
      cases c : afV V o with
      | false => simp only [if_true, Bool.false_eq_true, if_false]
      | true =>
        simp only [Bool.true_eq_false, if_false, if_true, E_X3_release_0, E_X3_release_0n, E_X3_release_1, E_X3_release_2, E_X3_release_5, E_X3_release_5n, E_X3_release_6, E_X3_release_9, E_X3_release_9n, E_X3_release_11, E_X3_release_11n, E_X3_release_14, E_X3_release_14n, E_X3_release_15, E_X3_release_18, E_X3_release_21, E_X3_release_21n, E_X3_release_22, E_X3_release_25, E_X3_release_25n, E_X3_release_26, E_X3_release_27, E_X3_release_30, E_X3_release_30n, E_X3_release_31, E_X3_release_34, E_X3_release_34n, E_X3_release_35, E_X3_release_38, zwith_some, zwith_none, zif_true, zaft_inl, Option.toList_some, Option.toList_none, List.cons_append, List.nil_append, zc1_int, zc1_ref, zc1_null, zc1_float, List.length_nil, List.length_cons, Nat.reduceAdd, Nat.reduceLeDiff, Nat.zero_add, z1and, z0and, zl00, zl01, zl02, zl03, ze00, ze10, ze20, ze30, if_true, if_false, cg_pc h h2, cp_pc h h2, C_endP h hr h2, vNP_r1]
        cases e : V.r 1 o with
        | none =>
          rw [e, rfv_n] at ih
          simp only [rfv_n, E_X3_release_0, E_X3_release_0n, E_X3_release_1, E_X3_release_2, E_X3_release_5, E_X3_release_5n, E_X3_release_6, E_X3_release_9, E_X3_release_9n, E_X3_release_11, E_X3_release_11n, E_X3_release_14, E_X3_release_14n, E_X3_release_15, E_X3_release_18, E_X3_release_21, E_X3_release_21n, E_X3_release_22, E_X3_release_25, E_X3_release_25n, E_X3_release_26, E_X3_release_27, E_X3_release_30, E_X3_release_30n, E_X3_release_31, E_X3_release_34, E_X3_release_34n, E_X3_release_35, E_X3_release_38, zwith_some, zwith_none, zif_true, zaft_inl, Option.toList_some, Option.toList_none, List.cons_append, List.nil_append, zc1_int, zc1_ref, zc1_null, zc1_float, List.length_nil, List.length_cons, Nat.reduceAdd, Nat.reduceLeDiff, Nat.zero_add, z1and, z0and, zl00, zl01, zl02, zl03, ze00, ze10, ze20, ze30, if_true, if_false]
          exact ih
        | some q =>
          rw [e, rfv_s] at ih
          simp only [rfv_s, E_X3_release_0, E_X3_release_0n, E_X3_release_1, E_X3_release_2, E_X3_release_5, E_X3_release_5n, E_X3_release_6, E_X3_release_9, E_X3_release_9n, E_X3_release_11, E_X3_release_11n, E_X3_release_14, E_X3_release_14n, E_X3_release_15, E_X3_release_18, E_X3_release_21, E_X3_release_21n, E_X3_release_22, E_X3_release_25, E_X3_release_25n, E_X3_release_26, E_X3_release_27, E_X3_release_30, E_X3_release_30n, E_X3_release_31, E_X3_release_34, E_X3_release_34n, E_X3_release_35, E_X3_release_38, zwith_some, zwith_none, zif_true, zaft_inl, Option.toList_some, Option.toList_none, List.cons_append, List.nil_append, zc1_int, zc1_ref, zc1_null, zc1_float, List.length_nil, List.length_cons, Nat.reduceAdd, Nat.reduceLeDiff, Nat.zero_add, z1and, z0and, zl00, zl01, zl02, zl03, ze00, ze10, ze20, ze30, if_true, if_false]
          exact ih
theorem C_release (h : cok st G) (hr : rok G V) (hl : G.live (.pc p)) : AC X (d + 3) 32 [.ref (G.A (.pc p))] (cw st G V) P = P (.inl none) (cw st G (rlV p (vI V 13 p 0) (V.r 1 p))) := by
  have hL := C_release_l (X := X) (d := d) (P := P) (p := p) h p (vI V 13 p 0) (V.r 1 p) (fun q hq => ⟨hr.2 p q hl hq, hr.1 p hl 1 q (.inl rfl) hq⟩) hr
  rw [A_X3_release]
  cases e : V.r 1 p with
  | none =>
    rw [e, rfv_n] at hL
    simp only [E_X3_release_0, E_X3_release_0n, E_X3_release_1, E_X3_release_2, E_X3_release_5, E_X3_release_5n, E_X3_release_6, E_X3_release_9, E_X3_release_9n, E_X3_release_11, E_X3_release_11n, E_X3_release_14, E_X3_release_14n, E_X3_release_15, E_X3_release_18, E_X3_release_21, E_X3_release_21n, E_X3_release_22, E_X3_release_25, E_X3_release_25n, E_X3_release_26, E_X3_release_27, E_X3_release_30, E_X3_release_30n, E_X3_release_31, E_X3_release_34, E_X3_release_34n, E_X3_release_35, E_X3_release_38, zwith_some, zwith_none, zif_true, zaft_inl, Option.toList_some, Option.toList_none, List.cons_append, List.nil_append, zc1_int, zc1_ref, zc1_null, zc1_float, List.length_nil, List.length_cons, Nat.reduceAdd, Nat.reduceLeDiff, Nat.zero_add, z1and, z0and, zl00, zl01, zl02, zl03, ze00, ze10, ze20, ze30, if_true, if_false, cg_pc h hl, cp_pc h hl, vI_r, e, rfv_n]
    exact hL
  | some q =>
    rw [e, rfv_s] at hL
    simp only [E_X3_release_0, E_X3_release_0n, E_X3_release_1, E_X3_release_2, E_X3_release_5, E_X3_release_5n, E_X3_release_6, E_X3_release_9, E_X3_release_9n, E_X3_release_11, E_X3_release_11n, E_X3_release_14, E_X3_release_14n, E_X3_release_15, E_X3_release_18, E_X3_release_21, E_X3_release_21n, E_X3_release_22, E_X3_release_25, E_X3_release_25n, E_X3_release_26, E_X3_release_27, E_X3_release_30, E_X3_release_30n, E_X3_release_31, E_X3_release_34, E_X3_release_34n, E_X3_release_35, E_X3_release_38, zwith_some, zwith_none, zif_true, zaft_inl, Option.toList_some, Option.toList_none, List.cons_append, List.nil_append, zc1_int, zc1_ref, zc1_null, zc1_float, List.length_nil, List.length_cons, Nat.reduceAdd, Nat.reduceLeDiff, Nat.zero_add, z1and, z0and, zl00, zl01, zl02, zl03, ze00, ze10, ze20, ze30, if_true, if_false, cg_pc h hl, cp_pc h hl, vI_r, e, rfv_s]
    exact hL
end CP
