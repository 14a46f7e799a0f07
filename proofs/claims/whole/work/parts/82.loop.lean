/-! THE LAW'S LOOP, and its end -/
section LP
variable {X : ZX} {d : Nat} {st st' S : ZS} {G G' : CG} {V V' : CV} {P : ZO → ZS → Prop} {x y z : Int32} {k i mo ao aD ka : Nat} {R R' : MR} {f : Nat → Int64} {g : Nat → UInt64} {u w : UInt32}
theorem pot_ok (I : CI G V) (C : CT V) : pot V ≤ 150000 := by
  have hc : ∀ n, V.c n ≤ 1000 := by
    intro n
    rcases Nat.lt_or_ge n (nJ V + 4) with h | h
    · match n, h with
      | 0, _ => exact I.ld.1.cp
      | 1, _ => exact I.lj.1.cp
      | 2, _ => exact I.lc.cp
      | 3, _ => exact I.lq.1.cp
      | j + 4, h => exact (I.la j (by omega)).1.cp
    · rw [C.1 n h]
      exact Nat.zero_le _
  have h1 := sm_le hc 34
  have h2 : tN (V.i 1 0) ≤ 12 := I.ld.2.1
  have h3 : tN (V.i 1 1) ≤ 30 := I.lj.2.1
  have h4 : tN (V.i 1 3) ≤ 400 := I.lq.2.1
  unfold pot
  omega
theorem l_go {a b : Nat} (ha : a ≤ 2048) (hb : b ≤ 4096) : (nI a - 4 < nI b) = (a < b + 4) := by
  have e : (nI a - 4).toInt = (a : Int) - 4 := pk_sub_toInt (a := a) (b := 4) (by omega) (by omega)
  have e2 := pk_sub_toInt (a := b) (b := 0) (by omega) (by omega)
  rw [show nI b - nI 0 = nI b from Int32.sub_zero _] at e2
  rw [Int32.lt_iff_toInt_lt, e, e2]
  exact propext ⟨fun h => by omega, fun h => by omega⟩
theorem zlen_1 : zlen X st 1 = some X.1 := rfl
theorem LH_end (hX2 : X.1 ≤ 2048) (hk : k ≤ 513) (c : X.1 < 4 * k + 4) : LH X d ka mo ao aD k fun o st' => o = .inl (some (.int 1)) ∧ st'.1 ≤ 601024 := by
  intro st G V R f g l6 l7 l8 l9 W
  have hg := l_go (a := X.1) (b := 4 * k) hX2 (by omega)
  have hl : nI X.1 - 4 < nI (4 * k) := by rw [hg]; exact c
  have hl : Int32.ofNat X.1 - 4 < nI (4 * k) := hl
  simp only [E_L_law_28, E_L_law_30, E_L_law_30n, E_L_law_31, E_L_law_32, E_L_law_33, E_L_law_34, E_L_law_1063, E_L_law_1064, zwith_some, zwith_none, zif_true, zaft_inl, Option.toList_some, Option.toList_none, List.cons_append, List.nil_append, zc1_int, zc1_ref, zc1_null, zc1_float, List.length_nil, List.length_cons, Nat.reduceAdd, Nat.reduceLeDiff, Nat.zero_add, z1and, z0and, zl00, zl01, zl02, zl03, ze00, ze10, ze20, ze30, if_true, if_false, zlen_1, hl, show (1 : Int32) &&& 1 = 1 from rfl]
  refine ⟨trivial, ?_⟩
  have h1 := pot_ok W.ci W.rl.ct
  have h2 := W.ub
  show st.1 ≤ 601024
  omega
theorem LH_step (hX2 : X.1 ≤ 2048) (c : 4 * k + 4 ≤ X.1) (N : LH X d ka mo ao aD (k + 1) P) : LH X d ka mo ao aD k P := by
  intro st G V R f g l6 l7 l8 l9 W
  have hg := l_go (a := X.1) (b := 4 * k) hX2 (by omega)
  have hl : ¬ nI X.1 - 4 < nI (4 * k) := by rw [hg]; omega
  have hl : ¬ Int32.ofNat X.1 - 4 < nI (4 * k) := hl
  obtain ⟨j, hj, e⟩ := pk_andE (X.2 (4 * k)) (m := 15) 4 rfl
  simp only [E_L_law_28, E_L_law_30, E_L_law_30n, E_L_law_31, E_L_law_32, E_L_law_33, E_L_law_34, E_L_law_37, E_L_law_37n, E_L_law_38, E_L_law_40, E_L_law_41, E_L_law_43, zwith_some, zwith_none, zif_true, zaft_inl, Option.toList_some, Option.toList_none, List.cons_append, List.nil_append, zc1_int, zc1_ref, zc1_null, zc1_float, List.length_nil, List.length_cons, Nat.reduceAdd, Nat.reduceLeDiff, Nat.zero_add, z1and, z0and, zl00, zl01, zl02, zl03, ze00, ze10, ze20, ze30, if_true, if_false, zlen_1, hl, zai_1, ix0 c hX2, e]
  obtain h | h | h | h | h | h | h | h | h | h | h | h | h | h | h | h : j = 0 ∨ j = 1 ∨ j = 2 ∨ j = 3 ∨ j = 4 ∨ j = 5 ∨ j = 6 ∨ j = 7 ∨ j = 8 ∨ j = 9 ∨ j = 10 ∨ j = 11 ∨ j = 12 ∨ j = 13 ∨ j = 14 ∨ j = 15 := by omega
  all_goals subst h
  · rw [show nI 0 = (0 : Int32) from rfl, E_L_law_44_0]
    exact N_drawing c hX2 N W
  · rw [show nI 1 = (1 : Int32) from rfl, E_L_law_44_1]
    exact N_stroke c hX2 N W
  · rw [show nI 2 = (2 : Int32) from rfl, E_L_law_44_2]
    exact N_finish c hX2 N W
  · rw [show nI 3 = (3 : Int32) from rfl, E_L_law_44_3]
    exact N_redraw c hX2 N W
  · rw [show nI 4 = (4 : Int32) from rfl, E_L_law_44_4]
    exact N_ofDrawing c hX2 N W
  · rw [show nI 5 = (5 : Int32) from rfl, E_L_law_44_5]
    exact N_length c hX2 N W
  · rw [show nI 6 = (6 : Int32) from rfl, E_L_law_44_6]
    exact N_sheet c hX2 N W
  · rw [show nI 7 = (7 : Int32) from rfl, E_L_law_44_7]
    exact N_job c hX2 N W
  · rw [show nI 8 = (8 : Int32) from rfl, E_L_law_44_8]
    exact N_cancel c hX2 N W
  · rw [show nI 9 = (9 : Int32) from rfl, E_L_law_44_9]
    exact N_cut c hX2 N W
  · rw [show nI 10 = (10 : Int32) from rfl, E_L_law_44_10]
    exact N_ofJob c hX2 N W
  · rw [show nI 11 = (11 : Int32) from rfl, E_L_law_44_11]
    exact N_where c hX2 N W
  · rw [show nI 12 = (12 : Int32) from rfl, E_L_law_44_12]
    exact N_free c hX2 N W
  · rw [show nI 13 = (13 : Int32) from rfl, E_L_law_44_13]
    exact N_minutes N W
  · rw [show nI 14 = (14 : Int32) from rfl, E_L_law_44_14]
    exact N_cutLength N W
  · rw [show nI 15 = (15 : Int32) from rfl, E_L_law_44_15]
    exact N_cutAnew N W
theorem LH_all (hX2 : X.1 ≤ 2048) : ∀ m k, k + m = 513 → LH X d ka mo ao aD k fun o st' => o = .inl (some (.int 1)) ∧ st'.1 ≤ 601024
  | 0, k, h => LH_end hX2 (by omega) (by omega)
  | m + 1, k, h => by
    rcases Nat.lt_or_ge X.1 (4 * k + 4) with c | c
    · exact LH_end hX2 (by omega) c
    · exact LH_step hX2 c (LH_all hX2 m (k + 1) (by omega))
end LP
