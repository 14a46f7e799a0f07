/-! the law's own methods -/
section WP
variable {X : ZX} {d : Nat} {st st' S : ZS} {G G' : CG} {V V' : CV} {P : ZO → ZS → Prop} {x y z : Int32} {k i mo ao aD ka : Nat} {R R' : MR} {f : Nat → Int64} {g : Nat → UInt64} {u w : UInt32}
theorem H_drawing_sS {l0 l1 l2 : Value} {Q : List Value} : zaft X d 126 3 [l0, l1, l2] Q P (.inr sS) S = AW X d 126 12 [l0, l1, .retAddr 0] [] S P := by
  rw [zaft_hnd (g := (11, 2, 12)) (by decide +kernel)]
  exact zif_of (show 2 < 3 by decide)
theorem H_stroke_sI {l0 l1 l2 l3 l4 l5 : Value} {Q : List Value} : zaft X d 127 7 [l0, l1, l2, l3, l4, l5] Q P (.inr sI) S = AW X d 127 17 [l0, l1, l2, l3, l4, .retAddr 0] [] S P := by
  rw [zaft_hnd (g := (15, 5, 17)) (by decide +kernel)]
  exact zif_of (show 5 < 6 by decide)
theorem H_stroke_sA {l0 l1 l2 l3 l4 l5 : Value} {Q : List Value} : zaft X d 127 7 [l0, l1, l2, l3, l4, l5] Q P (.inr sA) S = AW X d 127 21 [l0, l1, l2, l3, l4, .retAddr 0] [] S P := by
  rw [zaft_hnd (g := (19, 5, 21)) (by decide +kernel)]
  exact zif_of (show 5 < 6 by decide)
theorem H_stroke_sS {l0 l1 l2 l3 l4 l5 : Value} {Q : List Value} : zaft X d 127 7 [l0, l1, l2, l3, l4, l5] Q P (.inr sS) S = AW X d 127 25 [l0, l1, l2, l3, l4, .retAddr 0] [] S P := by
  rw [zaft_hnd (g := (23, 5, 25)) (by decide +kernel)]
  exact zif_of (show 5 < 6 by decide)
theorem H_finish_sI {l0 l1 l2 l3 : Value} {Q : List Value} : zaft X d 128 4 [l0, l1, l2, l3] Q P (.inr sI) S = AW X d 128 13 [l0, l1, l2, .retAddr 0] [] S P := by
  rw [zaft_hnd (g := (12, 3, 13)) (by decide +kernel)]
  exact zif_of (show 3 < 4 by decide)
theorem H_finish_sS {l0 l1 l2 l3 : Value} {Q : List Value} : zaft X d 128 4 [l0, l1, l2, l3] Q P (.inr sS) S = AW X d 128 16 [l0, l1, l2, .retAddr 0] [] S P := by
  rw [zaft_hnd (g := (15, 3, 16)) (by decide +kernel)]
  exact zif_of (show 3 < 4 by decide)
theorem H_redraw_sI {l0 l1 l2 l3 : Value} {Q : List Value} : zaft X d 129 4 [l0, l1, l2, l3] Q P (.inr sI) S = AW X d 129 13 [l0, l1, l2, .retAddr 0] [] S P := by
  rw [zaft_hnd (g := (12, 3, 13)) (by decide +kernel)]
  exact zif_of (show 3 < 4 by decide)
theorem H_redraw_sS {l0 l1 l2 l3 : Value} {Q : List Value} : zaft X d 129 4 [l0, l1, l2, l3] Q P (.inr sS) S = AW X d 129 16 [l0, l1, l2, .retAddr 0] [] S P := by
  rw [zaft_hnd (g := (15, 3, 16)) (by decide +kernel)]
  exact zif_of (show 3 < 4 by decide)
theorem H_ofDrawing_sI {l0 l1 l2 l3 l4 : Value} {Q : List Value} : zaft X d 130 5 [l0, l1, l2, l3, l4] Q P (.inr sI) S = AW X d 130 15 [l0, l1, l2, l3, .retAddr 0] [] S P := by
  rw [zaft_hnd (g := (13, 4, 15)) (by decide +kernel)]
  exact zif_of (show 4 < 5 by decide)
theorem H_ofDrawing_sA {l0 l1 l2 l3 l4 : Value} {Q : List Value} : zaft X d 130 5 [l0, l1, l2, l3, l4] Q P (.inr sA) S = AW X d 130 19 [l0, l1, l2, l3, .retAddr 0] [] S P := by
  rw [zaft_hnd (g := (17, 4, 19)) (by decide +kernel)]
  exact zif_of (show 4 < 5 by decide)
theorem H_length_sI {l0 l1 l2 l3 : Value} {Q : List Value} : zaft X d 131 4 [l0, l1, l2, l3] Q P (.inr sI) S = AW X d 131 13 [l0, l1, l2, .retAddr 0] [] S P := by
  rw [zaft_hnd (g := (12, 3, 13)) (by decide +kernel)]
  exact zif_of (show 3 < 4 by decide)
theorem H_sheet_sA {l0 l1 l2 l3 l4 : Value} {Q : List Value} : zaft X d 132 5 [l0, l1, l2, l3, l4] Q P (.inr sA) S = AW X d 132 15 [l0, l1, l2, l3, .retAddr 0] [] S P := by
  rw [zaft_hnd (g := (13, 4, 15)) (by decide +kernel)]
  exact zif_of (show 4 < 5 by decide)
theorem H_sheet_sS {l0 l1 l2 l3 l4 : Value} {Q : List Value} : zaft X d 132 5 [l0, l1, l2, l3, l4] Q P (.inr sS) S = AW X d 132 19 [l0, l1, l2, l3, .retAddr 0] [] S P := by
  rw [zaft_hnd (g := (17, 4, 19)) (by decide +kernel)]
  exact zif_of (show 4 < 5 by decide)
theorem H_job_sI {l0 l1 l2 l3 l4 : Value} {Q : List Value} : zaft X d 133 5 [l0, l1, l2, l3, l4] Q P (.inr sI) S = AW X d 133 15 [l0, l1, l2, l3, .retAddr 0] [] S P := by
  rw [zaft_hnd (g := (13, 4, 15)) (by decide +kernel)]
  exact zif_of (show 4 < 5 by decide)
theorem H_job_sA {l0 l1 l2 l3 l4 : Value} {Q : List Value} : zaft X d 133 5 [l0, l1, l2, l3, l4] Q P (.inr sA) S = AW X d 133 19 [l0, l1, l2, l3, .retAddr 0] [] S P := by
  rw [zaft_hnd (g := (17, 4, 19)) (by decide +kernel)]
  exact zif_of (show 4 < 5 by decide)
theorem H_job_sS {l0 l1 l2 l3 l4 : Value} {Q : List Value} : zaft X d 133 5 [l0, l1, l2, l3, l4] Q P (.inr sS) S = AW X d 133 23 [l0, l1, l2, l3, .retAddr 0] [] S P := by
  rw [zaft_hnd (g := (21, 4, 23)) (by decide +kernel)]
  exact zif_of (show 4 < 5 by decide)
theorem H_cancel_sI {l0 l1 l2 l3 : Value} {Q : List Value} : zaft X d 134 4 [l0, l1, l2, l3] Q P (.inr sI) S = AW X d 134 13 [l0, l1, l2, .retAddr 0] [] S P := by
  rw [zaft_hnd (g := (12, 3, 13)) (by decide +kernel)]
  exact zif_of (show 3 < 4 by decide)
theorem H_cancel_sS {l0 l1 l2 l3 : Value} {Q : List Value} : zaft X d 134 4 [l0, l1, l2, l3] Q P (.inr sS) S = AW X d 134 16 [l0, l1, l2, .retAddr 0] [] S P := by
  rw [zaft_hnd (g := (15, 3, 16)) (by decide +kernel)]
  exact zif_of (show 3 < 4 by decide)
theorem H_cut_sI {l0 l1 l2 l3 : Value} {Q : List Value} : zaft X d 135 4 [l0, l1, l2, l3] Q P (.inr sI) S = AW X d 135 13 [l0, l1, l2, .retAddr 0] [] S P := by
  rw [zaft_hnd (g := (12, 3, 13)) (by decide +kernel)]
  exact zif_of (show 3 < 4 by decide)
theorem H_cut_sS {l0 l1 l2 l3 : Value} {Q : List Value} : zaft X d 135 4 [l0, l1, l2, l3] Q P (.inr sS) S = AW X d 135 16 [l0, l1, l2, .retAddr 0] [] S P := by
  rw [zaft_hnd (g := (15, 3, 16)) (by decide +kernel)]
  exact zif_of (show 3 < 4 by decide)
theorem H_ofJob_sI {l0 l1 l2 l3 l4 : Value} {Q : List Value} : zaft X d 136 5 [l0, l1, l2, l3, l4] Q P (.inr sI) S = AW X d 136 15 [l0, l1, l2, l3, .retAddr 0] [] S P := by
  rw [zaft_hnd (g := (13, 4, 15)) (by decide +kernel)]
  exact zif_of (show 4 < 5 by decide)
theorem H_ofJob_sA {l0 l1 l2 l3 l4 : Value} {Q : List Value} : zaft X d 136 5 [l0, l1, l2, l3, l4] Q P (.inr sA) S = AW X d 136 19 [l0, l1, l2, l3, .retAddr 0] [] S P := by
  rw [zaft_hnd (g := (17, 4, 19)) (by decide +kernel)]
  exact zif_of (show 4 < 5 by decide)
theorem H_where_sI {l0 l1 l2 l3 l4 l5 : Value} {Q : List Value} : zaft X d 137 7 [l0, l1, l2, l3, l4, l5] Q P (.inr sI) S = AW X d 137 17 [l0, l1, l2, l3, l4, .retAddr 0] [] S P := by
  rw [zaft_hnd (g := (15, 5, 17)) (by decide +kernel)]
  exact zif_of (show 5 < 6 by decide)
theorem H_where_sA {l0 l1 l2 l3 l4 l5 : Value} {Q : List Value} : zaft X d 137 7 [l0, l1, l2, l3, l4, l5] Q P (.inr sA) S = AW X d 137 21 [l0, l1, l2, l3, l4, .retAddr 0] [] S P := by
  rw [zaft_hnd (g := (19, 5, 21)) (by decide +kernel)]
  exact zif_of (show 5 < 6 by decide)
theorem H_free_sI {l0 l1 l2 l3 : Value} {Q : List Value} : zaft X d 138 4 [l0, l1, l2, l3] Q P (.inr sI) S = AW X d 138 13 [l0, l1, l2, .retAddr 0] [] S P := by
  rw [zaft_hnd (g := (12, 3, 13)) (by decide +kernel)]
  exact zif_of (show 3 < 4 by decide)
theorem W_drawing (W : WI st G V ka mo ao aD R R k f g) (K : (∀ st' G' V' f', WI st' G' V' ka mo ao aD R (mR_drawing R) (k + 1) f' g → ((mR_drawing R).2.1 25 = 0 → f' 0 = (mB_drawing R).toInt64) → P (.inl (some (.int ((mR_drawing R).2.1 25)))) (cw st' G' V'))) : AC X (d + 14) 126 [.ref ka, .ref ao] (cw st G V) P := by
  have hke := W.ke
  subst hke
  rw [A_L_drawing rfl rfl]
  simp only [E_L_drawing_0, E_L_drawing_0n, E_L_drawing_1, E_L_drawing_2, E_L_drawing_2n, E_L_drawing_3, E_L_drawing_6, E_L_drawing_7, E_L_drawing_8, E_L_drawing_11, E_L_drawing_11n, E_L_drawing_12, E_L_drawing_13, E_L_drawing_14, E_L_drawing_15, zwith_some, zwith_none, zif_true, zaft_inl, Option.toList_some, Option.toList_none, List.cons_append, List.nil_append, zc1_int, zc1_ref, zc1_null, zc1_float, List.length_nil, List.length_cons, Nat.reduceAdd, Nat.reduceLeDiff, Nat.zero_add, z1and, z0and, zl00, zl01, zl02, zl03, ze00, ze10, ze20, ze30, if_true, if_false, cis_kx W.ok W.ci.kx]
  refine C_drawing (d := d + 5) W.ok W.ci W.rl ?_ ?_
  · intro hw
    have hR : mR_drawing R = mF R 25 1 := if_pos hw
    simp only [H_drawing_sS, E_L_drawing_0, E_L_drawing_0n, E_L_drawing_1, E_L_drawing_2, E_L_drawing_2n, E_L_drawing_3, E_L_drawing_6, E_L_drawing_7, E_L_drawing_8, E_L_drawing_11, E_L_drawing_11n, E_L_drawing_12, E_L_drawing_13, E_L_drawing_14, E_L_drawing_15, zwith_some, zwith_none, zif_true, zaft_inl, Option.toList_some, Option.toList_none, List.cons_append, List.nil_append, zc1_int, zc1_ref, zc1_null, zc1_float, List.length_nil, List.length_cons, Nat.reduceAdd, Nat.reduceLeDiff, Nat.zero_add, z1and, z0and, zl00, zl01, zl02, zl03, ze00, ze10, ze20, ze30, if_true, if_false]
    have K := K (st.1 + 7, st.2) G V f (by rw [hR]; exact WI_thr W) (fun z => by rw [hR] at z; exact absurd z (show ¬ (1 : Int32) = 0 by decide))
    rw [hR] at K
    exact K
  · intro hw st' G' V' E I' L' hn
    have hR : mR_drawing R = draR R := if_neg hw
    have hB : mB_drawing R = R.2.1 5 := if_neg hw
    have hZ := Z_drawing (R := R)
    have W' := WI_sta W E I' L' (by rw [hn]; exact Nat.le_succ _)
    simp only [E_L_drawing_0, E_L_drawing_0n, E_L_drawing_1, E_L_drawing_2, E_L_drawing_2n, E_L_drawing_3, E_L_drawing_6, E_L_drawing_7, E_L_drawing_8, E_L_drawing_11, E_L_drawing_11n, E_L_drawing_12, E_L_drawing_13, E_L_drawing_14, E_L_drawing_15, zwith_some, zwith_none, zif_true, zaft_inl, Option.toList_some, Option.toList_none, List.cons_append, List.nil_append, zc1_int, zc1_ref, zc1_null, zc1_float, List.length_nil, List.length_cons, Nat.reduceAdd, Nat.reduceLeDiff, Nat.zero_add, z1and, z0and, zl00, zl01, zl02, zl03, ze00, ze10, ze20, ze30, if_true, if_false, zaft_inl, WI_L W', zi01]
    rw [cw_zsta (WI.rb W').2.2.1.1]
    have K := K (zsta st' ao (1, (.inr (.inl (vp_updL f 0 (R.2.1 5).toInt64))))) G' V' (vp_updL f 0 (R.2.1 5).toInt64) (by rw [hR]; exact WI_ao W') (fun _ => by rw [hB]; rfl)
    rw [hR, hZ] at K
    exact K
theorem W_stroke (W : WI st G V ka mo ao aD R R k f g) (K : (∀ st' G' V' f', WI st' G' V' ka mo ao aD R (mR_stroke R x y z) (k + 1) f' g → ((mR_stroke R x y z).2.1 25 = 0 → f' 0 = (mB_stroke R x y z).toInt64) → P (.inl (some (.int ((mR_stroke R x y z).2.1 25)))) (cw st' G' V'))) : AC X (d + 14) 127 [.ref ka, .int x, .int y, .int z, .ref ao] (cw st G V) P := by
  have hke := W.ke
  subst hke
  rw [A_L_stroke rfl rfl]
  simp only [E_L_stroke_0, E_L_stroke_0n, E_L_stroke_2, E_L_stroke_3, E_L_stroke_3n, E_L_stroke_4, E_L_stroke_5, E_L_stroke_6, E_L_stroke_7, E_L_stroke_10, E_L_stroke_11, E_L_stroke_12, E_L_stroke_15, E_L_stroke_15n, E_L_stroke_17, E_L_stroke_18, E_L_stroke_19, E_L_stroke_19n, E_L_stroke_21, E_L_stroke_22, E_L_stroke_23, E_L_stroke_23n, E_L_stroke_25, E_L_stroke_26, E_L_stroke_27, E_L_stroke_28, zwith_some, zwith_none, zif_true, zaft_inl, Option.toList_some, Option.toList_none, List.cons_append, List.nil_append, zc1_int, zc1_ref, zc1_null, zc1_float, List.length_nil, List.length_cons, Nat.reduceAdd, Nat.reduceLeDiff, Nat.zero_add, z1and, z0and, zl00, zl01, zl02, zl03, ze00, ze10, ze20, ze30, if_true, if_false, cis_kx W.ok W.ci.kx]
  refine C_stroke (d := d + 5) W.ok W.ci W.rl ?_ ?_
  · intro hw
    rcases Y_stroke (R := R) (x := x) (y := y) (z := z) with c | c | c | c
    · exact absurd c hw
    · simp only [c, if_true]
      have hR : mR_stroke R x y z = mF R 25 1 := (if_neg hw).trans (by rw [c])
      simp only [H_stroke_sI, H_stroke_sA, H_stroke_sS, E_L_stroke_0, E_L_stroke_0n, E_L_stroke_2, E_L_stroke_3, E_L_stroke_3n, E_L_stroke_4, E_L_stroke_5, E_L_stroke_6, E_L_stroke_7, E_L_stroke_10, E_L_stroke_11, E_L_stroke_12, E_L_stroke_15, E_L_stroke_15n, E_L_stroke_17, E_L_stroke_18, E_L_stroke_19, E_L_stroke_19n, E_L_stroke_21, E_L_stroke_22, E_L_stroke_23, E_L_stroke_23n, E_L_stroke_25, E_L_stroke_26, E_L_stroke_27, E_L_stroke_28, zwith_some, zwith_none, zif_true, zaft_inl, Option.toList_some, Option.toList_none, List.cons_append, List.nil_append, zc1_int, zc1_ref, zc1_null, zc1_float, List.length_nil, List.length_cons, Nat.reduceAdd, Nat.reduceLeDiff, Nat.zero_add, z1and, z0and, zl00, zl01, zl02, zl03, ze00, ze10, ze20, ze30, if_true, if_false]
      have K := K (st.1 + 7, st.2) G V f (by rw [hR]; exact WI_thr W) (fun z => by rw [hR] at z; exact absurd z (show ¬ (1 : Int32) = 0 by decide))
      rw [hR] at K
      exact K
    · simp only [c, show ¬ (2 : Int32) = 1 from by decide, if_false, if_true]
      have hR : mR_stroke R x y z = mF R 25 2 := (if_neg hw).trans (by rw [c])
      simp only [H_stroke_sI, H_stroke_sA, H_stroke_sS, E_L_stroke_0, E_L_stroke_0n, E_L_stroke_2, E_L_stroke_3, E_L_stroke_3n, E_L_stroke_4, E_L_stroke_5, E_L_stroke_6, E_L_stroke_7, E_L_stroke_10, E_L_stroke_11, E_L_stroke_12, E_L_stroke_15, E_L_stroke_15n, E_L_stroke_17, E_L_stroke_18, E_L_stroke_19, E_L_stroke_19n, E_L_stroke_21, E_L_stroke_22, E_L_stroke_23, E_L_stroke_23n, E_L_stroke_25, E_L_stroke_26, E_L_stroke_27, E_L_stroke_28, zwith_some, zwith_none, zif_true, zaft_inl, Option.toList_some, Option.toList_none, List.cons_append, List.nil_append, zc1_int, zc1_ref, zc1_null, zc1_float, List.length_nil, List.length_cons, Nat.reduceAdd, Nat.reduceLeDiff, Nat.zero_add, z1and, z0and, zl00, zl01, zl02, zl03, ze00, ze10, ze20, ze30, if_true, if_false]
      have K := K (st.1 + 7, st.2) G V f (by rw [hR]; exact WI_thr W) (fun z => by rw [hR] at z; exact absurd z (show ¬ (2 : Int32) = 0 by decide))
      rw [hR] at K
      exact K
    · simp only [c, show ¬ (3 : Int32) = 1 from by decide, show ¬ (3 : Int32) = 2 from by decide, if_false, if_true]
      have hR : mR_stroke R x y z = mF R 25 3 := (if_neg hw).trans (by rw [c])
      simp only [H_stroke_sI, H_stroke_sA, H_stroke_sS, E_L_stroke_0, E_L_stroke_0n, E_L_stroke_2, E_L_stroke_3, E_L_stroke_3n, E_L_stroke_4, E_L_stroke_5, E_L_stroke_6, E_L_stroke_7, E_L_stroke_10, E_L_stroke_11, E_L_stroke_12, E_L_stroke_15, E_L_stroke_15n, E_L_stroke_17, E_L_stroke_18, E_L_stroke_19, E_L_stroke_19n, E_L_stroke_21, E_L_stroke_22, E_L_stroke_23, E_L_stroke_23n, E_L_stroke_25, E_L_stroke_26, E_L_stroke_27, E_L_stroke_28, zwith_some, zwith_none, zif_true, zaft_inl, Option.toList_some, Option.toList_none, List.cons_append, List.nil_append, zc1_int, zc1_ref, zc1_null, zc1_float, List.length_nil, List.length_cons, Nat.reduceAdd, Nat.reduceLeDiff, Nat.zero_add, z1and, z0and, zl00, zl01, zl02, zl03, ze00, ze10, ze20, ze30, if_true, if_false]
      have K := K (st.1 + 7, st.2) G V f (by rw [hR]; exact WI_thr W) (fun z => by rw [hR] at z; exact absurd z (show ¬ (3 : Int32) = 0 by decide))
      rw [hR] at K
      exact K
  · intro hw V' hp I' L' hn
    have W' := WI_sta W (Sta.same (V' := V') W.ok (Nat.le_of_eq hp.symm)) I' L' (by rw [hn]; exact Nat.le_succ _)
    have hR : mR_stroke R x y z = strR R (tN x) y z := if_pos hw
    have hB : mB_stroke R x y z = nI (tN (R.1 1 (tN x)) + 1) := if_pos hw
    have hZ := Z_stroke (R := R) (i := tN x) (y := y) (z := z)
    simp only [E_L_stroke_0, E_L_stroke_0n, E_L_stroke_2, E_L_stroke_3, E_L_stroke_3n, E_L_stroke_4, E_L_stroke_5, E_L_stroke_6, E_L_stroke_7, E_L_stroke_10, E_L_stroke_11, E_L_stroke_12, E_L_stroke_15, E_L_stroke_15n, E_L_stroke_17, E_L_stroke_18, E_L_stroke_19, E_L_stroke_19n, E_L_stroke_21, E_L_stroke_22, E_L_stroke_23, E_L_stroke_23n, E_L_stroke_25, E_L_stroke_26, E_L_stroke_27, E_L_stroke_28, zwith_some, zwith_none, zif_true, zaft_inl, Option.toList_some, Option.toList_none, List.cons_append, List.nil_append, zc1_int, zc1_ref, zc1_null, zc1_float, List.length_nil, List.length_cons, Nat.reduceAdd, Nat.reduceLeDiff, Nat.zero_add, z1and, z0and, zl00, zl01, zl02, zl03, ze00, ze10, ze20, ze30, if_true, if_false, zaft_inl, WI_L W', zi01]
    rw [cw_zsta (WI.rb W').2.2.1.1]
    have K := K (zsta st ao (1, (.inr (.inl (vp_updL f 0 (nI (tN (R.1 1 (tN x)) + 1)).toInt64))))) G V' (vp_updL f 0 (nI (tN (R.1 1 (tN x)) + 1)).toInt64) (by rw [hR]; exact WI_ao W') (fun _ => by rw [hB]; rfl)
    rw [hR, hZ] at K
    exact K
theorem W_finish (W : WI st G V ka mo ao aD R R k f g) (K : (∀ st' G' V' f', WI st' G' V' ka mo ao aD R (mR_finish R x) (k + 1) f' g → ((mR_finish R x).2.1 25 = 0 → f' 0 = (mB_finish R x).toInt64) → P (.inl (some (.int ((mR_finish R x).2.1 25)))) (cw st' G' V'))) : AC X (d + 14) 128 [.ref ka, .int x, .ref ao] (cw st G V) P := by
  have hke := W.ke
  subst hke
  rw [A_L_finish rfl rfl]
  simp only [E_L_finish_0, E_L_finish_0n, E_L_finish_1, E_L_finish_2, E_L_finish_2n, E_L_finish_3, E_L_finish_4, E_L_finish_7, E_L_finish_8, E_L_finish_9, E_L_finish_12, E_L_finish_12n, E_L_finish_13, E_L_finish_14, E_L_finish_15, E_L_finish_15n, E_L_finish_16, E_L_finish_17, E_L_finish_18, E_L_finish_19, zwith_some, zwith_none, zif_true, zaft_inl, Option.toList_some, Option.toList_none, List.cons_append, List.nil_append, zc1_int, zc1_ref, zc1_null, zc1_float, List.length_nil, List.length_cons, Nat.reduceAdd, Nat.reduceLeDiff, Nat.zero_add, z1and, z0and, zl00, zl01, zl02, zl03, ze00, ze10, ze20, ze30, if_true, if_false, cis_kx W.ok W.ci.kx]
  refine C_finish (d := d + 1) W.ok W.ci W.rl ?_ ?_
  · intro hw
    rcases Y_finish (R := R) (x := x) with c | c | c
    · exact absurd c hw
    · simp only [c, if_true]
      have hR : mR_finish R x = mF R 25 1 := (if_neg hw).trans (by rw [c])
      simp only [H_finish_sI, H_finish_sS, E_L_finish_0, E_L_finish_0n, E_L_finish_1, E_L_finish_2, E_L_finish_2n, E_L_finish_3, E_L_finish_4, E_L_finish_7, E_L_finish_8, E_L_finish_9, E_L_finish_12, E_L_finish_12n, E_L_finish_13, E_L_finish_14, E_L_finish_15, E_L_finish_15n, E_L_finish_16, E_L_finish_17, E_L_finish_18, E_L_finish_19, zwith_some, zwith_none, zif_true, zaft_inl, Option.toList_some, Option.toList_none, List.cons_append, List.nil_append, zc1_int, zc1_ref, zc1_null, zc1_float, List.length_nil, List.length_cons, Nat.reduceAdd, Nat.reduceLeDiff, Nat.zero_add, z1and, z0and, zl00, zl01, zl02, zl03, ze00, ze10, ze20, ze30, if_true, if_false]
      have K := K (st.1 + 7, st.2) G V f (by rw [hR]; exact WI_thr W) (fun z => by rw [hR] at z; exact absurd z (show ¬ (1 : Int32) = 0 by decide))
      rw [hR] at K
      exact K
    · simp only [c, show ¬ (2 : Int32) = 1 from by decide, if_false, if_true]
      have hR : mR_finish R x = mF R 25 2 := (if_neg hw).trans (by rw [c])
      simp only [H_finish_sI, H_finish_sS, E_L_finish_0, E_L_finish_0n, E_L_finish_1, E_L_finish_2, E_L_finish_2n, E_L_finish_3, E_L_finish_4, E_L_finish_7, E_L_finish_8, E_L_finish_9, E_L_finish_12, E_L_finish_12n, E_L_finish_13, E_L_finish_14, E_L_finish_15, E_L_finish_15n, E_L_finish_16, E_L_finish_17, E_L_finish_18, E_L_finish_19, zwith_some, zwith_none, zif_true, zaft_inl, Option.toList_some, Option.toList_none, List.cons_append, List.nil_append, zc1_int, zc1_ref, zc1_null, zc1_float, List.length_nil, List.length_cons, Nat.reduceAdd, Nat.reduceLeDiff, Nat.zero_add, z1and, z0and, zl00, zl01, zl02, zl03, ze00, ze10, ze20, ze30, if_true, if_false]
      have K := K (st.1 + 7, st.2) G V f (by rw [hR]; exact WI_thr W) (fun z => by rw [hR] at z; exact absurd z (show ¬ (2 : Int32) = 0 by decide))
      rw [hR] at K
      exact K
  · intro hw st' G' V' E I' L' hn
    have W' := WI_sta W E I' L' (by rw [hn]; exact Nat.le_succ _)
    have hR : mR_finish R x = finF R (tN x) := if_pos hw
    have hB : mB_finish R x = finA R (tN x) := if_pos hw
    have hZ := Z_finish W.rl.ir hw
    simp only [E_L_finish_0, E_L_finish_0n, E_L_finish_1, E_L_finish_2, E_L_finish_2n, E_L_finish_3, E_L_finish_4, E_L_finish_7, E_L_finish_8, E_L_finish_9, E_L_finish_12, E_L_finish_12n, E_L_finish_13, E_L_finish_14, E_L_finish_15, E_L_finish_15n, E_L_finish_16, E_L_finish_17, E_L_finish_18, E_L_finish_19, zwith_some, zwith_none, zif_true, zaft_inl, Option.toList_some, Option.toList_none, List.cons_append, List.nil_append, zc1_int, zc1_ref, zc1_null, zc1_float, List.length_nil, List.length_cons, Nat.reduceAdd, Nat.reduceLeDiff, Nat.zero_add, z1and, z0and, zl00, zl01, zl02, zl03, ze00, ze10, ze20, ze30, if_true, if_false, zaft_inl, WI_L W', zi01]
    rw [cw_zsta (WI.rb W').2.2.1.1]
    have K := K (zsta st' ao (1, (.inr (.inl (vp_updL f 0 (finA R (tN x)).toInt64))))) G' V' (vp_updL f 0 (finA R (tN x)).toInt64) (by rw [hR]; exact WI_ao W') (fun _ => by rw [hB]; rfl)
    rw [hR, hZ] at K
    exact K
theorem W_redraw (W : WI st G V ka mo ao aD R R k f g) (K : (∀ st' G' V' f', WI st' G' V' ka mo ao aD R (mR_redraw R x) (k + 1) f' g → ((mR_redraw R x).2.1 25 = 0 → f' 0 = (mB_redraw R x).toInt64) → P (.inl (some (.int ((mR_redraw R x).2.1 25)))) (cw st' G' V'))) : AC X (d + 14) 129 [.ref ka, .int x, .ref ao] (cw st G V) P := by
  have hke := W.ke
  subst hke
  rw [A_L_redraw rfl rfl]
  simp only [E_L_redraw_0, E_L_redraw_0n, E_L_redraw_1, E_L_redraw_2, E_L_redraw_2n, E_L_redraw_3, E_L_redraw_4, E_L_redraw_7, E_L_redraw_8, E_L_redraw_9, E_L_redraw_12, E_L_redraw_12n, E_L_redraw_13, E_L_redraw_14, E_L_redraw_15, E_L_redraw_15n, E_L_redraw_16, E_L_redraw_17, E_L_redraw_18, E_L_redraw_19, zwith_some, zwith_none, zif_true, zaft_inl, Option.toList_some, Option.toList_none, List.cons_append, List.nil_append, zc1_int, zc1_ref, zc1_null, zc1_float, List.length_nil, List.length_cons, Nat.reduceAdd, Nat.reduceLeDiff, Nat.zero_add, z1and, z0and, zl00, zl01, zl02, zl03, ze00, ze10, ze20, ze30, if_true, if_false, cis_kx W.ok W.ci.kx]
  refine C_redraw (d := d + 1) W.ok W.ci W.rl ?_ ?_
  · intro hw
    rcases Y_redraw (R := R) (x := x) with c | c | c
    · exact absurd c hw
    · simp only [c, if_true]
      have hR : mR_redraw R x = mF R 25 1 := (if_neg hw).trans (by rw [c])
      simp only [H_redraw_sI, H_redraw_sS, E_L_redraw_0, E_L_redraw_0n, E_L_redraw_1, E_L_redraw_2, E_L_redraw_2n, E_L_redraw_3, E_L_redraw_4, E_L_redraw_7, E_L_redraw_8, E_L_redraw_9, E_L_redraw_12, E_L_redraw_12n, E_L_redraw_13, E_L_redraw_14, E_L_redraw_15, E_L_redraw_15n, E_L_redraw_16, E_L_redraw_17, E_L_redraw_18, E_L_redraw_19, zwith_some, zwith_none, zif_true, zaft_inl, Option.toList_some, Option.toList_none, List.cons_append, List.nil_append, zc1_int, zc1_ref, zc1_null, zc1_float, List.length_nil, List.length_cons, Nat.reduceAdd, Nat.reduceLeDiff, Nat.zero_add, z1and, z0and, zl00, zl01, zl02, zl03, ze00, ze10, ze20, ze30, if_true, if_false]
      have K := K (st.1 + 7, st.2) G V f (by rw [hR]; exact WI_thr W) (fun z => by rw [hR] at z; exact absurd z (show ¬ (1 : Int32) = 0 by decide))
      rw [hR] at K
      exact K
    · simp only [c, show ¬ (2 : Int32) = 1 from by decide, if_false, if_true]
      have hR : mR_redraw R x = mF R 25 2 := (if_neg hw).trans (by rw [c])
      simp only [H_redraw_sI, H_redraw_sS, E_L_redraw_0, E_L_redraw_0n, E_L_redraw_1, E_L_redraw_2, E_L_redraw_2n, E_L_redraw_3, E_L_redraw_4, E_L_redraw_7, E_L_redraw_8, E_L_redraw_9, E_L_redraw_12, E_L_redraw_12n, E_L_redraw_13, E_L_redraw_14, E_L_redraw_15, E_L_redraw_15n, E_L_redraw_16, E_L_redraw_17, E_L_redraw_18, E_L_redraw_19, zwith_some, zwith_none, zif_true, zaft_inl, Option.toList_some, Option.toList_none, List.cons_append, List.nil_append, zc1_int, zc1_ref, zc1_null, zc1_float, List.length_nil, List.length_cons, Nat.reduceAdd, Nat.reduceLeDiff, Nat.zero_add, z1and, z0and, zl00, zl01, zl02, zl03, ze00, ze10, ze20, ze30, if_true, if_false]
      have K := K (st.1 + 7, st.2) G V f (by rw [hR]; exact WI_thr W) (fun z => by rw [hR] at z; exact absurd z (show ¬ (2 : Int32) = 0 by decide))
      rw [hR] at K
      exact K
  · intro hw st' G' V' E I' L' hn
    have W' := WI_sta W E I' L' (by rw [hn]; exact Nat.le_succ _)
    have hR : mR_redraw R x = redF R x := if_pos hw
    have hB : mB_redraw R x = nI (rdc (redO R x) (tN (R.2.1 21))) := if_pos hw
    have hZ := Z_redraw (R := R) (x := x)
    simp only [E_L_redraw_0, E_L_redraw_0n, E_L_redraw_1, E_L_redraw_2, E_L_redraw_2n, E_L_redraw_3, E_L_redraw_4, E_L_redraw_7, E_L_redraw_8, E_L_redraw_9, E_L_redraw_12, E_L_redraw_12n, E_L_redraw_13, E_L_redraw_14, E_L_redraw_15, E_L_redraw_15n, E_L_redraw_16, E_L_redraw_17, E_L_redraw_18, E_L_redraw_19, zwith_some, zwith_none, zif_true, zaft_inl, Option.toList_some, Option.toList_none, List.cons_append, List.nil_append, zc1_int, zc1_ref, zc1_null, zc1_float, List.length_nil, List.length_cons, Nat.reduceAdd, Nat.reduceLeDiff, Nat.zero_add, z1and, z0and, zl00, zl01, zl02, zl03, ze00, ze10, ze20, ze30, if_true, if_false, zaft_inl, WI_L W', zi01]
    rw [cw_zsta (WI.rb W').2.2.1.1]
    have K := K (zsta st' ao (1, (.inr (.inl (vp_updL f 0 (nI (rdc (redO R x) (tN (R.2.1 21)))).toInt64))))) G' V' (vp_updL f 0 (nI (rdc (redO R x) (tN (R.2.1 21)))).toInt64) (by rw [hR]; exact WI_ao W') (fun _ => by rw [hB]; rfl)
    rw [hR, hZ] at K
    exact K
theorem W_ofDrawing (W : WI st G V ka mo ao aD R R k f g) (K : (∀ st' G' V' f', WI st' G' V' ka mo ao aD R (mR_ofDrawing R x y) (k + 1) f' g → ((mR_ofDrawing R x y).2.1 25 = 0 → f' 0 = (mB_ofDrawing R x y).toInt64) → P (.inl (some (.int ((mR_ofDrawing R x y).2.1 25)))) (cw st' G' V'))) : AC X (d + 14) 130 [.ref ka, .int x, .int y, .ref ao] (cw st G V) P := by
  have hke := W.ke
  subst hke
  rw [A_L_ofDrawing rfl rfl]
  simp only [E_L_ofDrawing_0, E_L_ofDrawing_0n, E_L_ofDrawing_1, E_L_ofDrawing_2, E_L_ofDrawing_2n, E_L_ofDrawing_3, E_L_ofDrawing_4, E_L_ofDrawing_5, E_L_ofDrawing_8, E_L_ofDrawing_9, E_L_ofDrawing_10, E_L_ofDrawing_13, E_L_ofDrawing_13n, E_L_ofDrawing_15, E_L_ofDrawing_16, E_L_ofDrawing_17, E_L_ofDrawing_17n, E_L_ofDrawing_19, E_L_ofDrawing_20, E_L_ofDrawing_21, E_L_ofDrawing_22, zwith_some, zwith_none, zif_true, zaft_inl, Option.toList_some, Option.toList_none, List.cons_append, List.nil_append, zc1_int, zc1_ref, zc1_null, zc1_float, List.length_nil, List.length_cons, Nat.reduceAdd, Nat.reduceLeDiff, Nat.zero_add, z1and, z0and, zl00, zl01, zl02, zl03, ze00, ze10, ze20, ze30, if_true, if_false, cis_kx W.ok W.ci.kx]
  rw [C_ofDrawing (d := d + 6) W.ok W.ci W.rl]
  by_cases hw : odW R x y = 0
  · rw [if_pos hw]
    have hR : mR_ofDrawing R x y = mF R 25 0 := if_pos hw
    have hB : mB_ofDrawing R x y = odA R (tN x) y := if_pos hw
    have hZ : (mF R 25 0).2.1 25 = 0 := rfl
    have W' := WI_q (x := 0) W
    simp only [E_L_ofDrawing_0, E_L_ofDrawing_0n, E_L_ofDrawing_1, E_L_ofDrawing_2, E_L_ofDrawing_2n, E_L_ofDrawing_3, E_L_ofDrawing_4, E_L_ofDrawing_5, E_L_ofDrawing_8, E_L_ofDrawing_9, E_L_ofDrawing_10, E_L_ofDrawing_13, E_L_ofDrawing_13n, E_L_ofDrawing_15, E_L_ofDrawing_16, E_L_ofDrawing_17, E_L_ofDrawing_17n, E_L_ofDrawing_19, E_L_ofDrawing_20, E_L_ofDrawing_21, E_L_ofDrawing_22, zwith_some, zwith_none, zif_true, zaft_inl, Option.toList_some, Option.toList_none, List.cons_append, List.nil_append, zc1_int, zc1_ref, zc1_null, zc1_float, List.length_nil, List.length_cons, Nat.reduceAdd, Nat.reduceLeDiff, Nat.zero_add, z1and, z0and, zl00, zl01, zl02, zl03, ze00, ze10, ze20, ze30, if_true, if_false, zaft_inl, WI_L W', zi01]
    rw [cw_zsta (WI.rb W').2.2.1.1]
    have K := K (zsta st ao (1, (.inr (.inl (vp_updL f 0 (odA R (tN x) y).toInt64))))) G V (vp_updL f 0 (odA R (tN x) y).toInt64) (by rw [hR]; exact WI_ao W') (fun _ => by rw [hB]; rfl)
    rw [hR, hZ] at K
    exact K
  · rw [if_neg hw]
    rcases Y_ofDrawing (R := R) (x := x) (y := y) with c | c | c
    · exact absurd c hw
    · simp only [c, if_true]
      have hR : mR_ofDrawing R x y = mF R 25 1 := (if_neg hw).trans (by rw [c])
      simp only [H_ofDrawing_sI, H_ofDrawing_sA, E_L_ofDrawing_0, E_L_ofDrawing_0n, E_L_ofDrawing_1, E_L_ofDrawing_2, E_L_ofDrawing_2n, E_L_ofDrawing_3, E_L_ofDrawing_4, E_L_ofDrawing_5, E_L_ofDrawing_8, E_L_ofDrawing_9, E_L_ofDrawing_10, E_L_ofDrawing_13, E_L_ofDrawing_13n, E_L_ofDrawing_15, E_L_ofDrawing_16, E_L_ofDrawing_17, E_L_ofDrawing_17n, E_L_ofDrawing_19, E_L_ofDrawing_20, E_L_ofDrawing_21, E_L_ofDrawing_22, zwith_some, zwith_none, zif_true, zaft_inl, Option.toList_some, Option.toList_none, List.cons_append, List.nil_append, zc1_int, zc1_ref, zc1_null, zc1_float, List.length_nil, List.length_cons, Nat.reduceAdd, Nat.reduceLeDiff, Nat.zero_add, z1and, z0and, zl00, zl01, zl02, zl03, ze00, ze10, ze20, ze30, if_true, if_false]
      have K := K (st.1 + 7, st.2) G V f (by rw [hR]; exact WI_thr W) (fun z => by rw [hR] at z; exact absurd z (show ¬ (1 : Int32) = 0 by decide))
      rw [hR] at K
      exact K
    · simp only [c, show ¬ (2 : Int32) = 1 from by decide, if_false, if_true]
      have hR : mR_ofDrawing R x y = mF R 25 2 := (if_neg hw).trans (by rw [c])
      simp only [H_ofDrawing_sI, H_ofDrawing_sA, E_L_ofDrawing_0, E_L_ofDrawing_0n, E_L_ofDrawing_1, E_L_ofDrawing_2, E_L_ofDrawing_2n, E_L_ofDrawing_3, E_L_ofDrawing_4, E_L_ofDrawing_5, E_L_ofDrawing_8, E_L_ofDrawing_9, E_L_ofDrawing_10, E_L_ofDrawing_13, E_L_ofDrawing_13n, E_L_ofDrawing_15, E_L_ofDrawing_16, E_L_ofDrawing_17, E_L_ofDrawing_17n, E_L_ofDrawing_19, E_L_ofDrawing_20, E_L_ofDrawing_21, E_L_ofDrawing_22, zwith_some, zwith_none, zif_true, zaft_inl, Option.toList_some, Option.toList_none, List.cons_append, List.nil_append, zc1_int, zc1_ref, zc1_null, zc1_float, List.length_nil, List.length_cons, Nat.reduceAdd, Nat.reduceLeDiff, Nat.zero_add, z1and, z0and, zl00, zl01, zl02, zl03, ze00, ze10, ze20, ze30, if_true, if_false]
      have K := K (st.1 + 7, st.2) G V f (by rw [hR]; exact WI_thr W) (fun z => by rw [hR] at z; exact absurd z (show ¬ (2 : Int32) = 0 by decide))
      rw [hR] at K
      exact K
theorem W_length (W : WI st G V ka mo ao aD R R k f g) (K : (∀ st' G' V' g', WI st' G' V' ka mo ao aD R (mR_length R x) (k + 1) f g' → ((mR_length R x).2.1 25 = 0 → g' 0 = FP.f2d (mB_length R x) ∧ mB_length R x ≤ 2139095040) → P (.inl (some (.int ((mR_length R x).2.1 25)))) (cw st' G' V'))) : AC X (d + 14) 131 [.ref ka, .int x, .ref aD] (cw st G V) P := by
  have hke := W.ke
  subst hke
  rw [A_L_length rfl rfl]
  simp only [E_L_length_0, E_L_length_0n, E_L_length_1, E_L_length_2, E_L_length_2n, E_L_length_3, E_L_length_4, E_L_length_7, E_L_length_8, E_L_length_9, E_L_length_12, E_L_length_12n, E_L_length_13, E_L_length_14, E_L_length_15, E_L_length_16, zwith_some, zwith_none, zif_true, zaft_inl, Option.toList_some, Option.toList_none, List.cons_append, List.nil_append, zc1_int, zc1_ref, zc1_null, zc1_float, List.length_nil, List.length_cons, Nat.reduceAdd, Nat.reduceLeDiff, Nat.zero_add, z1and, z0and, zl00, zl01, zl02, zl03, ze00, ze10, ze20, ze30, if_true, if_false, cis_kx W.ok W.ci.kx]
  rw [C_length (d := d + 6) W.ok W.ci W.rl]
  by_cases hw : lenW R x = 0
  · rw [if_pos hw]
    have hR : mR_length R x = mF R 25 0 := if_pos hw
    have hB : mB_length R x = lnF R (tN x) := if_pos hw
    have hZ : (mF R 25 0).2.1 25 = 0 := rfl
    have W' := WI_q (x := 0) W
    have hi12 : tN x < 12 := by
      unfold lenW at hw
      by_cases c : 0 ≤ x ∧ x ≤ R.2.1 5 - 1
      · rw [W.rl.ir.d5.1] at c
        have := W.rl.ir.d5.2
        obtain ⟨i, hi, rfl⟩ := nI_of_rng (by omega) c.1 c.2
        rw [tN_nI (by omega)]
        omega
      · rw [if_neg c] at hw
        exact absurd hw (by decide)
    have hu : lnF R (tN x) ≤ 2139095040 := lnF_ok W.rl.ir hi12
    simp only [E_L_length_0, E_L_length_0n, E_L_length_1, E_L_length_2, E_L_length_2n, E_L_length_3, E_L_length_4, E_L_length_7, E_L_length_8, E_L_length_9, E_L_length_12, E_L_length_12n, E_L_length_13, E_L_length_14, E_L_length_15, E_L_length_16, zwith_some, zwith_none, zif_true, zaft_inl, Option.toList_some, Option.toList_none, List.cons_append, List.nil_append, zc1_int, zc1_ref, zc1_null, zc1_float, List.length_nil, List.length_cons, Nat.reduceAdd, Nat.reduceLeDiff, Nat.zero_add, z1and, z0and, zl00, zl01, zl02, zl03, ze00, ze10, ze20, ze30, if_true, if_false, zaft_inl, (fp_f2d hu).1, WI_D W', zi01]
    rw [cw_zsta (WI.rb W').2.2.1.2]
    have K := K (zsta st aD (1, (.inr (.inr (.inr (.inl (vf_upd g 0 (FP.f2d (lnF R (tN x)))))))))) G V (vf_upd g 0 (FP.f2d (lnF R (tN x)))) (by rw [hR]; exact WI_aD W') (fun _ => by rw [hB]; exact ⟨rfl, hu⟩)
    rw [hR, hZ] at K
    exact K
  · rw [if_neg hw]
    have hw1 : lenW R x = 1 := (Y_length).resolve_left hw
    have hR : mR_length R x = mF R 25 1 := (if_neg hw).trans (by rw [hw1])
    simp only [H_length_sI, E_L_length_0, E_L_length_0n, E_L_length_1, E_L_length_2, E_L_length_2n, E_L_length_3, E_L_length_4, E_L_length_7, E_L_length_8, E_L_length_9, E_L_length_12, E_L_length_12n, E_L_length_13, E_L_length_14, E_L_length_15, E_L_length_16, zwith_some, zwith_none, zif_true, zaft_inl, Option.toList_some, Option.toList_none, List.cons_append, List.nil_append, zc1_int, zc1_ref, zc1_null, zc1_float, List.length_nil, List.length_cons, Nat.reduceAdd, Nat.reduceLeDiff, Nat.zero_add, z1and, z0and, zl00, zl01, zl02, zl03, ze00, ze10, ze20, ze30, if_true, if_false]
    have K := K (st.1 + 7, st.2) G V g (by rw [hR]; exact WI_thr W) (fun z => by rw [hR] at z; exact absurd z (show ¬ (1 : Int32) = 0 by decide))
    rw [hR] at K
    exact K
theorem W_sheet (W : WI st G V ka mo ao aD R R k f g) (K : (∀ st' G' V' f', WI st' G' V' ka mo ao aD R (mR_sheet R x y) (k + 1) f' g → ((mR_sheet R x y).2.1 25 = 0 → f' 0 = (mB_sheet R x y).toInt64) → P (.inl (some (.int ((mR_sheet R x y).2.1 25)))) (cw st' G' V'))) : AC X (d + 14) 132 [.ref ka, .int x, .int y, .ref ao] (cw st G V) P := by
  have hke := W.ke
  subst hke
  rw [A_L_sheet rfl rfl]
  simp only [E_L_sheet_0, E_L_sheet_0n, E_L_sheet_1, E_L_sheet_2, E_L_sheet_2n, E_L_sheet_3, E_L_sheet_4, E_L_sheet_5, E_L_sheet_8, E_L_sheet_9, E_L_sheet_10, E_L_sheet_13, E_L_sheet_13n, E_L_sheet_15, E_L_sheet_16, E_L_sheet_17, E_L_sheet_17n, E_L_sheet_19, E_L_sheet_20, E_L_sheet_21, E_L_sheet_22, zwith_some, zwith_none, zif_true, zaft_inl, Option.toList_some, Option.toList_none, List.cons_append, List.nil_append, zc1_int, zc1_ref, zc1_null, zc1_float, List.length_nil, List.length_cons, Nat.reduceAdd, Nat.reduceLeDiff, Nat.zero_add, z1and, z0and, zl00, zl01, zl02, zl03, ze00, ze10, ze20, ze30, if_true, if_false, cis_kx W.ok W.ci.kx]
  refine C_sheet (d := d + 1) W.ok W.ci W.rl ?_ ?_
  · intro hw
    rcases Y_sheet (R := R) (x := x) (y := y) with c | c | c
    · exact absurd c hw
    · simp only [c, if_true]
      have hR : mR_sheet R x y = mF R 25 1 := (if_neg hw).trans (by rw [c])
      simp only [H_sheet_sA, H_sheet_sS, E_L_sheet_0, E_L_sheet_0n, E_L_sheet_1, E_L_sheet_2, E_L_sheet_2n, E_L_sheet_3, E_L_sheet_4, E_L_sheet_5, E_L_sheet_8, E_L_sheet_9, E_L_sheet_10, E_L_sheet_13, E_L_sheet_13n, E_L_sheet_15, E_L_sheet_16, E_L_sheet_17, E_L_sheet_17n, E_L_sheet_19, E_L_sheet_20, E_L_sheet_21, E_L_sheet_22, zwith_some, zwith_none, zif_true, zaft_inl, Option.toList_some, Option.toList_none, List.cons_append, List.nil_append, zc1_int, zc1_ref, zc1_null, zc1_float, List.length_nil, List.length_cons, Nat.reduceAdd, Nat.reduceLeDiff, Nat.zero_add, z1and, z0and, zl00, zl01, zl02, zl03, ze00, ze10, ze20, ze30, if_true, if_false]
      have K := K (st.1 + 7, st.2) G V f (by rw [hR]; exact WI_thr W) (fun z => by rw [hR] at z; exact absurd z (show ¬ (1 : Int32) = 0 by decide))
      rw [hR] at K
      exact K
    · simp only [c, show ¬ (2 : Int32) = 1 from by decide, if_false, if_true]
      have hR : mR_sheet R x y = mF R 25 2 := (if_neg hw).trans (by rw [c])
      simp only [H_sheet_sA, H_sheet_sS, E_L_sheet_0, E_L_sheet_0n, E_L_sheet_1, E_L_sheet_2, E_L_sheet_2n, E_L_sheet_3, E_L_sheet_4, E_L_sheet_5, E_L_sheet_8, E_L_sheet_9, E_L_sheet_10, E_L_sheet_13, E_L_sheet_13n, E_L_sheet_15, E_L_sheet_16, E_L_sheet_17, E_L_sheet_17n, E_L_sheet_19, E_L_sheet_20, E_L_sheet_21, E_L_sheet_22, zwith_some, zwith_none, zif_true, zaft_inl, Option.toList_some, Option.toList_none, List.cons_append, List.nil_append, zc1_int, zc1_ref, zc1_null, zc1_float, List.length_nil, List.length_cons, Nat.reduceAdd, Nat.reduceLeDiff, Nat.zero_add, z1and, z0and, zl00, zl01, zl02, zl03, ze00, ze10, ze20, ze30, if_true, if_false]
      have K := K (st.1 + 7, st.2) G V f (by rw [hR]; exact WI_thr W) (fun z => by rw [hR] at z; exact absurd z (show ¬ (2 : Int32) = 0 by decide))
      rw [hR] at K
      exact K
  · intro hw st' G' V' E I' L' hn
    have W' := WI_sta W E I' L' (by rw [hn]; exact Nat.le_succ _)
    have hR : mR_sheet R x y = sheF R x y := if_pos hw
    have hB : mB_sheet R x y = (sheF R x y).2.1 15 - 1 := if_pos hw
    have hZ := Z_sheet (R := R) (x := x) (y := y)
    simp only [E_L_sheet_0, E_L_sheet_0n, E_L_sheet_1, E_L_sheet_2, E_L_sheet_2n, E_L_sheet_3, E_L_sheet_4, E_L_sheet_5, E_L_sheet_8, E_L_sheet_9, E_L_sheet_10, E_L_sheet_13, E_L_sheet_13n, E_L_sheet_15, E_L_sheet_16, E_L_sheet_17, E_L_sheet_17n, E_L_sheet_19, E_L_sheet_20, E_L_sheet_21, E_L_sheet_22, zwith_some, zwith_none, zif_true, zaft_inl, Option.toList_some, Option.toList_none, List.cons_append, List.nil_append, zc1_int, zc1_ref, zc1_null, zc1_float, List.length_nil, List.length_cons, Nat.reduceAdd, Nat.reduceLeDiff, Nat.zero_add, z1and, z0and, zl00, zl01, zl02, zl03, ze00, ze10, ze20, ze30, if_true, if_false, zaft_inl, WI_L W', zi01]
    rw [cw_zsta (WI.rb W').2.2.1.1]
    have K := K (zsta st' ao (1, (.inr (.inl (vp_updL f 0 ((sheF R x y).2.1 15 - 1).toInt64))))) G' V' (vp_updL f 0 ((sheF R x y).2.1 15 - 1).toInt64) (by rw [hR]; exact WI_ao W') (fun _ => by rw [hB]; rfl)
    rw [hR, hZ] at K
    exact K
theorem W_job (W : WI st G V ka mo ao aD R R k f g) (K : (∀ st' G' V' f', WI st' G' V' ka mo ao aD R (mR_job R x y) (k + 1) f' g → ((mR_job R x y).2.1 25 = 0 → f' 0 = (mB_job R x y).toInt64) → P (.inl (some (.int ((mR_job R x y).2.1 25)))) (cw st' G' V'))) : AC X (d + 14) 133 [.ref ka, .int x, .int y, .ref ao] (cw st G V) P := by
  have hke := W.ke
  subst hke
  rw [A_L_job rfl rfl]
  simp only [E_L_job_0, E_L_job_0n, E_L_job_1, E_L_job_2, E_L_job_2n, E_L_job_3, E_L_job_4, E_L_job_5, E_L_job_8, E_L_job_9, E_L_job_10, E_L_job_13, E_L_job_13n, E_L_job_15, E_L_job_16, E_L_job_17, E_L_job_17n, E_L_job_19, E_L_job_20, E_L_job_21, E_L_job_21n, E_L_job_23, E_L_job_24, E_L_job_25, E_L_job_26, zwith_some, zwith_none, zif_true, zaft_inl, Option.toList_some, Option.toList_none, List.cons_append, List.nil_append, zc1_int, zc1_ref, zc1_null, zc1_float, List.length_nil, List.length_cons, Nat.reduceAdd, Nat.reduceLeDiff, Nat.zero_add, z1and, z0and, zl00, zl01, zl02, zl03, ze00, ze10, ze20, ze30, if_true, if_false, cis_kx W.ok W.ci.kx]
  refine C_job (d := d + 2) W.ok W.ci W.rl ?_ ?_
  · intro hw
    rcases Y_job (R := R) (x := x) (y := y) with c | c | c | c
    · exact absurd c hw
    · simp only [c, if_true]
      have hR : mR_job R x y = mF R 25 1 := (if_neg hw).trans (by rw [c])
      simp only [H_job_sI, H_job_sA, H_job_sS, E_L_job_0, E_L_job_0n, E_L_job_1, E_L_job_2, E_L_job_2n, E_L_job_3, E_L_job_4, E_L_job_5, E_L_job_8, E_L_job_9, E_L_job_10, E_L_job_13, E_L_job_13n, E_L_job_15, E_L_job_16, E_L_job_17, E_L_job_17n, E_L_job_19, E_L_job_20, E_L_job_21, E_L_job_21n, E_L_job_23, E_L_job_24, E_L_job_25, E_L_job_26, zwith_some, zwith_none, zif_true, zaft_inl, Option.toList_some, Option.toList_none, List.cons_append, List.nil_append, zc1_int, zc1_ref, zc1_null, zc1_float, List.length_nil, List.length_cons, Nat.reduceAdd, Nat.reduceLeDiff, Nat.zero_add, z1and, z0and, zl00, zl01, zl02, zl03, ze00, ze10, ze20, ze30, if_true, if_false]
      have K := K (st.1 + 7, st.2) G V f (by rw [hR]; exact WI_thr W) (fun z => by rw [hR] at z; exact absurd z (show ¬ (1 : Int32) = 0 by decide))
      rw [hR] at K
      exact K
    · simp only [c, show ¬ (2 : Int32) = 1 from by decide, if_false, if_true]
      have hR : mR_job R x y = mF R 25 2 := (if_neg hw).trans (by rw [c])
      simp only [H_job_sI, H_job_sA, H_job_sS, E_L_job_0, E_L_job_0n, E_L_job_1, E_L_job_2, E_L_job_2n, E_L_job_3, E_L_job_4, E_L_job_5, E_L_job_8, E_L_job_9, E_L_job_10, E_L_job_13, E_L_job_13n, E_L_job_15, E_L_job_16, E_L_job_17, E_L_job_17n, E_L_job_19, E_L_job_20, E_L_job_21, E_L_job_21n, E_L_job_23, E_L_job_24, E_L_job_25, E_L_job_26, zwith_some, zwith_none, zif_true, zaft_inl, Option.toList_some, Option.toList_none, List.cons_append, List.nil_append, zc1_int, zc1_ref, zc1_null, zc1_float, List.length_nil, List.length_cons, Nat.reduceAdd, Nat.reduceLeDiff, Nat.zero_add, z1and, z0and, zl00, zl01, zl02, zl03, ze00, ze10, ze20, ze30, if_true, if_false]
      have K := K (st.1 + 7, st.2) G V f (by rw [hR]; exact WI_thr W) (fun z => by rw [hR] at z; exact absurd z (show ¬ (2 : Int32) = 0 by decide))
      rw [hR] at K
      exact K
    · simp only [c, show ¬ (3 : Int32) = 1 from by decide, show ¬ (3 : Int32) = 2 from by decide, if_false, if_true]
      have hR : mR_job R x y = mF R 25 3 := (if_neg hw).trans (by rw [c])
      simp only [H_job_sI, H_job_sA, H_job_sS, E_L_job_0, E_L_job_0n, E_L_job_1, E_L_job_2, E_L_job_2n, E_L_job_3, E_L_job_4, E_L_job_5, E_L_job_8, E_L_job_9, E_L_job_10, E_L_job_13, E_L_job_13n, E_L_job_15, E_L_job_16, E_L_job_17, E_L_job_17n, E_L_job_19, E_L_job_20, E_L_job_21, E_L_job_21n, E_L_job_23, E_L_job_24, E_L_job_25, E_L_job_26, zwith_some, zwith_none, zif_true, zaft_inl, Option.toList_some, Option.toList_none, List.cons_append, List.nil_append, zc1_int, zc1_ref, zc1_null, zc1_float, List.length_nil, List.length_cons, Nat.reduceAdd, Nat.reduceLeDiff, Nat.zero_add, z1and, z0and, zl00, zl01, zl02, zl03, ze00, ze10, ze20, ze30, if_true, if_false]
      have K := K (st.1 + 7, st.2) G V f (by rw [hR]; exact WI_thr W) (fun z => by rw [hR] at z; exact absurd z (show ¬ (3 : Int32) = 0 by decide))
      rw [hR] at K
      exact K
  · intro hw st' G' V' E I' L' hn
    have W' := WI_sta W E I' L' (by rw [hn]; exact Nat.le_succ _)
    have hR : mR_job R x y = jobF R x y := if_pos hw
    have hB : mB_job R x y = (jobF R x y).2.1 21 - 1 := if_pos hw
    have hZ := Z_job (R := R) (x := x) (y := y)
    simp only [E_L_job_0, E_L_job_0n, E_L_job_1, E_L_job_2, E_L_job_2n, E_L_job_3, E_L_job_4, E_L_job_5, E_L_job_8, E_L_job_9, E_L_job_10, E_L_job_13, E_L_job_13n, E_L_job_15, E_L_job_16, E_L_job_17, E_L_job_17n, E_L_job_19, E_L_job_20, E_L_job_21, E_L_job_21n, E_L_job_23, E_L_job_24, E_L_job_25, E_L_job_26, zwith_some, zwith_none, zif_true, zaft_inl, Option.toList_some, Option.toList_none, List.cons_append, List.nil_append, zc1_int, zc1_ref, zc1_null, zc1_float, List.length_nil, List.length_cons, Nat.reduceAdd, Nat.reduceLeDiff, Nat.zero_add, z1and, z0and, zl00, zl01, zl02, zl03, ze00, ze10, ze20, ze30, if_true, if_false, zaft_inl, WI_L W', zi01]
    rw [cw_zsta (WI.rb W').2.2.1.1]
    have K := K (zsta st' ao (1, (.inr (.inl (vp_updL f 0 ((jobF R x y).2.1 21 - 1).toInt64))))) G' V' (vp_updL f 0 ((jobF R x y).2.1 21 - 1).toInt64) (by rw [hR]; exact WI_ao W') (fun _ => by rw [hB]; rfl)
    rw [hR, hZ] at K
    exact K
theorem W_cancel (W : WI st G V ka mo ao aD R R k f g) (K : (∀ st' G' V' f', WI st' G' V' ka mo ao aD R (mR_cancel R x) (k + 1) f' g → ((mR_cancel R x).2.1 25 = 0 → f' 0 = (mB_cancel R x).toInt64) → P (.inl (some (.int ((mR_cancel R x).2.1 25)))) (cw st' G' V'))) : AC X (d + 14) 134 [.ref ka, .int x, .ref ao] (cw st G V) P := by
  have hke := W.ke
  subst hke
  rw [A_L_cancel rfl rfl]
  simp only [E_L_cancel_0, E_L_cancel_0n, E_L_cancel_1, E_L_cancel_2, E_L_cancel_2n, E_L_cancel_3, E_L_cancel_4, E_L_cancel_7, E_L_cancel_8, E_L_cancel_9, E_L_cancel_12, E_L_cancel_12n, E_L_cancel_13, E_L_cancel_14, E_L_cancel_15, E_L_cancel_15n, E_L_cancel_16, E_L_cancel_17, E_L_cancel_18, E_L_cancel_19, zwith_some, zwith_none, zif_true, zaft_inl, Option.toList_some, Option.toList_none, List.cons_append, List.nil_append, zc1_int, zc1_ref, zc1_null, zc1_float, List.length_nil, List.length_cons, Nat.reduceAdd, Nat.reduceLeDiff, Nat.zero_add, z1and, z0and, zl00, zl01, zl02, zl03, ze00, ze10, ze20, ze30, if_true, if_false, cis_kx W.ok W.ci.kx]
  refine C_cancel (d := d + 1) W.ok W.ci W.rl ?_ ?_
  · intro hw
    rcases Y_cancel (R := R) (x := x) with c | c | c
    · exact absurd c hw
    · simp only [c, if_true]
      have hR : mR_cancel R x = mF R 25 1 := (if_neg hw).trans (by rw [c])
      simp only [H_cancel_sI, H_cancel_sS, E_L_cancel_0, E_L_cancel_0n, E_L_cancel_1, E_L_cancel_2, E_L_cancel_2n, E_L_cancel_3, E_L_cancel_4, E_L_cancel_7, E_L_cancel_8, E_L_cancel_9, E_L_cancel_12, E_L_cancel_12n, E_L_cancel_13, E_L_cancel_14, E_L_cancel_15, E_L_cancel_15n, E_L_cancel_16, E_L_cancel_17, E_L_cancel_18, E_L_cancel_19, zwith_some, zwith_none, zif_true, zaft_inl, Option.toList_some, Option.toList_none, List.cons_append, List.nil_append, zc1_int, zc1_ref, zc1_null, zc1_float, List.length_nil, List.length_cons, Nat.reduceAdd, Nat.reduceLeDiff, Nat.zero_add, z1and, z0and, zl00, zl01, zl02, zl03, ze00, ze10, ze20, ze30, if_true, if_false]
      have K := K (st.1 + 7, st.2) G V f (by rw [hR]; exact WI_thr W) (fun z => by rw [hR] at z; exact absurd z (show ¬ (1 : Int32) = 0 by decide))
      rw [hR] at K
      exact K
    · simp only [c, show ¬ (2 : Int32) = 1 from by decide, if_false, if_true]
      have hR : mR_cancel R x = mF R 25 2 := (if_neg hw).trans (by rw [c])
      simp only [H_cancel_sI, H_cancel_sS, E_L_cancel_0, E_L_cancel_0n, E_L_cancel_1, E_L_cancel_2, E_L_cancel_2n, E_L_cancel_3, E_L_cancel_4, E_L_cancel_7, E_L_cancel_8, E_L_cancel_9, E_L_cancel_12, E_L_cancel_12n, E_L_cancel_13, E_L_cancel_14, E_L_cancel_15, E_L_cancel_15n, E_L_cancel_16, E_L_cancel_17, E_L_cancel_18, E_L_cancel_19, zwith_some, zwith_none, zif_true, zaft_inl, Option.toList_some, Option.toList_none, List.cons_append, List.nil_append, zc1_int, zc1_ref, zc1_null, zc1_float, List.length_nil, List.length_cons, Nat.reduceAdd, Nat.reduceLeDiff, Nat.zero_add, z1and, z0and, zl00, zl01, zl02, zl03, ze00, ze10, ze20, ze30, if_true, if_false]
      have K := K (st.1 + 7, st.2) G V f (by rw [hR]; exact WI_thr W) (fun z => by rw [hR] at z; exact absurd z (show ¬ (2 : Int32) = 0 by decide))
      rw [hR] at K
      exact K
  · intro hw st' G' V' E I' L' hn
    have W' := WI_sta W E I' L' (by rw [hn]; exact Nat.le_succ _)
    have hR : mR_cancel R x = canF R (tN x) := if_pos hw
    have hB : mB_cancel R x = R.1 15 (tN x) := if_pos hw
    have hZ := Z_cancel (R := R) (i := tN x)
    simp only [E_L_cancel_0, E_L_cancel_0n, E_L_cancel_1, E_L_cancel_2, E_L_cancel_2n, E_L_cancel_3, E_L_cancel_4, E_L_cancel_7, E_L_cancel_8, E_L_cancel_9, E_L_cancel_12, E_L_cancel_12n, E_L_cancel_13, E_L_cancel_14, E_L_cancel_15, E_L_cancel_15n, E_L_cancel_16, E_L_cancel_17, E_L_cancel_18, E_L_cancel_19, zwith_some, zwith_none, zif_true, zaft_inl, Option.toList_some, Option.toList_none, List.cons_append, List.nil_append, zc1_int, zc1_ref, zc1_null, zc1_float, List.length_nil, List.length_cons, Nat.reduceAdd, Nat.reduceLeDiff, Nat.zero_add, z1and, z0and, zl00, zl01, zl02, zl03, ze00, ze10, ze20, ze30, if_true, if_false, zaft_inl, WI_L W', zi01]
    rw [cw_zsta (WI.rb W').2.2.1.1]
    have K := K (zsta st' ao (1, (.inr (.inl (vp_updL f 0 (R.1 15 (tN x)).toInt64))))) G' V' (vp_updL f 0 (R.1 15 (tN x)).toInt64) (by rw [hR]; exact WI_ao W') (fun _ => by rw [hB]; rfl)
    rw [hR, hZ] at K
    exact K
theorem W_cut (W : WI st G V ka mo ao aD R R k f g) (hk : k < 600) (K : (∀ st' G' V' f', WI st' G' V' ka mo ao aD R (mR_cut R x) (k + 1) f' g → ((mR_cut R x).2.1 25 = 0 → f' 0 = (mB_cut R x).toInt64) → P (.inl (some (.int ((mR_cut R x).2.1 25)))) (cw st' G' V'))) : AC X (d + 14) 135 [.ref ka, .int x, .ref ao] (cw st G V) P := by
  have hke := W.ke
  subst hke
  rw [A_L_cut rfl rfl]
  simp only [E_L_cut_0, E_L_cut_0n, E_L_cut_1, E_L_cut_2, E_L_cut_2n, E_L_cut_3, E_L_cut_4, E_L_cut_7, E_L_cut_8, E_L_cut_9, E_L_cut_12, E_L_cut_12n, E_L_cut_13, E_L_cut_14, E_L_cut_15, E_L_cut_15n, E_L_cut_16, E_L_cut_17, E_L_cut_18, E_L_cut_19, zwith_some, zwith_none, zif_true, zaft_inl, Option.toList_some, Option.toList_none, List.cons_append, List.nil_append, zc1_int, zc1_ref, zc1_null, zc1_float, List.length_nil, List.length_cons, Nat.reduceAdd, Nat.reduceLeDiff, Nat.zero_add, z1and, z0and, zl00, zl01, zl02, zl03, ze00, ze10, ze20, ze30, if_true, if_false, cis_kx W.ok W.ci.kx]
  refine C_cut (d := d + 6) W.ok W.ci W.rl (Nat.lt_of_le_of_lt W.nc hk) ?_ ?_
  · intro hw
    rcases Y_cut (R := R) (x := x) with c | c | c
    · exact absurd c hw
    · simp only [c, if_true]
      have hR : mR_cut R x = mF R 25 1 := (if_neg hw).trans (by rw [c])
      simp only [H_cut_sI, H_cut_sS, E_L_cut_0, E_L_cut_0n, E_L_cut_1, E_L_cut_2, E_L_cut_2n, E_L_cut_3, E_L_cut_4, E_L_cut_7, E_L_cut_8, E_L_cut_9, E_L_cut_12, E_L_cut_12n, E_L_cut_13, E_L_cut_14, E_L_cut_15, E_L_cut_15n, E_L_cut_16, E_L_cut_17, E_L_cut_18, E_L_cut_19, zwith_some, zwith_none, zif_true, zaft_inl, Option.toList_some, Option.toList_none, List.cons_append, List.nil_append, zc1_int, zc1_ref, zc1_null, zc1_float, List.length_nil, List.length_cons, Nat.reduceAdd, Nat.reduceLeDiff, Nat.zero_add, z1and, z0and, zl00, zl01, zl02, zl03, ze00, ze10, ze20, ze30, if_true, if_false]
      have K := K (st.1 + 7, st.2) G V f (by rw [hR]; exact WI_thr W) (fun z => by rw [hR] at z; exact absurd z (show ¬ (1 : Int32) = 0 by decide))
      rw [hR] at K
      exact K
    · simp only [c, show ¬ (2 : Int32) = 1 from by decide, if_false, if_true]
      have hR : mR_cut R x = mF R 25 2 := (if_neg hw).trans (by rw [c])
      simp only [H_cut_sI, H_cut_sS, E_L_cut_0, E_L_cut_0n, E_L_cut_1, E_L_cut_2, E_L_cut_2n, E_L_cut_3, E_L_cut_4, E_L_cut_7, E_L_cut_8, E_L_cut_9, E_L_cut_12, E_L_cut_12n, E_L_cut_13, E_L_cut_14, E_L_cut_15, E_L_cut_15n, E_L_cut_16, E_L_cut_17, E_L_cut_18, E_L_cut_19, zwith_some, zwith_none, zif_true, zaft_inl, Option.toList_some, Option.toList_none, List.cons_append, List.nil_append, zc1_int, zc1_ref, zc1_null, zc1_float, List.length_nil, List.length_cons, Nat.reduceAdd, Nat.reduceLeDiff, Nat.zero_add, z1and, z0and, zl00, zl01, zl02, zl03, ze00, ze10, ze20, ze30, if_true, if_false]
      have K := K (st.1 + 7, st.2) G V f (by rw [hR]; exact WI_thr W) (fun z => by rw [hR] at z; exact absurd z (show ¬ (2 : Int32) = 0 by decide))
      rw [hR] at K
      exact K
  · intro hw st' G' V' E I' L' hn
    have W' := WI_sta W E I' L' (Nat.le_of_eq hn)
    have hR : mR_cut R x = cutF R (tN x) := if_pos hw
    have hB : mB_cut R x = cutN R (tN x) := if_pos hw
    have hZ := Z_cut (R := R) (i := tN x)
    simp only [E_L_cut_0, E_L_cut_0n, E_L_cut_1, E_L_cut_2, E_L_cut_2n, E_L_cut_3, E_L_cut_4, E_L_cut_7, E_L_cut_8, E_L_cut_9, E_L_cut_12, E_L_cut_12n, E_L_cut_13, E_L_cut_14, E_L_cut_15, E_L_cut_15n, E_L_cut_16, E_L_cut_17, E_L_cut_18, E_L_cut_19, zwith_some, zwith_none, zif_true, zaft_inl, Option.toList_some, Option.toList_none, List.cons_append, List.nil_append, zc1_int, zc1_ref, zc1_null, zc1_float, List.length_nil, List.length_cons, Nat.reduceAdd, Nat.reduceLeDiff, Nat.zero_add, z1and, z0and, zl00, zl01, zl02, zl03, ze00, ze10, ze20, ze30, if_true, if_false, zaft_inl, WI_L W', zi01]
    rw [cw_zsta (WI.rb W').2.2.1.1]
    have K := K (zsta st' ao (1, (.inr (.inl (vp_updL f 0 (cutN R (tN x)).toInt64))))) G' V' (vp_updL f 0 (cutN R (tN x)).toInt64) (by rw [hR]; exact WI_ao W') (fun _ => by rw [hB]; rfl)
    rw [hR, hZ] at K
    exact K
theorem W_ofJob (W : WI st G V ka mo ao aD R R k f g) (K : (∀ st' G' V' f', WI st' G' V' ka mo ao aD R (mR_ofJob R x y) (k + 1) f' g → ((mR_ofJob R x y).2.1 25 = 0 → f' 0 = (mB_ofJob R x y).toInt64) → P (.inl (some (.int ((mR_ofJob R x y).2.1 25)))) (cw st' G' V'))) : AC X (d + 14) 136 [.ref ka, .int x, .int y, .ref ao] (cw st G V) P := by
  have hke := W.ke
  subst hke
  rw [A_L_ofJob rfl rfl]
  simp only [E_L_ofJob_0, E_L_ofJob_0n, E_L_ofJob_1, E_L_ofJob_2, E_L_ofJob_2n, E_L_ofJob_3, E_L_ofJob_4, E_L_ofJob_5, E_L_ofJob_8, E_L_ofJob_9, E_L_ofJob_10, E_L_ofJob_13, E_L_ofJob_13n, E_L_ofJob_15, E_L_ofJob_16, E_L_ofJob_17, E_L_ofJob_17n, E_L_ofJob_19, E_L_ofJob_20, E_L_ofJob_21, E_L_ofJob_22, zwith_some, zwith_none, zif_true, zaft_inl, Option.toList_some, Option.toList_none, List.cons_append, List.nil_append, zc1_int, zc1_ref, zc1_null, zc1_float, List.length_nil, List.length_cons, Nat.reduceAdd, Nat.reduceLeDiff, Nat.zero_add, z1and, z0and, zl00, zl01, zl02, zl03, ze00, ze10, ze20, ze30, if_true, if_false, cis_kx W.ok W.ci.kx]
  rw [C_ofJob (d := d + 6) W.ok W.ci W.rl]
  by_cases hw : ojW R x y = 0
  · rw [if_pos hw]
    have hR : mR_ofJob R x y = mF R 25 0 := if_pos hw
    have hB : mB_ofJob R x y = ojA R (tN x) y := if_pos hw
    have hZ : (mF R 25 0).2.1 25 = 0 := rfl
    have W' := WI_q (x := 0) W
    simp only [E_L_ofJob_0, E_L_ofJob_0n, E_L_ofJob_1, E_L_ofJob_2, E_L_ofJob_2n, E_L_ofJob_3, E_L_ofJob_4, E_L_ofJob_5, E_L_ofJob_8, E_L_ofJob_9, E_L_ofJob_10, E_L_ofJob_13, E_L_ofJob_13n, E_L_ofJob_15, E_L_ofJob_16, E_L_ofJob_17, E_L_ofJob_17n, E_L_ofJob_19, E_L_ofJob_20, E_L_ofJob_21, E_L_ofJob_22, zwith_some, zwith_none, zif_true, zaft_inl, Option.toList_some, Option.toList_none, List.cons_append, List.nil_append, zc1_int, zc1_ref, zc1_null, zc1_float, List.length_nil, List.length_cons, Nat.reduceAdd, Nat.reduceLeDiff, Nat.zero_add, z1and, z0and, zl00, zl01, zl02, zl03, ze00, ze10, ze20, ze30, if_true, if_false, zaft_inl, WI_L W', zi01]
    rw [cw_zsta (WI.rb W').2.2.1.1]
    have K := K (zsta st ao (1, (.inr (.inl (vp_updL f 0 (ojA R (tN x) y).toInt64))))) G V (vp_updL f 0 (ojA R (tN x) y).toInt64) (by rw [hR]; exact WI_ao W') (fun _ => by rw [hB]; rfl)
    rw [hR, hZ] at K
    exact K
  · rw [if_neg hw]
    rcases Y_ofJob (R := R) (x := x) (y := y) with c | c | c
    · exact absurd c hw
    · simp only [c, if_true]
      have hR : mR_ofJob R x y = mF R 25 1 := (if_neg hw).trans (by rw [c])
      simp only [H_ofJob_sI, H_ofJob_sA, E_L_ofJob_0, E_L_ofJob_0n, E_L_ofJob_1, E_L_ofJob_2, E_L_ofJob_2n, E_L_ofJob_3, E_L_ofJob_4, E_L_ofJob_5, E_L_ofJob_8, E_L_ofJob_9, E_L_ofJob_10, E_L_ofJob_13, E_L_ofJob_13n, E_L_ofJob_15, E_L_ofJob_16, E_L_ofJob_17, E_L_ofJob_17n, E_L_ofJob_19, E_L_ofJob_20, E_L_ofJob_21, E_L_ofJob_22, zwith_some, zwith_none, zif_true, zaft_inl, Option.toList_some, Option.toList_none, List.cons_append, List.nil_append, zc1_int, zc1_ref, zc1_null, zc1_float, List.length_nil, List.length_cons, Nat.reduceAdd, Nat.reduceLeDiff, Nat.zero_add, z1and, z0and, zl00, zl01, zl02, zl03, ze00, ze10, ze20, ze30, if_true, if_false]
      have K := K (st.1 + 7, st.2) G V f (by rw [hR]; exact WI_thr W) (fun z => by rw [hR] at z; exact absurd z (show ¬ (1 : Int32) = 0 by decide))
      rw [hR] at K
      exact K
    · simp only [c, show ¬ (2 : Int32) = 1 from by decide, if_false, if_true]
      have hR : mR_ofJob R x y = mF R 25 2 := (if_neg hw).trans (by rw [c])
      simp only [H_ofJob_sI, H_ofJob_sA, E_L_ofJob_0, E_L_ofJob_0n, E_L_ofJob_1, E_L_ofJob_2, E_L_ofJob_2n, E_L_ofJob_3, E_L_ofJob_4, E_L_ofJob_5, E_L_ofJob_8, E_L_ofJob_9, E_L_ofJob_10, E_L_ofJob_13, E_L_ofJob_13n, E_L_ofJob_15, E_L_ofJob_16, E_L_ofJob_17, E_L_ofJob_17n, E_L_ofJob_19, E_L_ofJob_20, E_L_ofJob_21, E_L_ofJob_22, zwith_some, zwith_none, zif_true, zaft_inl, Option.toList_some, Option.toList_none, List.cons_append, List.nil_append, zc1_int, zc1_ref, zc1_null, zc1_float, List.length_nil, List.length_cons, Nat.reduceAdd, Nat.reduceLeDiff, Nat.zero_add, z1and, z0and, zl00, zl01, zl02, zl03, ze00, ze10, ze20, ze30, if_true, if_false]
      have K := K (st.1 + 7, st.2) G V f (by rw [hR]; exact WI_thr W) (fun z => by rw [hR] at z; exact absurd z (show ¬ (2 : Int32) = 0 by decide))
      rw [hR] at K
      exact K
theorem W_where (W : WI st G V ka mo ao aD R R k f g) (K : (∀ st' G' V' f', WI st' G' V' ka mo ao aD R (mR_where R x y z) (k + 1) f' g → ((mR_where R x y z).2.1 25 = 0 → f' 0 = (mB_where R x y z).toInt64) → P (.inl (some (.int ((mR_where R x y z).2.1 25)))) (cw st' G' V'))) : AC X (d + 14) 137 [.ref ka, .int x, .int y, .int z, .ref ao] (cw st G V) P := by
  have hke := W.ke
  subst hke
  rw [A_L_where rfl rfl]
  simp only [E_L_where_0, E_L_where_0n, E_L_where_2, E_L_where_3, E_L_where_3n, E_L_where_4, E_L_where_5, E_L_where_6, E_L_where_7, E_L_where_10, E_L_where_11, E_L_where_12, E_L_where_15, E_L_where_15n, E_L_where_17, E_L_where_18, E_L_where_19, E_L_where_19n, E_L_where_21, E_L_where_22, E_L_where_23, E_L_where_24, zwith_some, zwith_none, zif_true, zaft_inl, Option.toList_some, Option.toList_none, List.cons_append, List.nil_append, zc1_int, zc1_ref, zc1_null, zc1_float, List.length_nil, List.length_cons, Nat.reduceAdd, Nat.reduceLeDiff, Nat.zero_add, z1and, z0and, zl00, zl01, zl02, zl03, ze00, ze10, ze20, ze30, if_true, if_false, cis_kx W.ok W.ci.kx]
  rw [C_where (d := d + 6) W.ok W.ci W.rl]
  by_cases hw : whW R x y z = 0
  · rw [if_pos hw]
    have hR : mR_where R x y z = mF R 25 0 := if_pos hw
    have hB : mB_where R x y z = whA R (tN x) (tN y) z := if_pos hw
    have hZ : (mF R 25 0).2.1 25 = 0 := rfl
    have W' := WI_q (x := 0) W
    simp only [E_L_where_0, E_L_where_0n, E_L_where_2, E_L_where_3, E_L_where_3n, E_L_where_4, E_L_where_5, E_L_where_6, E_L_where_7, E_L_where_10, E_L_where_11, E_L_where_12, E_L_where_15, E_L_where_15n, E_L_where_17, E_L_where_18, E_L_where_19, E_L_where_19n, E_L_where_21, E_L_where_22, E_L_where_23, E_L_where_24, zwith_some, zwith_none, zif_true, zaft_inl, Option.toList_some, Option.toList_none, List.cons_append, List.nil_append, zc1_int, zc1_ref, zc1_null, zc1_float, List.length_nil, List.length_cons, Nat.reduceAdd, Nat.reduceLeDiff, Nat.zero_add, z1and, z0and, zl00, zl01, zl02, zl03, ze00, ze10, ze20, ze30, if_true, if_false, zaft_inl, WI_L W', zi01]
    rw [cw_zsta (WI.rb W').2.2.1.1]
    have K := K (zsta st ao (1, (.inr (.inl (vp_updL f 0 (whA R (tN x) (tN y) z).toInt64))))) G V (vp_updL f 0 (whA R (tN x) (tN y) z).toInt64) (by rw [hR]; exact WI_ao W') (fun _ => by rw [hB]; rfl)
    rw [hR, hZ] at K
    exact K
  · rw [if_neg hw]
    rcases Y_where (R := R) (x := x) (y := y) (z := z) with c | c | c
    · exact absurd c hw
    · simp only [c, if_true]
      have hR : mR_where R x y z = mF R 25 1 := (if_neg hw).trans (by rw [c])
      simp only [H_where_sI, H_where_sA, E_L_where_0, E_L_where_0n, E_L_where_2, E_L_where_3, E_L_where_3n, E_L_where_4, E_L_where_5, E_L_where_6, E_L_where_7, E_L_where_10, E_L_where_11, E_L_where_12, E_L_where_15, E_L_where_15n, E_L_where_17, E_L_where_18, E_L_where_19, E_L_where_19n, E_L_where_21, E_L_where_22, E_L_where_23, E_L_where_24, zwith_some, zwith_none, zif_true, zaft_inl, Option.toList_some, Option.toList_none, List.cons_append, List.nil_append, zc1_int, zc1_ref, zc1_null, zc1_float, List.length_nil, List.length_cons, Nat.reduceAdd, Nat.reduceLeDiff, Nat.zero_add, z1and, z0and, zl00, zl01, zl02, zl03, ze00, ze10, ze20, ze30, if_true, if_false]
      have K := K (st.1 + 7, st.2) G V f (by rw [hR]; exact WI_thr W) (fun z => by rw [hR] at z; exact absurd z (show ¬ (1 : Int32) = 0 by decide))
      rw [hR] at K
      exact K
    · simp only [c, show ¬ (2 : Int32) = 1 from by decide, if_false, if_true]
      have hR : mR_where R x y z = mF R 25 2 := (if_neg hw).trans (by rw [c])
      simp only [H_where_sI, H_where_sA, E_L_where_0, E_L_where_0n, E_L_where_2, E_L_where_3, E_L_where_3n, E_L_where_4, E_L_where_5, E_L_where_6, E_L_where_7, E_L_where_10, E_L_where_11, E_L_where_12, E_L_where_15, E_L_where_15n, E_L_where_17, E_L_where_18, E_L_where_19, E_L_where_19n, E_L_where_21, E_L_where_22, E_L_where_23, E_L_where_24, zwith_some, zwith_none, zif_true, zaft_inl, Option.toList_some, Option.toList_none, List.cons_append, List.nil_append, zc1_int, zc1_ref, zc1_null, zc1_float, List.length_nil, List.length_cons, Nat.reduceAdd, Nat.reduceLeDiff, Nat.zero_add, z1and, z0and, zl00, zl01, zl02, zl03, ze00, ze10, ze20, ze30, if_true, if_false]
      have K := K (st.1 + 7, st.2) G V f (by rw [hR]; exact WI_thr W) (fun z => by rw [hR] at z; exact absurd z (show ¬ (2 : Int32) = 0 by decide))
      rw [hR] at K
      exact K
theorem W_free (W : WI st G V ka mo ao aD R R k f g) (K : (∀ st' G' V' f', WI st' G' V' ka mo ao aD R (mR_free R x) (k + 1) f' g → ((mR_free R x).2.1 25 = 0 → f' 0 = (mB_free R x).toInt64) → P (.inl (some (.int ((mR_free R x).2.1 25)))) (cw st' G' V'))) : AC X (d + 14) 138 [.ref ka, .int x, .ref ao] (cw st G V) P := by
  have hke := W.ke
  subst hke
  rw [A_L_free rfl rfl]
  simp only [E_L_free_0, E_L_free_0n, E_L_free_1, E_L_free_2, E_L_free_2n, E_L_free_3, E_L_free_4, E_L_free_7, E_L_free_8, E_L_free_9, E_L_free_12, E_L_free_12n, E_L_free_13, E_L_free_14, E_L_free_15, E_L_free_16, zwith_some, zwith_none, zif_true, zaft_inl, Option.toList_some, Option.toList_none, List.cons_append, List.nil_append, zc1_int, zc1_ref, zc1_null, zc1_float, List.length_nil, List.length_cons, Nat.reduceAdd, Nat.reduceLeDiff, Nat.zero_add, z1and, z0and, zl00, zl01, zl02, zl03, ze00, ze10, ze20, ze30, if_true, if_false, cis_kx W.ok W.ci.kx]
  rw [C_free (d := d + 7) W.ok W.ci W.rl]
  by_cases hw : x < 0
  · rw [if_pos hw]
    have hR : mR_free R x = mF R 25 1 := if_pos hw
    simp only [H_free_sI, E_L_free_0, E_L_free_0n, E_L_free_1, E_L_free_2, E_L_free_2n, E_L_free_3, E_L_free_4, E_L_free_7, E_L_free_8, E_L_free_9, E_L_free_12, E_L_free_12n, E_L_free_13, E_L_free_14, E_L_free_15, E_L_free_16, zwith_some, zwith_none, zif_true, zaft_inl, Option.toList_some, Option.toList_none, List.cons_append, List.nil_append, zc1_int, zc1_ref, zc1_null, zc1_float, List.length_nil, List.length_cons, Nat.reduceAdd, Nat.reduceLeDiff, Nat.zero_add, z1and, z0and, zl00, zl01, zl02, zl03, ze00, ze10, ze20, ze30, if_true, if_false]
    have K := K (st.1 + 7, st.2) G V f (by rw [hR]; exact WI_thr W) (fun z => by rw [hR] at z; exact absurd z (show ¬ (1 : Int32) = 0 by decide))
    rw [hR] at K
    exact K
  · rw [if_neg hw]
    have hR : mR_free R x = mF R 25 0 := if_neg hw
    have hB : mB_free R x = frV R (frf R x (nP R)) := if_neg hw
    have hZ : (mF R 25 0).2.1 25 = 0 := rfl
    have W' := WI_q (x := 0) W
    simp only [E_L_free_0, E_L_free_0n, E_L_free_1, E_L_free_2, E_L_free_2n, E_L_free_3, E_L_free_4, E_L_free_7, E_L_free_8, E_L_free_9, E_L_free_12, E_L_free_12n, E_L_free_13, E_L_free_14, E_L_free_15, E_L_free_16, zwith_some, zwith_none, zif_true, zaft_inl, Option.toList_some, Option.toList_none, List.cons_append, List.nil_append, zc1_int, zc1_ref, zc1_null, zc1_float, List.length_nil, List.length_cons, Nat.reduceAdd, Nat.reduceLeDiff, Nat.zero_add, z1and, z0and, zl00, zl01, zl02, zl03, ze00, ze10, ze20, ze30, if_true, if_false, zaft_inl, WI_L W', zi01]
    rw [cw_zsta (WI.rb W').2.2.1.1]
    have K := K (zsta st ao (1, (.inr (.inl (vp_updL f 0 (frV R (frf R x (nP R))).toInt64))))) G V (vp_updL f 0 (frV R (frf R x (nP R))).toInt64) (by rw [hR]; exact WI_ao W') (fun _ => by rw [hB]; rfl)
    rw [hR, hZ] at K
    exact K
end WP
