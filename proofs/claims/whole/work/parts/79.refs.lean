/-! what each method of the reference leaves and answers -/
section WM
variable {X : ZX} {d : Nat} {st st' S : ZS} {G G' : CG} {V V' : CV} {P : ZO → ZS → Prop} {x y z : Int32} {k i mo ao aD ka : Nat} {R R' : MR} {f : Nat → Int64} {g : Nat → UInt64} {u w : UInt32}
def mR_drawing (R : MR) : MR := if R.2.1 5 = 12 then mF R 25 1 else draR R
def mB_drawing (R : MR) : Int32 := if R.2.1 5 = 12 then -1 else R.2.1 5
theorem M_drawing (h : mok S mo) : AC X (d + 14) 77 [.ref mo] (mw S mo R) P = P (.inl (some (.int (mB_drawing R)))) (mw S mo (mR_drawing R)) := by
  rw [S_drawing h]
  unfold mB_drawing mR_drawing
  by_cases c : R.2.1 5 = 12
  · rw [if_pos c, if_pos c, if_pos c]
  · rw [if_neg c, if_neg c, if_neg c, Int32.add_sub_cancel]
    rfl
theorem Z_drawing : (draR R).2.1 25 = 0 := rfl
def mR_stroke (R : MR) (x y z : Int32) : MR := if sw R x y z = 0 then strR R (tN x) y z else mF R 25 (sw R x y z)
def mB_stroke (R : MR) (x y z : Int32) : Int32 := if sw R x y z = 0 then nI (tN (R.1 1 (tN x)) + 1) else -1
theorem M_stroke (h : mok S mo) (I : IR R) : AC X (d + 14) 78 [.ref mo, .int x, .int y, .int z] (mw S mo R) P = P (.inl (some (.int (mB_stroke R x y z)))) (mw S mo (mR_stroke R x y z)) := by
  rw [S_stroke h I.d5.1 I.d5.2 (n := fun i => tN (R.1 1 i)) (fun i hi => I.dn i (Nat.lt_of_lt_of_le hi I.d5.2))]
  unfold mB_stroke mR_stroke
  by_cases c : sw R x y z = 0
  · rw [if_pos c, if_pos c, if_pos c]
    rfl
  · rw [if_neg c, if_neg c, if_neg c]
def mR_finish (R : MR) (x : Int32) : MR := if finW R x = 0 then finF R (tN x) else mF R 25 (finW R x)
def mB_finish (R : MR) (x : Int32) : Int32 := if finW R x = 0 then finA R (tN x) else -1
theorem M_finish (h : mok S mo) (I : IR R) : AC X (d + 14) 82 [.ref mo, .int x] (mw S mo R) P = P (.inl (some (.int (mB_finish R x)))) (mw S mo (mR_finish R x)) := by
  rw [S_finish h I]
  unfold mB_finish mR_finish
  by_cases c : finW R x = 0
  · rw [if_pos c, if_pos c, if_pos c]
  · rw [if_neg c, if_neg c, if_neg c]
def mR_redraw (R : MR) (x : Int32) : MR := if redW R x = 0 then redF R x else mF R 25 (redW R x)
def mB_redraw (R : MR) (x : Int32) : Int32 := if redW R x = 0 then nI (rdc (redO R x) (tN (R.2.1 21))) else -1
theorem M_redraw (h : mok S mo) (I : IR R) : AC X (d + 14) 101 [.ref mo, .int x] (mw S mo R) P = P (.inl (some (.int (mB_redraw R x)))) (mw S mo (mR_redraw R x)) := by
  rw [S_redraw h I]
  unfold mB_redraw mR_redraw
  by_cases c : redW R x = 0
  · rw [if_pos c, if_pos c, if_pos c]
  · rw [if_neg c, if_neg c, if_neg c]
def mR_ofDrawing (R : MR) (x y : Int32) : MR := if odW R x y = 0 then mF R 25 0 else mF R 25 (odW R x y)
def mB_ofDrawing (R : MR) (x y : Int32) : Int32 := if odW R x y = 0 then odA R (tN x) y else -1
theorem M_ofDrawing (h : mok S mo) (I : IR R) : AC X (d + 14) 84 [.ref mo, .int x, .int y] (mw S mo R) P = P (.inl (some (.int (mB_ofDrawing R x y)))) (mw S mo (mR_ofDrawing R x y)) := by
  rw [S_ofDrawing h I]
  unfold mB_ofDrawing mR_ofDrawing
  by_cases c : odW R x y = 0
  · rw [if_pos c, if_pos c, if_pos c]
  · rw [if_neg c, if_neg c, if_neg c]
def mR_length (R : MR) (x : Int32) : MR := if lenW R x = 0 then mF R 25 0 else mF R 25 (lenW R x)
def mB_length (R : MR) (x : Int32) : UInt32 := if lenW R x = 0 then lnF R (tN x) else 3212836864
theorem M_length (h : mok S mo) (I : IR R) : AC X (d + 14) 87 [.ref mo, .int x] (mw S mo R) P = P (.inl (some (.float (mB_length R x)))) (mw S mo (mR_length R x)) := by
  rw [S_length h I]
  unfold mB_length mR_length
  by_cases c : lenW R x = 0
  · rw [if_pos c, if_pos c, if_pos c]
  · rw [if_neg c, if_neg c, if_neg c]
def mR_sheet (R : MR) (x y : Int32) : MR := if sheW R x y = 0 then sheF R x y else mF R 25 (sheW R x y)
def mB_sheet (R : MR) (x y : Int32) : Int32 := if sheW R x y = 0 then (sheF R x y).2.1 15 - 1 else -1
theorem M_sheet (h : mok S mo) (I : IR R) : AC X (d + 14) 89 [.ref mo, .int x, .int y] (mw S mo R) P = P (.inl (some (.int (mB_sheet R x y)))) (mw S mo (mR_sheet R x y)) := by
  rw [S_sheet h I]
  unfold mB_sheet mR_sheet
  by_cases c : sheW R x y = 0
  · rw [if_pos c, if_pos c, if_pos c]
  · rw [if_neg c, if_neg c, if_neg c]
def mR_job (R : MR) (x y : Int32) : MR := if jobW R x y = 0 then jobF R x y else mF R 25 (jobW R x y)
def mB_job (R : MR) (x y : Int32) : Int32 := if jobW R x y = 0 then (jobF R x y).2.1 21 - 1 else -1
theorem M_job (h : mok S mo) (I : IR R) : AC X (d + 14) 98 [.ref mo, .int x, .int y] (mw S mo R) P = P (.inl (some (.int (mB_job R x y)))) (mw S mo (mR_job R x y)) := by
  rw [S_job h I]
  unfold mB_job mR_job
  by_cases c : jobW R x y = 0
  · rw [if_pos c, if_pos c, if_pos c]
  · rw [if_neg c, if_neg c, if_neg c]
def mR_cancel (R : MR) (x : Int32) : MR := if canW R x = 0 then canF R (tN x) else mF R 25 (canW R x)
def mB_cancel (R : MR) (x : Int32) : Int32 := if canW R x = 0 then R.1 15 (tN x) else -1
theorem M_cancel (h : mok S mo) (I : IR R) : AC X (d + 14) 99 [.ref mo, .int x] (mw S mo R) P = P (.inl (some (.int (mB_cancel R x)))) (mw S mo (mR_cancel R x)) := by
  rw [S_cancel h I]
  unfold mB_cancel mR_cancel
  by_cases c : canW R x = 0
  · rw [if_pos c, if_pos c, if_pos c]
  · rw [if_neg c, if_neg c, if_neg c]
def mR_cut (R : MR) (x : Int32) : MR := if cutW R x = 0 then cutF R (tN x) else mF R 25 (cutW R x)
def mB_cut (R : MR) (x : Int32) : Int32 := if cutW R x = 0 then cutN R (tN x) else -1
theorem M_cut (h : mok S mo) (I : IR R) (hL : R.2.2 ≤ 2139095040) : AC X (d + 14) 103 [.ref mo, .int x] (mw S mo R) P = P (.inl (some (.int (mB_cut R x)))) (mw S mo (mR_cut R x)) := by
  rw [S_cut h I hL]
  unfold mB_cut mR_cut
  by_cases c : cutW R x = 0
  · rw [if_pos c, if_pos c, if_pos c]
  · rw [if_neg c, if_neg c, if_neg c]
def mR_ofJob (R : MR) (x y : Int32) : MR := if ojW R x y = 0 then mF R 25 0 else mF R 25 (ojW R x y)
def mB_ofJob (R : MR) (x y : Int32) : Int32 := if ojW R x y = 0 then ojA R (tN x) y else -1
theorem M_ofJob (h : mok S mo) (I : IR R) : AC X (d + 14) 104 [.ref mo, .int x, .int y] (mw S mo R) P = P (.inl (some (.int (mB_ofJob R x y)))) (mw S mo (mR_ofJob R x y)) := by
  rw [S_ofJob h I]
  unfold mB_ofJob mR_ofJob
  by_cases c : ojW R x y = 0
  · rw [if_pos c, if_pos c, if_pos c]
  · rw [if_neg c, if_neg c, if_neg c]
def mR_where (R : MR) (x y z : Int32) : MR := if whW R x y z = 0 then mF R 25 0 else mF R 25 (whW R x y z)
def mB_where (R : MR) (x y z : Int32) : Int32 := if whW R x y z = 0 then whA R (tN x) (tN y) z else -1
theorem M_where (h : mok S mo) (I : IR R) : AC X (d + 14) 105 [.ref mo, .int x, .int y, .int z] (mw S mo R) P = P (.inl (some (.int (mB_where R x y z)))) (mw S mo (mR_where R x y z)) := by
  rw [S_where h I]
  unfold mB_where mR_where
  by_cases c : whW R x y z = 0
  · rw [if_pos c, if_pos c, if_pos c]
  · rw [if_neg c, if_neg c, if_neg c]
def mR_free (R : MR) (x : Int32) : MR := if x < 0 then mF R 25 1 else mF R 25 0
def mB_free (R : MR) (x : Int32) : Int32 := if x < 0 then -1 else frV R (frf R x (nP R))
theorem M_free (h : mok S mo) (I : IR R) : AC X (d + 14) 106 [.ref mo, .int x] (mw S mo R) P = P (.inl (some (.int (mB_free R x)))) (mw S mo (mR_free R x)) := by
  rw [S_free h I]
  unfold mB_free mR_free
  by_cases c : x < 0
  · rw [if_pos c, if_pos c, if_pos c]
  · rw [if_neg c, if_neg c, if_neg c]
theorem Z_stroke : (strR R i y z).2.1 25 = 0 := rfl
theorem Z_finish (I : IR R) (hw : finW R x = 0) : (finF R (tN x)).2.1 25 = 0 := by
  have hi : tN x < 12 := by
    unfold finW at hw
    by_cases c : 0 ≤ x ∧ x ≤ R.2.1 5 - 1
    · rw [I.d5.1] at c
      have := I.d5.2
      obtain ⟨i, hi, rfl⟩ := nI_of_rng (by omega) c.1 c.2
      rw [tN_nI (by omega)]
      omega
    · rw [if_pos c] at hw
      exact absurd hw (by decide)
  have h2 : (finM R (tN x)).2.1 25 = 0 := by
    have := (mnd_x (i := tN x) (tN (R.1 1 (tN x))) 0 (mF R 25 0) (by have := (I.dn _ hi).2; omega)).2.1
    show (mnd (tN x) (tN (R.1 1 (tN x))) 0 (mF R 25 0)).2.1 25 = 0
    rw [this]
    rfl
  unfold finF
  split
  · rw [trF_25]
    exact h2
  · exact h2
theorem Z_redraw : (redF R x).2.1 25 = 0 := by
  unfold redF
  rw [trF_25]
  show (redM R x).2.1 25 = 0
  unfold redM
  rw [rdl_2]
  rfl
theorem Z_sheet : (sheF R x y).2.1 25 = 0 := by
  unfold sheF
  rw [trF_25]
  rfl
theorem Z_job : (jobF R x y).2.1 25 = 0 := by
  unfold jobF
  rw [nsF_25]
  rfl
theorem Z_cancel : (canF R i).2.1 25 = 0 := by
  unfold canF
  rw [trF_25]
  show (canM R i).2.1 25 = 0
  unfold canM
  split <;> rfl
theorem Z_cut : (cutF R i).2.1 25 = 0 := rfl
theorem Y_stroke : sw R x y z = 0 ∨ sw R x y z = 1 ∨ sw R x y z = 2 ∨ sw R x y z = 3 := by
  unfold sw
  repeat' split
  all_goals simp
theorem Y_finish : finW R x = 0 ∨ finW R x = 1 ∨ finW R x = 2 := by
  unfold finW
  repeat' split
  all_goals simp
theorem Y_redraw : redW R x = 0 ∨ redW R x = 1 ∨ redW R x = 2 := by
  unfold redW
  repeat' split
  all_goals simp
theorem Y_ofDrawing : odW R x y = 0 ∨ odW R x y = 1 ∨ odW R x y = 2 := by
  unfold odW
  repeat' split
  all_goals simp
theorem Y_length : lenW R x = 0 ∨ lenW R x = 1 := by
  unfold lenW
  repeat' split
  all_goals simp
theorem Y_sheet : sheW R x y = 0 ∨ sheW R x y = 1 ∨ sheW R x y = 2 := by
  unfold sheW
  repeat' split
  all_goals simp
theorem Y_job : jobW R x y = 0 ∨ jobW R x y = 1 ∨ jobW R x y = 2 ∨ jobW R x y = 3 := by
  unfold jobW
  repeat' split
  all_goals simp
theorem Y_cancel : canW R x = 0 ∨ canW R x = 1 ∨ canW R x = 2 := by
  unfold canW
  repeat' split
  all_goals simp
theorem Y_cut : cutW R x = 0 ∨ cutW R x = 1 ∨ cutW R x = 2 := by
  unfold cutW
  repeat' split
  all_goals simp
theorem Y_ofJob : ojW R x y = 0 ∨ ojW R x y = 1 ∨ ojW R x y = 2 := by
  unfold ojW
  repeat' split
  all_goals simp
theorem Y_where : whW R x y z = 0 ∨ whW R x y z = 1 ∨ whW R x y z = 2 := by
  unfold whW
  repeat' split
  all_goals simp
end WM
