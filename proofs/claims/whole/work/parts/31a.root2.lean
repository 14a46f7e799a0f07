/-! roots, what follows from the checks -/
/-- the root as a float -/
def rtf (n : Nat) : UInt32 := match rgo (FP.i2d (nI n)) 16 (FP.i2d (nI n)) with
  | some r => FP.d2f r
  | none => 0
theorem rgo_app {q : UInt64} : ∀ (k m : Nat) (r : UInt64), rgo q (k + m) r = (rgo q k r).bind (rgo q m)
  | 0, m, r => by rw [Nat.zero_add]; rfl
  | k + 1, m, r => by
    rw [show k + 1 + m = k + m + 1 by omega]
    show (if _ then rgo q (k + m) (rst q r) else none) = (if _ then rgo q k (rst q r) else none).bind (rgo q m)
    by_cases c : zn64 (FP.ddiv q r) = true ∧ zn64 (FP.dadd r (FP.ddiv q r)) = true ∧ zn64 (rst q r) = true ∧ rps r = true
    · rw [if_pos c, if_pos c, rgo_app k m]
    · rw [if_neg c, if_neg c]; rfl
theorem rch_spec {n : Nat} (h : rch n = true) : ∃ r r2, rgo (FP.i2d (nI n)) 16 (FP.i2d (nI n)) = some r ∧ rgo (FP.i2d (nI n)) 24 (FP.i2d (nI n)) = some r2 ∧ FP.d2f r = rtf n ∧ FP.d2f r2 = rtf n ∧ rtf n ≤ 2139095040 := by
  unfold rch at h
  split at h
  · rename_i r hr
    rw [Bool.and_eq_true] at h
    obtain ⟨h1, h2⟩ := h
    split at h2
    · rename_i r2 hr2
      have e : rtf n = FP.d2f r := by unfold rtf; rw [hr]
      refine ⟨r, r2, hr, ?_, e.symm, ?_, by rw [e]; exact of_decide_eq_true h1⟩
      · rw [show 24 = 16 + 8 from rfl, rgo_app, hr]; exact hr2
      · rw [e]; exact (of_decide_eq_true h2).symm
    · cases h2
  · cases h
