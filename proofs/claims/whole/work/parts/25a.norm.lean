/-! writes to the reference's state, in one order: arrays outside numbers, each ascending from the inside -/
theorem mA_same {R : MR} {j : Nat} {f g : Nat → Int32} : mA (mA R j f) j g = mA R j g := by
  unfold mA
  refine Prod.ext ?_ rfl
  funext k
  show (if k = j then g else if k = j then f else R.1 k) = if k = j then g else R.1 k
  by_cases c : k = j
  · rw [if_pos c, if_pos c]
  · rw [if_neg c, if_neg c, if_neg c]
theorem mA_comm {R : MR} {j k : Nat} {f g : Nat → Int32} (h : j < k) : mA (mA R k f) j g = mA (mA R j g) k f := by
  unfold mA
  refine Prod.ext ?_ rfl
  funext i
  show (if i = j then g else if i = k then f else R.1 i) = if i = k then f else if i = j then g else R.1 i
  by_cases c : i = j
  · rw [if_pos c, if_neg (by omega), if_pos c]
  · rw [if_neg c, if_neg c]
theorem mFA {R : MR} {j k : Nat} {f : Nat → Int32} {x : Int32} : mF (mA R j f) k x = mA (mF R k x) j f := rfl
theorem mCA {R : MR} {j : Nat} {f : Nat → Int32} {u : UInt32} : mC (mA R j f) u = mA (mC R u) j f := rfl
theorem mCF {R : MR} {k : Nat} {x : Int32} {u : UInt32} : mC (mF R k x) u = mF (mC R u) k x := rfl
theorem mCC {R : MR} {u w : UInt32} : mC (mC R u) w = mC R w := rfl
theorem mF_same {R : MR} {j : Nat} {x y : Int32} : mF (mF R j x) j y = mF R j y := by
  unfold mF
  refine Prod.ext rfl (Prod.ext ?_ rfl)
  funext k
  show (if k = j then y else if k = j then x else R.2.1 k) = if k = j then y else R.2.1 k
  by_cases c : k = j
  · rw [if_pos c, if_pos c]
  · rw [if_neg c, if_neg c, if_neg c]
theorem mF_comm {R : MR} {j k : Nat} {x y : Int32} (h : j < k) : mF (mF R k x) j y = mF (mF R j y) k x := by
  unfold mF
  refine Prod.ext rfl (Prod.ext ?_ rfl)
  funext i
  show (if i = j then y else if i = k then x else R.2.1 i) = if i = k then x else if i = j then y else R.2.1 i
  by_cases c : i = j
  · rw [if_pos c, if_neg (by omega), if_pos c]
  · rw [if_neg c, if_neg c]
theorem mA1 {R : MR} {j k : Nat} {f : Nat → Int32} : (mA R j f).1 k = if k = j then f else R.1 k := rfl
theorem mA2 {R : MR} {j : Nat} {f : Nat → Int32} : (mA R j f).2 = R.2 := rfl
theorem mF1 {R : MR} {k : Nat} {x : Int32} : (mF R k x).1 = R.1 := rfl
theorem mF2 {R : MR} {j k : Nat} {x : Int32} : (mF R k x).2.1 j = if j = k then x else R.2.1 j := rfl
theorem mF3 {R : MR} {k : Nat} {x : Int32} : (mF R k x).2.2 = R.2.2 := rfl
theorem mC1 {R : MR} {u : UInt32} : (mC R u).1 = R.1 := rfl
theorem mC2 {R : MR} {u : UInt32} : (mC R u).2.1 = R.2.1 := rfl
theorem mC3 {R : MR} {u : UInt32} : (mC R u).2.2 = u := rfl
/-- an array that is put back as it was -/
theorem mA_id {R : MR} {j : Nat} : mA R j (R.1 j) = R := by
  unfold mA
  refine Prod.ext ?_ rfl
  funext k
  show (if k = j then R.1 j else R.1 k) = R.1 k
  by_cases c : k = j
  · rw [if_pos c, c]
  · rw [if_neg c]
