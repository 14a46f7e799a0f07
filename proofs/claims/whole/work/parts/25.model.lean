/-! THE REFERENCE: its object and its 19 arrays stand in the heap from place mo on; R: arrays by their places in that row, whole numbers by their fields, the float -/
-- arrays: 0 df[12], 1 dn[12], 2 dv[12], 3 from[288], 4 to[288], 5 has[1024], 6 ps[400], 7 px[400], 8 py[400], 9 pw[400], 10 ph[400], 11 pk[400], 12 po[400], 13 jd[30], 14 jn[30], 15 jk[30], 16 jv[30], 17 jp[180], 18 off[30]
-- numbers: 5 drawings, 14 pieces, 15 sheets, 21 jobs, 23 minutes, 24 cutLength, 25 thrown
abbrev MR : Type := (Nat → Nat → Int32) × (Nat → Int32) × UInt32
def mfs (mo : Nat) (R : MR) : List Value := [.ref (mo + 1), .ref (mo + 2), .ref (mo + 3), .ref (mo + 4), .ref (mo + 5), .int (R.2.1 5), .ref (mo + 6), .ref (mo + 7), .ref (mo + 8), .ref (mo + 9), .ref (mo + 10), .ref (mo + 11), .ref (mo + 12), .ref (mo + 13), .int (R.2.1 14), .int (R.2.1 15), .ref (mo + 14), .ref (mo + 15), .ref (mo + 16), .ref (mo + 17), .ref (mo + 18), .int (R.2.1 21), .ref (mo + 19), .int (R.2.1 23), .float R.2.2, .int (R.2.1 25)]
def mcs (mo : Nat) (R : MR) : List ZC := [.inr (7, mfs mo R), .inl (12, .inl (R.1 0)), .inl (12, .inl (R.1 1)), .inl (12, .inl (R.1 2)), .inl (288, .inl (R.1 3)), .inl (288, .inl (R.1 4)), .inl (1024, .inl (R.1 5)), .inl (400, .inl (R.1 6)), .inl (400, .inl (R.1 7)), .inl (400, .inl (R.1 8)), .inl (400, .inl (R.1 9)), .inl (400, .inl (R.1 10)), .inl (400, .inl (R.1 11)), .inl (400, .inl (R.1 12)), .inl (30, .inl (R.1 13)), .inl (30, .inl (R.1 14)), .inl (30, .inl (R.1 15)), .inl (30, .inl (R.1 16)), .inl (180, .inl (R.1 17)), .inl (30, .inl (R.1 18))]
def mw (st : ZS) (mo : Nat) (R : MR) : ZS := (st.1, st.2.take mo ++ (mcs mo R ++ st.2.drop (mo + 20)))
def mok (st : ZS) (mo : Nat) : Prop := 3 ≤ mo ∧ mo + 20 ≤ st.2.length
def mA (R : MR) (j : Nat) (f : Nat → Int32) : MR := (fun k => if k = j then f else R.1 k, R.2.1, R.2.2)
def mF (R : MR) (k : Nat) (x : Int32) : MR := (R.1, fun i => if i = k then x else R.2.1 i, R.2.2)
def mC (R : MR) (u : UInt32) : MR := (R.1, R.2.1, u)
theorem mcs_len {mo : Nat} {R : MR} : (mcs mo R).length = 20 := rfl
theorem mw_at {st : ZS} {mo : Nat} {R : MR} (h : mok st mo) (j : Nat) (hj : j < 20) : (mw st mo R).2[mo + j]? = (mcs mo R)[j]? := by
  have h1 : (st.2.take mo).length = mo := by rw [List.length_take]; have := h.2; omega
  show (st.2.take mo ++ (mcs mo R ++ st.2.drop (mo + 20)))[mo + j]? = _
  rw [List.getElem?_append_right (by omega), h1, show mo + j - mo = j by omega, List.getElem?_append_left (by rw [mcs_len]; exact hj)]
theorem mw_set {st : ZS} {mo : Nat} {R : MR} (h : mok st mo) (j : Nat) (hj : j < 20) (c : ZC) : (mw st mo R).2.set (mo + j) c = st.2.take mo ++ ((mcs mo R).set j c ++ st.2.drop (mo + 20)) := by
  have h1 : (st.2.take mo).length = mo := by rw [List.length_take]; have := h.2; omega
  show (st.2.take mo ++ (mcs mo R ++ st.2.drop (mo + 20))).set (mo + j) c = _
  rw [List.set_append_right _ _ (by omega), h1, show mo + j - mo = j by omega, List.set_append_left _ _ (by rw [mcs_len]; exact hj)]
theorem mw_len {st : ZS} {mo : Nat} {R : MR} (h : mok st mo) : (mw st mo R).2.length = st.2.length := by
  have := h.2
  show (st.2.take mo ++ (mcs mo R ++ st.2.drop (mo + 20))).length = _
  rw [List.length_append, List.length_append, List.length_take, List.length_drop, mcs_len]
  omega
section MW
variable {st : ZS} {mo : Nat} {X : ZX}
theorem mg_0 (h : mok st mo) (R : MR) : zget (mw st mo R) mo 7 0 = some (.ref (mo + 1)) := by
  have e := mw_at (R := R) h 0 (by decide)
  rw [Nat.add_zero] at e
  unfold zget
  rw [e]
  rfl
theorem mg_1 (h : mok st mo) (R : MR) : zget (mw st mo R) mo 7 1 = some (.ref (mo + 2)) := by
  have e := mw_at (R := R) h 0 (by decide)
  rw [Nat.add_zero] at e
  unfold zget
  rw [e]
  rfl
theorem mg_2 (h : mok st mo) (R : MR) : zget (mw st mo R) mo 7 2 = some (.ref (mo + 3)) := by
  have e := mw_at (R := R) h 0 (by decide)
  rw [Nat.add_zero] at e
  unfold zget
  rw [e]
  rfl
theorem mg_3 (h : mok st mo) (R : MR) : zget (mw st mo R) mo 7 3 = some (.ref (mo + 4)) := by
  have e := mw_at (R := R) h 0 (by decide)
  rw [Nat.add_zero] at e
  unfold zget
  rw [e]
  rfl
theorem mg_4 (h : mok st mo) (R : MR) : zget (mw st mo R) mo 7 4 = some (.ref (mo + 5)) := by
  have e := mw_at (R := R) h 0 (by decide)
  rw [Nat.add_zero] at e
  unfold zget
  rw [e]
  rfl
theorem mg_5 (h : mok st mo) (R : MR) : zget (mw st mo R) mo 7 5 = some (.int (R.2.1 5)) := by
  have e := mw_at (R := R) h 0 (by decide)
  rw [Nat.add_zero] at e
  unfold zget
  rw [e]
  rfl
theorem mp_5 (h : mok st mo) (R : MR) (x : Int32) : zput (mw st mo R) mo 5 (.int x) = mw st mo (mF R 5 x) := by
  have e := mw_at (R := R) h 0 (by decide)
  have e2 := mw_set (R := R) h 0 (by decide)
  rw [Nat.add_zero] at e e2
  rw [zput_eq (show (mw st mo R).2[mo]? = some (.inr (7, mfs mo R)) from e), e2]
  rfl
theorem mg_6 (h : mok st mo) (R : MR) : zget (mw st mo R) mo 7 6 = some (.ref (mo + 6)) := by
  have e := mw_at (R := R) h 0 (by decide)
  rw [Nat.add_zero] at e
  unfold zget
  rw [e]
  rfl
theorem mg_7 (h : mok st mo) (R : MR) : zget (mw st mo R) mo 7 7 = some (.ref (mo + 7)) := by
  have e := mw_at (R := R) h 0 (by decide)
  rw [Nat.add_zero] at e
  unfold zget
  rw [e]
  rfl
theorem mg_8 (h : mok st mo) (R : MR) : zget (mw st mo R) mo 7 8 = some (.ref (mo + 8)) := by
  have e := mw_at (R := R) h 0 (by decide)
  rw [Nat.add_zero] at e
  unfold zget
  rw [e]
  rfl
theorem mg_9 (h : mok st mo) (R : MR) : zget (mw st mo R) mo 7 9 = some (.ref (mo + 9)) := by
  have e := mw_at (R := R) h 0 (by decide)
  rw [Nat.add_zero] at e
  unfold zget
  rw [e]
  rfl
theorem mg_10 (h : mok st mo) (R : MR) : zget (mw st mo R) mo 7 10 = some (.ref (mo + 10)) := by
  have e := mw_at (R := R) h 0 (by decide)
  rw [Nat.add_zero] at e
  unfold zget
  rw [e]
  rfl
theorem mg_11 (h : mok st mo) (R : MR) : zget (mw st mo R) mo 7 11 = some (.ref (mo + 11)) := by
  have e := mw_at (R := R) h 0 (by decide)
  rw [Nat.add_zero] at e
  unfold zget
  rw [e]
  rfl
theorem mg_12 (h : mok st mo) (R : MR) : zget (mw st mo R) mo 7 12 = some (.ref (mo + 12)) := by
  have e := mw_at (R := R) h 0 (by decide)
  rw [Nat.add_zero] at e
  unfold zget
  rw [e]
  rfl
theorem mg_13 (h : mok st mo) (R : MR) : zget (mw st mo R) mo 7 13 = some (.ref (mo + 13)) := by
  have e := mw_at (R := R) h 0 (by decide)
  rw [Nat.add_zero] at e
  unfold zget
  rw [e]
  rfl
theorem mg_14 (h : mok st mo) (R : MR) : zget (mw st mo R) mo 7 14 = some (.int (R.2.1 14)) := by
  have e := mw_at (R := R) h 0 (by decide)
  rw [Nat.add_zero] at e
  unfold zget
  rw [e]
  rfl
theorem mp_14 (h : mok st mo) (R : MR) (x : Int32) : zput (mw st mo R) mo 14 (.int x) = mw st mo (mF R 14 x) := by
  have e := mw_at (R := R) h 0 (by decide)
  have e2 := mw_set (R := R) h 0 (by decide)
  rw [Nat.add_zero] at e e2
  rw [zput_eq (show (mw st mo R).2[mo]? = some (.inr (7, mfs mo R)) from e), e2]
  rfl
theorem mg_15 (h : mok st mo) (R : MR) : zget (mw st mo R) mo 7 15 = some (.int (R.2.1 15)) := by
  have e := mw_at (R := R) h 0 (by decide)
  rw [Nat.add_zero] at e
  unfold zget
  rw [e]
  rfl
theorem mp_15 (h : mok st mo) (R : MR) (x : Int32) : zput (mw st mo R) mo 15 (.int x) = mw st mo (mF R 15 x) := by
  have e := mw_at (R := R) h 0 (by decide)
  have e2 := mw_set (R := R) h 0 (by decide)
  rw [Nat.add_zero] at e e2
  rw [zput_eq (show (mw st mo R).2[mo]? = some (.inr (7, mfs mo R)) from e), e2]
  rfl
theorem mg_16 (h : mok st mo) (R : MR) : zget (mw st mo R) mo 7 16 = some (.ref (mo + 14)) := by
  have e := mw_at (R := R) h 0 (by decide)
  rw [Nat.add_zero] at e
  unfold zget
  rw [e]
  rfl
theorem mg_17 (h : mok st mo) (R : MR) : zget (mw st mo R) mo 7 17 = some (.ref (mo + 15)) := by
  have e := mw_at (R := R) h 0 (by decide)
  rw [Nat.add_zero] at e
  unfold zget
  rw [e]
  rfl
theorem mg_18 (h : mok st mo) (R : MR) : zget (mw st mo R) mo 7 18 = some (.ref (mo + 16)) := by
  have e := mw_at (R := R) h 0 (by decide)
  rw [Nat.add_zero] at e
  unfold zget
  rw [e]
  rfl
theorem mg_19 (h : mok st mo) (R : MR) : zget (mw st mo R) mo 7 19 = some (.ref (mo + 17)) := by
  have e := mw_at (R := R) h 0 (by decide)
  rw [Nat.add_zero] at e
  unfold zget
  rw [e]
  rfl
theorem mg_20 (h : mok st mo) (R : MR) : zget (mw st mo R) mo 7 20 = some (.ref (mo + 18)) := by
  have e := mw_at (R := R) h 0 (by decide)
  rw [Nat.add_zero] at e
  unfold zget
  rw [e]
  rfl
theorem mg_21 (h : mok st mo) (R : MR) : zget (mw st mo R) mo 7 21 = some (.int (R.2.1 21)) := by
  have e := mw_at (R := R) h 0 (by decide)
  rw [Nat.add_zero] at e
  unfold zget
  rw [e]
  rfl
theorem mp_21 (h : mok st mo) (R : MR) (x : Int32) : zput (mw st mo R) mo 21 (.int x) = mw st mo (mF R 21 x) := by
  have e := mw_at (R := R) h 0 (by decide)
  have e2 := mw_set (R := R) h 0 (by decide)
  rw [Nat.add_zero] at e e2
  rw [zput_eq (show (mw st mo R).2[mo]? = some (.inr (7, mfs mo R)) from e), e2]
  rfl
theorem mg_22 (h : mok st mo) (R : MR) : zget (mw st mo R) mo 7 22 = some (.ref (mo + 19)) := by
  have e := mw_at (R := R) h 0 (by decide)
  rw [Nat.add_zero] at e
  unfold zget
  rw [e]
  rfl
theorem mg_23 (h : mok st mo) (R : MR) : zget (mw st mo R) mo 7 23 = some (.int (R.2.1 23)) := by
  have e := mw_at (R := R) h 0 (by decide)
  rw [Nat.add_zero] at e
  unfold zget
  rw [e]
  rfl
theorem mp_23 (h : mok st mo) (R : MR) (x : Int32) : zput (mw st mo R) mo 23 (.int x) = mw st mo (mF R 23 x) := by
  have e := mw_at (R := R) h 0 (by decide)
  have e2 := mw_set (R := R) h 0 (by decide)
  rw [Nat.add_zero] at e e2
  rw [zput_eq (show (mw st mo R).2[mo]? = some (.inr (7, mfs mo R)) from e), e2]
  rfl
theorem mg_24 (h : mok st mo) (R : MR) : zget (mw st mo R) mo 7 24 = some (.float R.2.2) := by
  have e := mw_at (R := R) h 0 (by decide)
  rw [Nat.add_zero] at e
  unfold zget
  rw [e]
  rfl
theorem mp_24 (h : mok st mo) (R : MR) (x : UInt32) : zput (mw st mo R) mo 24 (.float x) = mw st mo (mC R x) := by
  have e := mw_at (R := R) h 0 (by decide)
  have e2 := mw_set (R := R) h 0 (by decide)
  rw [Nat.add_zero] at e e2
  rw [zput_eq (show (mw st mo R).2[mo]? = some (.inr (7, mfs mo R)) from e), e2]
  rfl
theorem mg_25 (h : mok st mo) (R : MR) : zget (mw st mo R) mo 7 25 = some (.int (R.2.1 25)) := by
  have e := mw_at (R := R) h 0 (by decide)
  rw [Nat.add_zero] at e
  unfold zget
  rw [e]
  rfl
theorem mp_25 (h : mok st mo) (R : MR) (x : Int32) : zput (mw st mo R) mo 25 (.int x) = mw st mo (mF R 25 x) := by
  have e := mw_at (R := R) h 0 (by decide)
  have e2 := mw_set (R := R) h 0 (by decide)
  rw [Nat.add_zero] at e e2
  rw [zput_eq (show (mw st mo R).2[mo]? = some (.inr (7, mfs mo R)) from e), e2]
  rfl
theorem ma_0 (h : mok st mo) (R : MR) : zarr (mw st mo R) (mo + 1) = some (12, .inl (R.1 0)) := by
  unfold zarr
  rw [mw_at h 1 (by decide)]
  rfl
theorem mi_0 (h : mok st mo) (R : MR) : zai X (mw st mo R) (mo + 1) = some (12, R.1 0) := by
  unfold zai
  rw [if_neg (by have := h.1; omega), ma_0 h]
theorem mI_0 (h : mok st mo) (R : MR) : zaI (mw st mo R) (mo + 1) = some (12, R.1 0) := by
  unfold zaI
  rw [ma_0 h]
theorem ms_0 (h : mok st mo) (R : MR) (f : Nat → Int32) : zsta (mw st mo R) (mo + 1) (12, .inl f) = mw st mo (mA R 0 f) := by
  unfold zsta
  rw [mw_set h 1 (by decide)]
  rfl
theorem ma_1 (h : mok st mo) (R : MR) : zarr (mw st mo R) (mo + 2) = some (12, .inl (R.1 1)) := by
  unfold zarr
  rw [mw_at h 2 (by decide)]
  rfl
theorem mi_1 (h : mok st mo) (R : MR) : zai X (mw st mo R) (mo + 2) = some (12, R.1 1) := by
  unfold zai
  rw [if_neg (by have := h.1; omega), ma_1 h]
theorem mI_1 (h : mok st mo) (R : MR) : zaI (mw st mo R) (mo + 2) = some (12, R.1 1) := by
  unfold zaI
  rw [ma_1 h]
theorem ms_1 (h : mok st mo) (R : MR) (f : Nat → Int32) : zsta (mw st mo R) (mo + 2) (12, .inl f) = mw st mo (mA R 1 f) := by
  unfold zsta
  rw [mw_set h 2 (by decide)]
  rfl
theorem ma_2 (h : mok st mo) (R : MR) : zarr (mw st mo R) (mo + 3) = some (12, .inl (R.1 2)) := by
  unfold zarr
  rw [mw_at h 3 (by decide)]
  rfl
theorem mi_2 (h : mok st mo) (R : MR) : zai X (mw st mo R) (mo + 3) = some (12, R.1 2) := by
  unfold zai
  rw [if_neg (by have := h.1; omega), ma_2 h]
theorem mI_2 (h : mok st mo) (R : MR) : zaI (mw st mo R) (mo + 3) = some (12, R.1 2) := by
  unfold zaI
  rw [ma_2 h]
theorem ms_2 (h : mok st mo) (R : MR) (f : Nat → Int32) : zsta (mw st mo R) (mo + 3) (12, .inl f) = mw st mo (mA R 2 f) := by
  unfold zsta
  rw [mw_set h 3 (by decide)]
  rfl
theorem ma_3 (h : mok st mo) (R : MR) : zarr (mw st mo R) (mo + 4) = some (288, .inl (R.1 3)) := by
  unfold zarr
  rw [mw_at h 4 (by decide)]
  rfl
theorem mi_3 (h : mok st mo) (R : MR) : zai X (mw st mo R) (mo + 4) = some (288, R.1 3) := by
  unfold zai
  rw [if_neg (by have := h.1; omega), ma_3 h]
theorem mI_3 (h : mok st mo) (R : MR) : zaI (mw st mo R) (mo + 4) = some (288, R.1 3) := by
  unfold zaI
  rw [ma_3 h]
theorem ms_3 (h : mok st mo) (R : MR) (f : Nat → Int32) : zsta (mw st mo R) (mo + 4) (288, .inl f) = mw st mo (mA R 3 f) := by
  unfold zsta
  rw [mw_set h 4 (by decide)]
  rfl
theorem ma_4 (h : mok st mo) (R : MR) : zarr (mw st mo R) (mo + 5) = some (288, .inl (R.1 4)) := by
  unfold zarr
  rw [mw_at h 5 (by decide)]
  rfl
theorem mi_4 (h : mok st mo) (R : MR) : zai X (mw st mo R) (mo + 5) = some (288, R.1 4) := by
  unfold zai
  rw [if_neg (by have := h.1; omega), ma_4 h]
theorem mI_4 (h : mok st mo) (R : MR) : zaI (mw st mo R) (mo + 5) = some (288, R.1 4) := by
  unfold zaI
  rw [ma_4 h]
theorem ms_4 (h : mok st mo) (R : MR) (f : Nat → Int32) : zsta (mw st mo R) (mo + 5) (288, .inl f) = mw st mo (mA R 4 f) := by
  unfold zsta
  rw [mw_set h 5 (by decide)]
  rfl
theorem ma_5 (h : mok st mo) (R : MR) : zarr (mw st mo R) (mo + 6) = some (1024, .inl (R.1 5)) := by
  unfold zarr
  rw [mw_at h 6 (by decide)]
  rfl
theorem mi_5 (h : mok st mo) (R : MR) : zai X (mw st mo R) (mo + 6) = some (1024, R.1 5) := by
  unfold zai
  rw [if_neg (by have := h.1; omega), ma_5 h]
theorem mI_5 (h : mok st mo) (R : MR) : zaI (mw st mo R) (mo + 6) = some (1024, R.1 5) := by
  unfold zaI
  rw [ma_5 h]
theorem ms_5 (h : mok st mo) (R : MR) (f : Nat → Int32) : zsta (mw st mo R) (mo + 6) (1024, .inl f) = mw st mo (mA R 5 f) := by
  unfold zsta
  rw [mw_set h 6 (by decide)]
  rfl
theorem ma_6 (h : mok st mo) (R : MR) : zarr (mw st mo R) (mo + 7) = some (400, .inl (R.1 6)) := by
  unfold zarr
  rw [mw_at h 7 (by decide)]
  rfl
theorem mi_6 (h : mok st mo) (R : MR) : zai X (mw st mo R) (mo + 7) = some (400, R.1 6) := by
  unfold zai
  rw [if_neg (by have := h.1; omega), ma_6 h]
theorem mI_6 (h : mok st mo) (R : MR) : zaI (mw st mo R) (mo + 7) = some (400, R.1 6) := by
  unfold zaI
  rw [ma_6 h]
theorem ms_6 (h : mok st mo) (R : MR) (f : Nat → Int32) : zsta (mw st mo R) (mo + 7) (400, .inl f) = mw st mo (mA R 6 f) := by
  unfold zsta
  rw [mw_set h 7 (by decide)]
  rfl
theorem ma_7 (h : mok st mo) (R : MR) : zarr (mw st mo R) (mo + 8) = some (400, .inl (R.1 7)) := by
  unfold zarr
  rw [mw_at h 8 (by decide)]
  rfl
theorem mi_7 (h : mok st mo) (R : MR) : zai X (mw st mo R) (mo + 8) = some (400, R.1 7) := by
  unfold zai
  rw [if_neg (by have := h.1; omega), ma_7 h]
theorem mI_7 (h : mok st mo) (R : MR) : zaI (mw st mo R) (mo + 8) = some (400, R.1 7) := by
  unfold zaI
  rw [ma_7 h]
theorem ms_7 (h : mok st mo) (R : MR) (f : Nat → Int32) : zsta (mw st mo R) (mo + 8) (400, .inl f) = mw st mo (mA R 7 f) := by
  unfold zsta
  rw [mw_set h 8 (by decide)]
  rfl
theorem ma_8 (h : mok st mo) (R : MR) : zarr (mw st mo R) (mo + 9) = some (400, .inl (R.1 8)) := by
  unfold zarr
  rw [mw_at h 9 (by decide)]
  rfl
theorem mi_8 (h : mok st mo) (R : MR) : zai X (mw st mo R) (mo + 9) = some (400, R.1 8) := by
  unfold zai
  rw [if_neg (by have := h.1; omega), ma_8 h]
theorem mI_8 (h : mok st mo) (R : MR) : zaI (mw st mo R) (mo + 9) = some (400, R.1 8) := by
  unfold zaI
  rw [ma_8 h]
theorem ms_8 (h : mok st mo) (R : MR) (f : Nat → Int32) : zsta (mw st mo R) (mo + 9) (400, .inl f) = mw st mo (mA R 8 f) := by
  unfold zsta
  rw [mw_set h 9 (by decide)]
  rfl
theorem ma_9 (h : mok st mo) (R : MR) : zarr (mw st mo R) (mo + 10) = some (400, .inl (R.1 9)) := by
  unfold zarr
  rw [mw_at h 10 (by decide)]
  rfl
theorem mi_9 (h : mok st mo) (R : MR) : zai X (mw st mo R) (mo + 10) = some (400, R.1 9) := by
  unfold zai
  rw [if_neg (by have := h.1; omega), ma_9 h]
theorem mI_9 (h : mok st mo) (R : MR) : zaI (mw st mo R) (mo + 10) = some (400, R.1 9) := by
  unfold zaI
  rw [ma_9 h]
theorem ms_9 (h : mok st mo) (R : MR) (f : Nat → Int32) : zsta (mw st mo R) (mo + 10) (400, .inl f) = mw st mo (mA R 9 f) := by
  unfold zsta
  rw [mw_set h 10 (by decide)]
  rfl
theorem ma_10 (h : mok st mo) (R : MR) : zarr (mw st mo R) (mo + 11) = some (400, .inl (R.1 10)) := by
  unfold zarr
  rw [mw_at h 11 (by decide)]
  rfl
theorem mi_10 (h : mok st mo) (R : MR) : zai X (mw st mo R) (mo + 11) = some (400, R.1 10) := by
  unfold zai
  rw [if_neg (by have := h.1; omega), ma_10 h]
theorem mI_10 (h : mok st mo) (R : MR) : zaI (mw st mo R) (mo + 11) = some (400, R.1 10) := by
  unfold zaI
  rw [ma_10 h]
theorem ms_10 (h : mok st mo) (R : MR) (f : Nat → Int32) : zsta (mw st mo R) (mo + 11) (400, .inl f) = mw st mo (mA R 10 f) := by
  unfold zsta
  rw [mw_set h 11 (by decide)]
  rfl
theorem ma_11 (h : mok st mo) (R : MR) : zarr (mw st mo R) (mo + 12) = some (400, .inl (R.1 11)) := by
  unfold zarr
  rw [mw_at h 12 (by decide)]
  rfl
theorem mi_11 (h : mok st mo) (R : MR) : zai X (mw st mo R) (mo + 12) = some (400, R.1 11) := by
  unfold zai
  rw [if_neg (by have := h.1; omega), ma_11 h]
theorem mI_11 (h : mok st mo) (R : MR) : zaI (mw st mo R) (mo + 12) = some (400, R.1 11) := by
  unfold zaI
  rw [ma_11 h]
theorem ms_11 (h : mok st mo) (R : MR) (f : Nat → Int32) : zsta (mw st mo R) (mo + 12) (400, .inl f) = mw st mo (mA R 11 f) := by
  unfold zsta
  rw [mw_set h 12 (by decide)]
  rfl
theorem ma_12 (h : mok st mo) (R : MR) : zarr (mw st mo R) (mo + 13) = some (400, .inl (R.1 12)) := by
  unfold zarr
  rw [mw_at h 13 (by decide)]
  rfl
theorem mi_12 (h : mok st mo) (R : MR) : zai X (mw st mo R) (mo + 13) = some (400, R.1 12) := by
  unfold zai
  rw [if_neg (by have := h.1; omega), ma_12 h]
theorem mI_12 (h : mok st mo) (R : MR) : zaI (mw st mo R) (mo + 13) = some (400, R.1 12) := by
  unfold zaI
  rw [ma_12 h]
theorem ms_12 (h : mok st mo) (R : MR) (f : Nat → Int32) : zsta (mw st mo R) (mo + 13) (400, .inl f) = mw st mo (mA R 12 f) := by
  unfold zsta
  rw [mw_set h 13 (by decide)]
  rfl
theorem ma_13 (h : mok st mo) (R : MR) : zarr (mw st mo R) (mo + 14) = some (30, .inl (R.1 13)) := by
  unfold zarr
  rw [mw_at h 14 (by decide)]
  rfl
theorem mi_13 (h : mok st mo) (R : MR) : zai X (mw st mo R) (mo + 14) = some (30, R.1 13) := by
  unfold zai
  rw [if_neg (by have := h.1; omega), ma_13 h]
theorem mI_13 (h : mok st mo) (R : MR) : zaI (mw st mo R) (mo + 14) = some (30, R.1 13) := by
  unfold zaI
  rw [ma_13 h]
theorem ms_13 (h : mok st mo) (R : MR) (f : Nat → Int32) : zsta (mw st mo R) (mo + 14) (30, .inl f) = mw st mo (mA R 13 f) := by
  unfold zsta
  rw [mw_set h 14 (by decide)]
  rfl
theorem ma_14 (h : mok st mo) (R : MR) : zarr (mw st mo R) (mo + 15) = some (30, .inl (R.1 14)) := by
  unfold zarr
  rw [mw_at h 15 (by decide)]
  rfl
theorem mi_14 (h : mok st mo) (R : MR) : zai X (mw st mo R) (mo + 15) = some (30, R.1 14) := by
  unfold zai
  rw [if_neg (by have := h.1; omega), ma_14 h]
theorem mI_14 (h : mok st mo) (R : MR) : zaI (mw st mo R) (mo + 15) = some (30, R.1 14) := by
  unfold zaI
  rw [ma_14 h]
theorem ms_14 (h : mok st mo) (R : MR) (f : Nat → Int32) : zsta (mw st mo R) (mo + 15) (30, .inl f) = mw st mo (mA R 14 f) := by
  unfold zsta
  rw [mw_set h 15 (by decide)]
  rfl
theorem ma_15 (h : mok st mo) (R : MR) : zarr (mw st mo R) (mo + 16) = some (30, .inl (R.1 15)) := by
  unfold zarr
  rw [mw_at h 16 (by decide)]
  rfl
theorem mi_15 (h : mok st mo) (R : MR) : zai X (mw st mo R) (mo + 16) = some (30, R.1 15) := by
  unfold zai
  rw [if_neg (by have := h.1; omega), ma_15 h]
theorem mI_15 (h : mok st mo) (R : MR) : zaI (mw st mo R) (mo + 16) = some (30, R.1 15) := by
  unfold zaI
  rw [ma_15 h]
theorem ms_15 (h : mok st mo) (R : MR) (f : Nat → Int32) : zsta (mw st mo R) (mo + 16) (30, .inl f) = mw st mo (mA R 15 f) := by
  unfold zsta
  rw [mw_set h 16 (by decide)]
  rfl
theorem ma_16 (h : mok st mo) (R : MR) : zarr (mw st mo R) (mo + 17) = some (30, .inl (R.1 16)) := by
  unfold zarr
  rw [mw_at h 17 (by decide)]
  rfl
theorem mi_16 (h : mok st mo) (R : MR) : zai X (mw st mo R) (mo + 17) = some (30, R.1 16) := by
  unfold zai
  rw [if_neg (by have := h.1; omega), ma_16 h]
theorem mI_16 (h : mok st mo) (R : MR) : zaI (mw st mo R) (mo + 17) = some (30, R.1 16) := by
  unfold zaI
  rw [ma_16 h]
theorem ms_16 (h : mok st mo) (R : MR) (f : Nat → Int32) : zsta (mw st mo R) (mo + 17) (30, .inl f) = mw st mo (mA R 16 f) := by
  unfold zsta
  rw [mw_set h 17 (by decide)]
  rfl
theorem ma_17 (h : mok st mo) (R : MR) : zarr (mw st mo R) (mo + 18) = some (180, .inl (R.1 17)) := by
  unfold zarr
  rw [mw_at h 18 (by decide)]
  rfl
theorem mi_17 (h : mok st mo) (R : MR) : zai X (mw st mo R) (mo + 18) = some (180, R.1 17) := by
  unfold zai
  rw [if_neg (by have := h.1; omega), ma_17 h]
theorem mI_17 (h : mok st mo) (R : MR) : zaI (mw st mo R) (mo + 18) = some (180, R.1 17) := by
  unfold zaI
  rw [ma_17 h]
theorem ms_17 (h : mok st mo) (R : MR) (f : Nat → Int32) : zsta (mw st mo R) (mo + 18) (180, .inl f) = mw st mo (mA R 17 f) := by
  unfold zsta
  rw [mw_set h 18 (by decide)]
  rfl
theorem ma_18 (h : mok st mo) (R : MR) : zarr (mw st mo R) (mo + 19) = some (30, .inl (R.1 18)) := by
  unfold zarr
  rw [mw_at h 19 (by decide)]
  rfl
theorem mi_18 (h : mok st mo) (R : MR) : zai X (mw st mo R) (mo + 19) = some (30, R.1 18) := by
  unfold zai
  rw [if_neg (by have := h.1; omega), ma_18 h]
theorem mI_18 (h : mok st mo) (R : MR) : zaI (mw st mo R) (mo + 19) = some (30, R.1 18) := by
  unfold zaI
  rw [ma_18 h]
theorem ms_18 (h : mok st mo) (R : MR) (f : Nat → Int32) : zsta (mw st mo R) (mo + 19) (30, .inl f) = mw st mo (mA R 18 f) := by
  unfold zsta
  rw [mw_set h 19 (by decide)]
  rfl
theorem mget (h : mok st mo) : (∀ R, zget (mw st mo R) mo 7 0 = some (.ref (mo + 1))) ∧ (∀ R, zget (mw st mo R) mo 7 1 = some (.ref (mo + 2))) ∧ (∀ R, zget (mw st mo R) mo 7 2 = some (.ref (mo + 3))) ∧ (∀ R, zget (mw st mo R) mo 7 3 = some (.ref (mo + 4))) ∧ (∀ R, zget (mw st mo R) mo 7 4 = some (.ref (mo + 5))) ∧ (∀ R, zget (mw st mo R) mo 7 5 = some (.int (R.2.1 5))) ∧ (∀ R, zget (mw st mo R) mo 7 6 = some (.ref (mo + 6))) ∧ (∀ R, zget (mw st mo R) mo 7 7 = some (.ref (mo + 7))) ∧ (∀ R, zget (mw st mo R) mo 7 8 = some (.ref (mo + 8))) ∧ (∀ R, zget (mw st mo R) mo 7 9 = some (.ref (mo + 9))) ∧ (∀ R, zget (mw st mo R) mo 7 10 = some (.ref (mo + 10))) ∧ (∀ R, zget (mw st mo R) mo 7 11 = some (.ref (mo + 11))) ∧ (∀ R, zget (mw st mo R) mo 7 12 = some (.ref (mo + 12))) ∧ (∀ R, zget (mw st mo R) mo 7 13 = some (.ref (mo + 13))) ∧ (∀ R, zget (mw st mo R) mo 7 14 = some (.int (R.2.1 14))) ∧ (∀ R, zget (mw st mo R) mo 7 15 = some (.int (R.2.1 15))) ∧ (∀ R, zget (mw st mo R) mo 7 16 = some (.ref (mo + 14))) ∧ (∀ R, zget (mw st mo R) mo 7 17 = some (.ref (mo + 15))) ∧ (∀ R, zget (mw st mo R) mo 7 18 = some (.ref (mo + 16))) ∧ (∀ R, zget (mw st mo R) mo 7 19 = some (.ref (mo + 17))) ∧ (∀ R, zget (mw st mo R) mo 7 20 = some (.ref (mo + 18))) ∧ (∀ R, zget (mw st mo R) mo 7 21 = some (.int (R.2.1 21))) ∧ (∀ R, zget (mw st mo R) mo 7 22 = some (.ref (mo + 19))) ∧ (∀ R, zget (mw st mo R) mo 7 23 = some (.int (R.2.1 23))) ∧ (∀ R, zget (mw st mo R) mo 7 24 = some (.float R.2.2)) ∧ (∀ R, zget (mw st mo R) mo 7 25 = some (.int (R.2.1 25))) := ⟨mg_0 h, mg_1 h, mg_2 h, mg_3 h, mg_4 h, mg_5 h, mg_6 h, mg_7 h, mg_8 h, mg_9 h, mg_10 h, mg_11 h, mg_12 h, mg_13 h, mg_14 h, mg_15 h, mg_16 h, mg_17 h, mg_18 h, mg_19 h, mg_20 h, mg_21 h, mg_22 h, mg_23 h, mg_24 h, mg_25 h⟩
theorem mput (h : mok st mo) : (∀ R x, zput (mw st mo R) mo 5 (.int x) = mw st mo (mF R 5 x)) ∧ (∀ R x, zput (mw st mo R) mo 14 (.int x) = mw st mo (mF R 14 x)) ∧ (∀ R x, zput (mw st mo R) mo 15 (.int x) = mw st mo (mF R 15 x)) ∧ (∀ R x, zput (mw st mo R) mo 21 (.int x) = mw st mo (mF R 21 x)) ∧ (∀ R x, zput (mw st mo R) mo 23 (.int x) = mw st mo (mF R 23 x)) ∧ (∀ R x, zput (mw st mo R) mo 24 (.float x) = mw st mo (mC R x)) ∧ (∀ R x, zput (mw st mo R) mo 25 (.int x) = mw st mo (mF R 25 x)) := ⟨mp_5 h, mp_14 h, mp_15 h, mp_21 h, mp_23 h, mp_24 h, mp_25 h⟩
theorem mrd (h : mok st mo) : (∀ R, zai X (mw st mo R) (mo + 1) = some (12, R.1 0)) ∧ (∀ R, zai X (mw st mo R) (mo + 2) = some (12, R.1 1)) ∧ (∀ R, zai X (mw st mo R) (mo + 3) = some (12, R.1 2)) ∧ (∀ R, zai X (mw st mo R) (mo + 4) = some (288, R.1 3)) ∧ (∀ R, zai X (mw st mo R) (mo + 5) = some (288, R.1 4)) ∧ (∀ R, zai X (mw st mo R) (mo + 6) = some (1024, R.1 5)) ∧ (∀ R, zai X (mw st mo R) (mo + 7) = some (400, R.1 6)) ∧ (∀ R, zai X (mw st mo R) (mo + 8) = some (400, R.1 7)) ∧ (∀ R, zai X (mw st mo R) (mo + 9) = some (400, R.1 8)) ∧ (∀ R, zai X (mw st mo R) (mo + 10) = some (400, R.1 9)) ∧ (∀ R, zai X (mw st mo R) (mo + 11) = some (400, R.1 10)) ∧ (∀ R, zai X (mw st mo R) (mo + 12) = some (400, R.1 11)) ∧ (∀ R, zai X (mw st mo R) (mo + 13) = some (400, R.1 12)) ∧ (∀ R, zai X (mw st mo R) (mo + 14) = some (30, R.1 13)) ∧ (∀ R, zai X (mw st mo R) (mo + 15) = some (30, R.1 14)) ∧ (∀ R, zai X (mw st mo R) (mo + 16) = some (30, R.1 15)) ∧ (∀ R, zai X (mw st mo R) (mo + 17) = some (30, R.1 16)) ∧ (∀ R, zai X (mw st mo R) (mo + 18) = some (180, R.1 17)) ∧ (∀ R, zai X (mw st mo R) (mo + 19) = some (30, R.1 18)) := ⟨mi_0 h, mi_1 h, mi_2 h, mi_3 h, mi_4 h, mi_5 h, mi_6 h, mi_7 h, mi_8 h, mi_9 h, mi_10 h, mi_11 h, mi_12 h, mi_13 h, mi_14 h, mi_15 h, mi_16 h, mi_17 h, mi_18 h⟩
theorem mrI (h : mok st mo) : (∀ R, zaI (mw st mo R) (mo + 1) = some (12, R.1 0)) ∧ (∀ R, zaI (mw st mo R) (mo + 2) = some (12, R.1 1)) ∧ (∀ R, zaI (mw st mo R) (mo + 3) = some (12, R.1 2)) ∧ (∀ R, zaI (mw st mo R) (mo + 4) = some (288, R.1 3)) ∧ (∀ R, zaI (mw st mo R) (mo + 5) = some (288, R.1 4)) ∧ (∀ R, zaI (mw st mo R) (mo + 6) = some (1024, R.1 5)) ∧ (∀ R, zaI (mw st mo R) (mo + 7) = some (400, R.1 6)) ∧ (∀ R, zaI (mw st mo R) (mo + 8) = some (400, R.1 7)) ∧ (∀ R, zaI (mw st mo R) (mo + 9) = some (400, R.1 8)) ∧ (∀ R, zaI (mw st mo R) (mo + 10) = some (400, R.1 9)) ∧ (∀ R, zaI (mw st mo R) (mo + 11) = some (400, R.1 10)) ∧ (∀ R, zaI (mw st mo R) (mo + 12) = some (400, R.1 11)) ∧ (∀ R, zaI (mw st mo R) (mo + 13) = some (400, R.1 12)) ∧ (∀ R, zaI (mw st mo R) (mo + 14) = some (30, R.1 13)) ∧ (∀ R, zaI (mw st mo R) (mo + 15) = some (30, R.1 14)) ∧ (∀ R, zaI (mw st mo R) (mo + 16) = some (30, R.1 15)) ∧ (∀ R, zaI (mw st mo R) (mo + 17) = some (30, R.1 16)) ∧ (∀ R, zaI (mw st mo R) (mo + 18) = some (180, R.1 17)) ∧ (∀ R, zaI (mw st mo R) (mo + 19) = some (30, R.1 18)) := ⟨mI_0 h, mI_1 h, mI_2 h, mI_3 h, mI_4 h, mI_5 h, mI_6 h, mI_7 h, mI_8 h, mI_9 h, mI_10 h, mI_11 h, mI_12 h, mI_13 h, mI_14 h, mI_15 h, mI_16 h, mI_17 h, mI_18 h⟩
theorem mst (h : mok st mo) : (∀ R f, zsta (mw st mo R) (mo + 1) (12, .inl f) = mw st mo (mA R 0 f)) ∧ (∀ R f, zsta (mw st mo R) (mo + 2) (12, .inl f) = mw st mo (mA R 1 f)) ∧ (∀ R f, zsta (mw st mo R) (mo + 3) (12, .inl f) = mw st mo (mA R 2 f)) ∧ (∀ R f, zsta (mw st mo R) (mo + 4) (288, .inl f) = mw st mo (mA R 3 f)) ∧ (∀ R f, zsta (mw st mo R) (mo + 5) (288, .inl f) = mw st mo (mA R 4 f)) ∧ (∀ R f, zsta (mw st mo R) (mo + 6) (1024, .inl f) = mw st mo (mA R 5 f)) ∧ (∀ R f, zsta (mw st mo R) (mo + 7) (400, .inl f) = mw st mo (mA R 6 f)) ∧ (∀ R f, zsta (mw st mo R) (mo + 8) (400, .inl f) = mw st mo (mA R 7 f)) ∧ (∀ R f, zsta (mw st mo R) (mo + 9) (400, .inl f) = mw st mo (mA R 8 f)) ∧ (∀ R f, zsta (mw st mo R) (mo + 10) (400, .inl f) = mw st mo (mA R 9 f)) ∧ (∀ R f, zsta (mw st mo R) (mo + 11) (400, .inl f) = mw st mo (mA R 10 f)) ∧ (∀ R f, zsta (mw st mo R) (mo + 12) (400, .inl f) = mw st mo (mA R 11 f)) ∧ (∀ R f, zsta (mw st mo R) (mo + 13) (400, .inl f) = mw st mo (mA R 12 f)) ∧ (∀ R f, zsta (mw st mo R) (mo + 14) (30, .inl f) = mw st mo (mA R 13 f)) ∧ (∀ R f, zsta (mw st mo R) (mo + 15) (30, .inl f) = mw st mo (mA R 14 f)) ∧ (∀ R f, zsta (mw st mo R) (mo + 16) (30, .inl f) = mw st mo (mA R 15 f)) ∧ (∀ R f, zsta (mw st mo R) (mo + 17) (30, .inl f) = mw st mo (mA R 16 f)) ∧ (∀ R f, zsta (mw st mo R) (mo + 18) (180, .inl f) = mw st mo (mA R 17 f)) ∧ (∀ R f, zsta (mw st mo R) (mo + 19) (30, .inl f) = mw st mo (mA R 18 f)) := ⟨ms_0 h, ms_1 h, ms_2 h, ms_3 h, ms_4 h, ms_5 h, ms_6 h, ms_7 h, ms_8 h, ms_9 h, ms_10 h, ms_11 h, ms_12 h, ms_13 h, ms_14 h, ms_15 h, ms_16 h, ms_17 h, ms_18 h⟩
theorem mis (h : mok st mo) (R : MR) : zis (mw st mo R) mo 7 = true := by unfold zis; rw [mg_0 h]; rfl
end MW
