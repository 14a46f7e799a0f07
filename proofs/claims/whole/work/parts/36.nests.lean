/-! the reference's nests, tries -/
section RA
variable {X : ZX} {d : Nat} {st : ZS} {mo : Nat} {R : MR} {P : ZO → ZS → Prop} {x y z : Int32}
theorem mAdd_o {n : Nat} {s x y w hh k o : Int32} {j : Nat} (hj : j < 6 ∨ 12 < j) : (mAdd R n s x y w hh k o).1 j = R.1 j := by
  unfold mAdd
  simp only [mA1, mF1]
  rw [if_neg (by omega), if_neg (by omega), if_neg (by omega), if_neg (by omega), if_neg (by omega), if_neg (by omega), if_neg (by omega)]
theorem mAdd_2 {n : Nat} {s x y w hh k o : Int32} {j : Nat} (hj : j ≠ 14) : (mAdd R n s x y w hh k o).2.1 j = R.2.1 j := by
  show (mF R 14 (nI (n + 1))).2.1 j = R.2.1 j
  rw [mF2, if_neg hj]
theorem mAdd_c {n : Nat} {s x y w hh k o : Int32} : (mAdd R n s x y w hh k o).2.2 = R.2.2 := rfl
theorem mAdd_po {n : Nat} {s x y w hh k o : Int32} : (mAdd R n s x y w hh k o).1 12 = upd (R.1 12) n o := rfl
theorem layX_o {n p : Nat} {w hh : Int32} {j : Nat} (hj : j < 6 ∨ 12 < j) : (layX R n p w hh).1 j = R.1 j := by
  unfold layX lay3 lay2 lay1
  split <;> split <;> simp only [mAdd_o hj, mA1] <;> rw [if_neg (by omega)]
theorem layX_2 {n p : Nat} {w hh : Int32} {j : Nat} (hj : j ≠ 14) : (layX R n p w hh).2.1 j = R.2.1 j := by
  unfold layX lay3 lay2 lay1
  split <;> split <;> simp only [mAdd_2 hj, mA2]
theorem layX_c {n p : Nat} {w hh : Int32} : (layX R n p w hh).2.2 = R.2.2 := by
  unfold layX lay3 lay2 lay1
  split <;> split <;> rfl
theorem layX_n {n p : Nat} {w hh : Int32} : (layX R n p w hh).2.1 14 = nI (n + layN R p w hh) := by
  unfold layX layN
  split <;> split <;> rfl
/-- the parts' wholes are earlier ones -/
def frs (R : MR) (n : Nat) : Prop := ∀ p, p < n → R.1 12 p < 0 ∨ ∃ q, q < p ∧ R.1 12 p = nI q
theorem frs_add {n q : Nat} {s x y w hh k : Int32} (h : frs R n) (hq : q < n) : frs (mAdd R n s x y w hh k (nI q)) (n + 1) := by
  intro p hp
  rw [mAdd_po]
  by_cases c : p = n
  · subst c
    rw [pk_us]
    exact .inr ⟨q, hq, rfl⟩
  · rw [pk_un c]
    exact h p (by omega)
theorem frs_layX {n p : Nat} {w hh : Int32} (h : frs R n) (hp : p < n) : frs (layX R n p w hh) (n + layN R p w hh) := by
  have h0 : frs (mA R 11 (upd (R.1 11) p 2)) n := h
  have h1 : frs (lay1 R n p w hh) (n + 1) := frs_add h0 hp
  unfold layX layN
  split
  · have h2 : frs (lay2 (lay1 R n p w hh) (n + 1) p w hh) (n + 2) := frs_add h1 (by omega)
    split
    · exact frs_add h2 (by omega)
    · exact h2
  · split
    · exact frs_add h1 (by omega)
    · exact h1
def nP (R : MR) : Nat := (R.2.1 14).toNatClampNeg
def nsl (j : Nat) (w h : Int32) : Nat → Nat → MR → MR × Nat × Bool
  | 0, k, R => (R, k, true)
  | m + 1, k, R => match layP R (nP R) w h with
    | none => (mA R 17 (upd (R.1 17) (6 * j + k) (-1)), k, false)
    | some p => nsl j w h m (k + 1) (mA (layX R (nP R) p w h) 17 (upd (R.1 17) (6 * j + k) (nI (nP R))))
/-- the state when job j is tried -/
def nsW (R : MR) (j : Nat) (b : Bool) : Int32 := siz (cra R (R.1 13 j).toNatClampNeg b) (crb R (R.1 13 j).toNatClampNeg b) (R.1 1 (R.1 13 j).toNatClampNeg).toNatClampNeg + 1
def nsE (n j : Nat) (v : Int32) (q : MR × Nat × Bool) : MR := if q.2.2 = true then mA (mA q.1 15 (upd (q.1.1 15) j 1)) 16 (upd (q.1.1 16) j v) else mF (mA (mA q.1 11 (tks (nP q.1) (q.1.1 12) (fun k => (q.1.1 17 (6 * j + k)).toNatClampNeg) q.2.1 (q.1.1 11))) 15 (upd (q.1.1 15) j 0)) 14 (nI n)
def nsF (R : MR) (j : Nat) : MR := nsE (nP R) j (R.1 2 (R.1 13 j).toNatClampNeg) (nsl j (nsW R j true) (nsW R j false) (R.1 14 j).toNatClampNeg 0 R)
theorem layP_ok {n p : Nat} {w hh : Int32} (h : layP R n w hh = some p) : p < n ∧ n + layN R p w hh ≤ 400 ∧ bst R w hh n = some p := by
  unfold layP at h
  split at h
  · cases h
  · rename_i q e
    split at h
    · cases h
    · cases h
      exact ⟨(bst_lt n p e).1, by omega, e⟩
/-- what the loop of nests needs -/
abbrev nsI (R0 : MR) (j k : Nat) (R : MR) : Prop := (nP R ≤ 400) ∧ (R.2.1 14 = nI (nP R)) ∧ (frs R (nP R)) ∧ (∀ i, i < 6 ∨ (12 < i ∧ i ≠ 17) → R.1 i = R0.1 i) ∧ (∀ i, i < k → ∃ f, f < nP R ∧ R.1 17 (6 * j + i) = nI f) ∧ (∀ i, i < 6 * j ∨ 6 * j + 6 ≤ i → R.1 17 i = R0.1 17 i) ∧ (∀ i, i ≠ 14 → R.2.1 i = R0.2.1 i) ∧ (R.2.2 = R0.2.2) ∧ (nP R0 ≤ nP R) ∧ (∀ i, i ≠ 11 → i ≠ 17 → ∀ p, p < nP R0 → R.1 i p = R0.1 i p)
theorem nsI.n4 {R0 : MR} {j k : Nat} {R : MR} (h : nsI R0 j k R) : nP R ≤ 400 := h.1
theorem nsI.np {R0 : MR} {j k : Nat} {R : MR} (h : nsI R0 j k R) : R.2.1 14 = nI (nP R) := h.2.1
theorem nsI.fr {R0 : MR} {j k : Nat} {R : MR} (h : nsI R0 j k R) : frs R (nP R) := h.2.2.1
theorem nsI.ot {R0 : MR} {j k : Nat} {R : MR} (h : nsI R0 j k R) : ∀ i, i < 6 ∨ (12 < i ∧ i ≠ 17) → R.1 i = R0.1 i := h.2.2.2.1
theorem nsI.jp {R0 : MR} {j k : Nat} {R : MR} (h : nsI R0 j k R) : ∀ i, i < k → ∃ f, f < nP R ∧ R.1 17 (6 * j + i) = nI f := h.2.2.2.2.1
theorem nsI.j7 {R0 : MR} {j k : Nat} {R : MR} (h : nsI R0 j k R) : ∀ i, i < 6 * j ∨ 6 * j + 6 ≤ i → R.1 17 i = R0.1 17 i := h.2.2.2.2.2.1
theorem nsI.fl {R0 : MR} {j k : Nat} {R : MR} (h : nsI R0 j k R) : ∀ i, i ≠ 14 → R.2.1 i = R0.2.1 i := h.2.2.2.2.2.2.1
theorem nsI.fc {R0 : MR} {j k : Nat} {R : MR} (h : nsI R0 j k R) : R.2.2 = R0.2.2 := h.2.2.2.2.2.2.2.1
theorem nsI.nn {R0 : MR} {j k : Nat} {R : MR} (h : nsI R0 j k R) : nP R0 ≤ nP R := h.2.2.2.2.2.2.2.2.1
theorem nsI.ps {R0 : MR} {j k : Nat} {R : MR} (h : nsI R0 j k R) : ∀ i, i ≠ 11 → i ≠ 17 → ∀ p, p < nP R0 → R.1 i p = R0.1 i p := h.2.2.2.2.2.2.2.2.2
theorem layX_f {n p q : Nat} {w hh : Int32} (hp : q < n) {j : Nat} (hj : j ≠ 11) : (layX R n p w hh).1 j q = R.1 j q := by
  have f1 := lay1_f (R := R) (p := p) (w := w) (hh := hh) hp hj
  unfold layX lay3 lay2
  split <;> split <;> (repeat rw [mAdd_f (by omega)]) <;> exact f1
theorem nsI_lay {R0 : MR} {j k p : Nat} {w hh : Int32} (hk6 : k < 6) (I : nsI R0 j k R) (hp : layP R (nP R) w hh = some p) : nsI R0 j (k + 1) (mA (layX R (nP R) p w hh) 17 (upd (R.1 17) (6 * j + k) (nI (nP R)))) := by
  obtain ⟨h1, h2, _⟩ := layP_ok hp
  have e : nP (mA (layX R (nP R) p w hh) 17 (upd (R.1 17) (6 * j + k) (nI (nP R)))) = nP R + layN R p w hh := by
    show ((layX R (nP R) p w hh).2.1 14).toNatClampNeg = _
    rw [layX_n, nI_clamp (by omega)]
  have e1 : 0 < layN R p w hh := by unfold layN; omega
  refine ⟨by omega, ?_, ?_, ?_, ?_, ?_, ?_, ?_, ?_, ?_⟩
  · rw [e]; exact layX_n
  · rw [e]; exact frs_layX I.fr h1
  · intro i hi
    rw [mA1, if_neg (by omega), layX_o (by omega)]
    exact I.ot i hi
  · intro i hi
    rw [e, mA1, if_pos rfl]
    by_cases c : i = k
    · subst c
      exact ⟨nP R, by omega, pk_us⟩
    · obtain ⟨f, hf, hf2⟩ := I.jp i (by omega)
      exact ⟨f, by omega, by rw [pk_un (by omega)]; exact hf2⟩
  · intro i hi
    rw [mA1, if_pos rfl, pk_un (by omega)]
    exact I.j7 i hi
  · intro i hi
    exact (layX_2 hi).trans (I.fl i hi)
  · exact layX_c.trans I.fc
  · have := I.nn
    omega
  · intro i hi hi2 q hq
    rw [mA1, if_neg (by omega), layX_f (by have := I.nn; omega) hi]
    exact I.ps i hi hi2 q hq
theorem S_nests_l (h : mok st mo) {R0 : MR} {j n0 c dd : Nat} {w hh : Int32} (hj : j < 30) (hc : R0.1 14 j = nI c) (hc6 : c ≤ 6) (hdd : dd < 12) (hjd : R0.1 13 j = nI dd) : ∀ (m k : Nat) (R : MR) (l7 : Value), k + m = c → nsI R0 j k R → AW X (d + 4) 96 40 [.ref mo, .int (nI j), .int (nI n0), .int w, .int hh, .int (nI k), .int 1, l7] [] (mw st mo R) P = P (.inl none) (mw st mo (nsE n0 j (R0.1 2 dd) (nsl j w hh m k R))) := by
  have hzj := zix_nI (show j < 30 by omega) (by decide)
  have hzd := zix_nI (show dd < 12 by omega) (by decide)
  intro m
  induction m with
  | zero =>
    intro k R l7 hk I
    have e : k = c := by omega
    subst e
    have hle : nI k ≤ nI k := nI_le (Nat.le_refl _) (by omega)
    rw [E_X6_nests_40]
    simp only [E_X6_nests_0, E_X6_nests_0n, E_X6_nests_1, E_X6_nests_4, E_X6_nests_5, E_X6_nests_5n, E_X6_nests_6, E_X6_nests_6n, E_X6_nests_7, E_X6_nests_10, E_X6_nests_11, E_X6_nests_12, E_X6_nests_13, E_X6_nests_16, E_X6_nests_17, E_X6_nests_18, E_X6_nests_19, E_X6_nests_19n, E_X6_nests_20, E_X6_nests_20n, E_X6_nests_21, E_X6_nests_24, E_X6_nests_25, E_X6_nests_26, E_X6_nests_27, E_X6_nests_30, E_X6_nests_31, E_X6_nests_32, E_X6_nests_34, E_X6_nests_35, E_X6_nests_37, E_X6_nests_38, E_X6_nests_42, E_X6_nests_45, E_X6_nests_47, E_X6_nests_47n, E_X6_nests_48, E_X6_nests_51, E_X6_nests_52, E_X6_nests_53, E_X6_nests_56, E_X6_nests_56n, E_X6_nests_57, E_X6_nests_58, E_X6_nests_60, E_X6_nests_63, E_X6_nests_65, E_X6_nests_67, E_X6_nests_70, E_X6_nests_71, E_X6_nests_74, E_X6_nests_75, E_X6_nests_77, E_X6_nests_77n, E_X6_nests_78, E_X6_nests_81, E_X6_nests_83, E_X6_nests_84, E_X6_nests_85, E_X6_nests_87, E_X6_nests_88, E_X6_nests_90, E_X6_nests_91, E_X6_nests_93, E_X6_nests_95, E_X6_nests_98, E_X6_nests_99, E_X6_nests_102, E_X6_nests_103, E_X6_nests_104, E_X6_nests_106, E_X6_nests_109, E_X6_nests_111, E_X6_nests_114, E_X6_nests_114n, E_X6_nests_115, E_X6_nests_118, E_X6_nests_119, E_X6_nests_120, E_X6_nests_121, E_X6_nests_121n, E_X6_nests_122, E_X6_nests_125, E_X6_nests_126, E_X6_nests_126n, E_X6_nests_127, E_X6_nests_130, E_X6_nests_130n, E_X6_nests_131, E_X6_nests_134, E_X6_nests_135, E_X6_nests_136, E_X6_nests_137, E_X6_nests_138, E_X6_nests_141, E_X6_nests_141n, E_X6_nests_142, E_X6_nests_143, E_X6_nests_145, E_X6_nests_148, E_X6_nests_148n, E_X6_nests_149, E_X6_nests_150, E_X6_nests_153, zwith_some, zwith_none, zif_true, zaft_inl, Option.toList_some, Option.toList_none, List.cons_append, List.nil_append, zc1_int, zc1_ref, zc1_null, zc1_float, List.length_nil, List.length_cons, Nat.reduceAdd, Nat.reduceLeDiff, Nat.zero_add, z1and, z0and, zl00, zl01, zl02, zl03, ze00, ze10, ze20, ze30, if_true, if_false, mget h, mrd h, mrI h, mst h, mA1, mA2, mF1, mF2, mF3, mC1, mC2, mC3, mA_same, mA_comm, mFA, mCA, mCF, mCC, mF_same, mF_comm, Nat.reduceEqDiff, Nat.reduceLT, hzj, I.ot 14 (by decide), hc, hle, ze10, hzd, I.ot 13 (by decide), hjd, I.ot 2 (by decide)]
    rfl
  | succ m ih =>
    intro k R l7 hk I
    have hlt : ¬ nI c ≤ nI k := nI_ge (by omega) (by omega)
    have hl := fun {d} {P} => S_lays (X := X) (d := d) (P := P) (R := R) (w := w) (hh := hh) h I.n4 I.np
    have hz := zix_nI (show 6 * j + k < 180 by omega) (by decide)
    rw [E_X6_nests_40]
    simp only [E_X6_nests_0, E_X6_nests_0n, E_X6_nests_1, E_X6_nests_4, E_X6_nests_5, E_X6_nests_5n, E_X6_nests_6, E_X6_nests_6n, E_X6_nests_7, E_X6_nests_10, E_X6_nests_11, E_X6_nests_12, E_X6_nests_13, E_X6_nests_16, E_X6_nests_17, E_X6_nests_18, E_X6_nests_19, E_X6_nests_19n, E_X6_nests_20, E_X6_nests_20n, E_X6_nests_21, E_X6_nests_24, E_X6_nests_25, E_X6_nests_26, E_X6_nests_27, E_X6_nests_30, E_X6_nests_31, E_X6_nests_32, E_X6_nests_34, E_X6_nests_35, E_X6_nests_37, E_X6_nests_38, E_X6_nests_42, E_X6_nests_45, E_X6_nests_47, E_X6_nests_47n, E_X6_nests_48, E_X6_nests_51, E_X6_nests_52, E_X6_nests_53, E_X6_nests_56, E_X6_nests_56n, E_X6_nests_57, E_X6_nests_58, E_X6_nests_60, E_X6_nests_63, E_X6_nests_65, E_X6_nests_67, E_X6_nests_70, E_X6_nests_71, E_X6_nests_74, E_X6_nests_75, E_X6_nests_77, E_X6_nests_77n, E_X6_nests_78, E_X6_nests_81, E_X6_nests_83, E_X6_nests_84, E_X6_nests_85, E_X6_nests_87, E_X6_nests_88, E_X6_nests_90, E_X6_nests_91, E_X6_nests_93, E_X6_nests_95, E_X6_nests_98, E_X6_nests_99, E_X6_nests_102, E_X6_nests_103, E_X6_nests_104, E_X6_nests_106, E_X6_nests_109, E_X6_nests_111, E_X6_nests_114, E_X6_nests_114n, E_X6_nests_115, E_X6_nests_118, E_X6_nests_119, E_X6_nests_120, E_X6_nests_121, E_X6_nests_121n, E_X6_nests_122, E_X6_nests_125, E_X6_nests_126, E_X6_nests_126n, E_X6_nests_127, E_X6_nests_130, E_X6_nests_130n, E_X6_nests_131, E_X6_nests_134, E_X6_nests_135, E_X6_nests_136, E_X6_nests_137, E_X6_nests_138, E_X6_nests_141, E_X6_nests_141n, E_X6_nests_142, E_X6_nests_143, E_X6_nests_145, E_X6_nests_148, E_X6_nests_148n, E_X6_nests_149, E_X6_nests_150, E_X6_nests_153, zwith_some, zwith_none, zif_true, zaft_inl, Option.toList_some, Option.toList_none, List.cons_append, List.nil_append, zc1_int, zc1_ref, zc1_null, zc1_float, List.length_nil, List.length_cons, Nat.reduceAdd, Nat.reduceLeDiff, Nat.zero_add, z1and, z0and, zl00, zl01, zl02, zl03, ze00, ze10, ze20, ze30, if_true, if_false, mget h, mrd h, mA1, mA2, mF1, mF2, mF3, mC1, mC2, mC3, mA_same, mA_comm, mFA, mCA, mCF, mCC, mF_same, mF_comm, Nat.reduceEqDiff, Nat.reduceLT, hzj, I.ot 14 (by decide), hc, hlt, ze10, mis h, hl]
    unfold nsl
    cases e : layP R (nP R) w hh with
    | none =>
      obtain ⟨f, hf⟩ : ∃ f : Nat → Nat, ∀ i, i < k → R.1 17 (6 * j + i) = nI (f i) ∧ f i < nP R := ⟨fun i => (R.1 17 (6 * j + i)).toNatClampNeg, fun i hi => by
        obtain ⟨q, hq, e⟩ := I.jp i hi
        have : (R.1 17 (6 * j + i)).toNatClampNeg = q := by rw [e]; exact nI_clamp (by have := I.n4; omega)
        show R.1 17 (6 * j + i) = nI (R.1 17 (6 * j + i)).toNatClampNeg ∧ (R.1 17 (6 * j + i)).toNatClampNeg < nP R
        rw [this]
        exact ⟨e, hq⟩⟩
      have hto := fun {d} {P} => S_takesOff (X := X) (d := d) (P := P) (R := mA R 17 (upd (R.1 17) (6 * j + k) (-1))) (c := k) (f := fun i => ((mA R 17 (upd (R.1 17) (6 * j + k) (-1))).1 17 (6 * j + i)).toNatClampNeg) h hj I.n4 I.np I.fr (by omega) (by
        intro i hi
        show (upd (R.1 17) (6 * j + k) (-1)) (6 * j + i) = nI ((upd (R.1 17) (6 * j + k) (-1)) (6 * j + i)).toNatClampNeg ∧ ((upd (R.1 17) (6 * j + k) (-1)) (6 * j + i)).toNatClampNeg < nP R
        rw [pk_un (by omega), (hf i hi).1, nI_clamp (by have := (hf i hi).2; have := I.n4; omega)]
        exact ⟨rfl, (hf i hi).2⟩)
      simp only [E_X6_nests_0, E_X6_nests_0n, E_X6_nests_1, E_X6_nests_4, E_X6_nests_5, E_X6_nests_5n, E_X6_nests_6, E_X6_nests_6n, E_X6_nests_7, E_X6_nests_10, E_X6_nests_11, E_X6_nests_12, E_X6_nests_13, E_X6_nests_16, E_X6_nests_17, E_X6_nests_18, E_X6_nests_19, E_X6_nests_19n, E_X6_nests_20, E_X6_nests_20n, E_X6_nests_21, E_X6_nests_24, E_X6_nests_25, E_X6_nests_26, E_X6_nests_27, E_X6_nests_30, E_X6_nests_31, E_X6_nests_32, E_X6_nests_34, E_X6_nests_35, E_X6_nests_37, E_X6_nests_38, E_X6_nests_42, E_X6_nests_45, E_X6_nests_47, E_X6_nests_47n, E_X6_nests_48, E_X6_nests_51, E_X6_nests_52, E_X6_nests_53, E_X6_nests_56, E_X6_nests_56n, E_X6_nests_57, E_X6_nests_58, E_X6_nests_60, E_X6_nests_63, E_X6_nests_65, E_X6_nests_67, E_X6_nests_70, E_X6_nests_71, E_X6_nests_74, E_X6_nests_75, E_X6_nests_77, E_X6_nests_77n, E_X6_nests_78, E_X6_nests_81, E_X6_nests_83, E_X6_nests_84, E_X6_nests_85, E_X6_nests_87, E_X6_nests_88, E_X6_nests_90, E_X6_nests_91, E_X6_nests_93, E_X6_nests_95, E_X6_nests_98, E_X6_nests_99, E_X6_nests_102, E_X6_nests_103, E_X6_nests_104, E_X6_nests_106, E_X6_nests_109, E_X6_nests_111, E_X6_nests_114, E_X6_nests_114n, E_X6_nests_115, E_X6_nests_118, E_X6_nests_119, E_X6_nests_120, E_X6_nests_121, E_X6_nests_121n, E_X6_nests_122, E_X6_nests_125, E_X6_nests_126, E_X6_nests_126n, E_X6_nests_127, E_X6_nests_130, E_X6_nests_130n, E_X6_nests_131, E_X6_nests_134, E_X6_nests_135, E_X6_nests_136, E_X6_nests_137, E_X6_nests_138, E_X6_nests_141, E_X6_nests_141n, E_X6_nests_142, E_X6_nests_143, E_X6_nests_145, E_X6_nests_148, E_X6_nests_148n, E_X6_nests_149, E_X6_nests_150, E_X6_nests_153, zwith_some, zwith_none, zif_true, zaft_inl, Option.toList_some, Option.toList_none, List.cons_append, List.nil_append, zc1_int, zc1_ref, zc1_null, zc1_float, List.length_nil, List.length_cons, Nat.reduceAdd, Nat.reduceLeDiff, Nat.zero_add, z1and, z0and, zl00, zl01, zl02, zl03, ze00, ze10, ze20, ze30, if_true, if_false, show ¬ (0 : Int32) ≤ -1 from by decide, mget h, mput h, mrd h, mrI h, mst h, hz, ze00, l6, pk_mul, nI_add, Int32.add_zero, mis h, if_false, if_true, lm1]
      rw [E_X6_nests_40]
      simp only [E_X6_nests_0, E_X6_nests_0n, E_X6_nests_1, E_X6_nests_4, E_X6_nests_5, E_X6_nests_5n, E_X6_nests_6, E_X6_nests_6n, E_X6_nests_7, E_X6_nests_10, E_X6_nests_11, E_X6_nests_12, E_X6_nests_13, E_X6_nests_16, E_X6_nests_17, E_X6_nests_18, E_X6_nests_19, E_X6_nests_19n, E_X6_nests_20, E_X6_nests_20n, E_X6_nests_21, E_X6_nests_24, E_X6_nests_25, E_X6_nests_26, E_X6_nests_27, E_X6_nests_30, E_X6_nests_31, E_X6_nests_32, E_X6_nests_34, E_X6_nests_35, E_X6_nests_37, E_X6_nests_38, E_X6_nests_42, E_X6_nests_45, E_X6_nests_47, E_X6_nests_47n, E_X6_nests_48, E_X6_nests_51, E_X6_nests_52, E_X6_nests_53, E_X6_nests_56, E_X6_nests_56n, E_X6_nests_57, E_X6_nests_58, E_X6_nests_60, E_X6_nests_63, E_X6_nests_65, E_X6_nests_67, E_X6_nests_70, E_X6_nests_71, E_X6_nests_74, E_X6_nests_75, E_X6_nests_77, E_X6_nests_77n, E_X6_nests_78, E_X6_nests_81, E_X6_nests_83, E_X6_nests_84, E_X6_nests_85, E_X6_nests_87, E_X6_nests_88, E_X6_nests_90, E_X6_nests_91, E_X6_nests_93, E_X6_nests_95, E_X6_nests_98, E_X6_nests_99, E_X6_nests_102, E_X6_nests_103, E_X6_nests_104, E_X6_nests_106, E_X6_nests_109, E_X6_nests_111, E_X6_nests_114, E_X6_nests_114n, E_X6_nests_115, E_X6_nests_118, E_X6_nests_119, E_X6_nests_120, E_X6_nests_121, E_X6_nests_121n, E_X6_nests_122, E_X6_nests_125, E_X6_nests_126, E_X6_nests_126n, E_X6_nests_127, E_X6_nests_130, E_X6_nests_130n, E_X6_nests_131, E_X6_nests_134, E_X6_nests_135, E_X6_nests_136, E_X6_nests_137, E_X6_nests_138, E_X6_nests_141, E_X6_nests_141n, E_X6_nests_142, E_X6_nests_143, E_X6_nests_145, E_X6_nests_148, E_X6_nests_148n, E_X6_nests_149, E_X6_nests_150, E_X6_nests_153, zwith_some, zwith_none, zif_true, zaft_inl, Option.toList_some, Option.toList_none, List.cons_append, List.nil_append, zc1_int, zc1_ref, zc1_null, zc1_float, List.length_nil, List.length_cons, Nat.reduceAdd, Nat.reduceLeDiff, Nat.zero_add, z1and, z0and, zl00, zl01, zl02, zl03, ze00, ze10, ze20, ze30, if_true, if_false, mget h, mput h, mis h, hto]
      rfl
    | some p =>
      have hn0 : ¬ nI (nP R) < 0 := nI_pos (by have := I.n4; omega)
      have h17 : (layX R (nP R) p w hh).1 17 = R.1 17 := layX_o (by decide)
      have ih := ih (k + 1) _ (.int (nI (nP R))) (by omega) (nsI_lay (by omega) I e)
      simp only [E_X6_nests_0, E_X6_nests_0n, E_X6_nests_1, E_X6_nests_4, E_X6_nests_5, E_X6_nests_5n, E_X6_nests_6, E_X6_nests_6n, E_X6_nests_7, E_X6_nests_10, E_X6_nests_11, E_X6_nests_12, E_X6_nests_13, E_X6_nests_16, E_X6_nests_17, E_X6_nests_18, E_X6_nests_19, E_X6_nests_19n, E_X6_nests_20, E_X6_nests_20n, E_X6_nests_21, E_X6_nests_24, E_X6_nests_25, E_X6_nests_26, E_X6_nests_27, E_X6_nests_30, E_X6_nests_31, E_X6_nests_32, E_X6_nests_34, E_X6_nests_35, E_X6_nests_37, E_X6_nests_38, E_X6_nests_42, E_X6_nests_45, E_X6_nests_47, E_X6_nests_47n, E_X6_nests_48, E_X6_nests_51, E_X6_nests_52, E_X6_nests_53, E_X6_nests_56, E_X6_nests_56n, E_X6_nests_57, E_X6_nests_58, E_X6_nests_60, E_X6_nests_63, E_X6_nests_65, E_X6_nests_67, E_X6_nests_70, E_X6_nests_71, E_X6_nests_74, E_X6_nests_75, E_X6_nests_77, E_X6_nests_77n, E_X6_nests_78, E_X6_nests_81, E_X6_nests_83, E_X6_nests_84, E_X6_nests_85, E_X6_nests_87, E_X6_nests_88, E_X6_nests_90, E_X6_nests_91, E_X6_nests_93, E_X6_nests_95, E_X6_nests_98, E_X6_nests_99, E_X6_nests_102, E_X6_nests_103, E_X6_nests_104, E_X6_nests_106, E_X6_nests_109, E_X6_nests_111, E_X6_nests_114, E_X6_nests_114n, E_X6_nests_115, E_X6_nests_118, E_X6_nests_119, E_X6_nests_120, E_X6_nests_121, E_X6_nests_121n, E_X6_nests_122, E_X6_nests_125, E_X6_nests_126, E_X6_nests_126n, E_X6_nests_127, E_X6_nests_130, E_X6_nests_130n, E_X6_nests_131, E_X6_nests_134, E_X6_nests_135, E_X6_nests_136, E_X6_nests_137, E_X6_nests_138, E_X6_nests_141, E_X6_nests_141n, E_X6_nests_142, E_X6_nests_143, E_X6_nests_145, E_X6_nests_148, E_X6_nests_148n, E_X6_nests_149, E_X6_nests_150, E_X6_nests_153, zwith_some, zwith_none, zif_true, zaft_inl, Option.toList_some, Option.toList_none, List.cons_append, List.nil_append, zc1_int, zc1_ref, zc1_null, zc1_float, List.length_nil, List.length_cons, Nat.reduceAdd, Nat.reduceLeDiff, Nat.zero_add, z1and, z0and, zl00, zl01, zl02, zl03, ze00, ze10, ze20, ze30, if_true, if_false, hn0, mget h, mput h, mrd h, mrI h, mst h, hz, ze10, l6, pk_mul, nI_add, if_false, if_true, nI_1, h17]
      exact ih
theorem S_nests (h : mok st mo) {j n c dd nn : Nat} (hj : j < 30) (hn : n ≤ 400) (hd : R.2.1 14 = nI n) (ho : frs R n) (hc : R.1 14 j = nI c) (hc6 : c ≤ 6) (hdd : dd < 12) (hjd : R.1 13 j = nI dd) (hnn : R.1 1 dd = nI nn) (hn24 : nn ≤ 24) : AC X (d + 5) 96 [.ref mo, .int (nI j)] (mw st mo R) P = P (.inl none) (mw st mo (nsF R j)) := by
  have hzj := zix_nI (show j < 30 by omega) (by decide)
  have en : nP R = n := by unfold nP; rw [hd]; exact nI_clamp (by omega)
  have ed : (R.1 13 j).toNatClampNeg = dd := by rw [hjd]; exact nI_clamp (by omega)
  have ec : (R.1 14 j).toNatClampNeg = c := by rw [hc]; exact nI_clamp (by omega)
  have enn : (R.1 1 dd).toNatClampNeg = nn := by rw [hnn]; exact nI_clamp (by omega)
  have hs1 := fun {d} {P} => S_size (X := X) (d := d) (P := P) (R := R) (w := true) h hdd hn24 hnn
  have hs2 := fun {d} {P} => S_size (X := X) (d := d) (P := P) (R := R) (w := false) h hdd hn24 hnn
  have hb1 : bN true = 1 := rfl
  have hb2 : bN false = 0 := rfl
  rw [hb1] at hs1
  rw [hb2] at hs2
  have I : nsI R j 0 R := ⟨by omega, by rw [en]; exact hd, by rw [en]; exact ho, fun _ _ => rfl, fun i hi => absurd hi (Nat.not_lt_zero i), fun _ _ => rfl, fun _ _ => rfl, rfl, Nat.le_refl _, fun _ _ _ _ _ => rfl⟩
  have hl := S_nests_l (X := X) (d := d) (P := P) (n0 := n) (w := nsW R j true) (hh := nsW R j false) h hj hc hc6 hdd hjd c 0 R (.retAddr 0) (by omega) I
  rw [A_X6_nests]
  simp only [E_X6_nests_0, E_X6_nests_0n, E_X6_nests_1, E_X6_nests_4, E_X6_nests_5, E_X6_nests_5n, E_X6_nests_6, E_X6_nests_6n, E_X6_nests_7, E_X6_nests_10, E_X6_nests_11, E_X6_nests_12, E_X6_nests_13, E_X6_nests_16, E_X6_nests_17, E_X6_nests_18, E_X6_nests_19, E_X6_nests_19n, E_X6_nests_20, E_X6_nests_20n, E_X6_nests_21, E_X6_nests_24, E_X6_nests_25, E_X6_nests_26, E_X6_nests_27, E_X6_nests_30, E_X6_nests_31, E_X6_nests_32, E_X6_nests_34, E_X6_nests_35, E_X6_nests_37, E_X6_nests_38, E_X6_nests_42, E_X6_nests_45, E_X6_nests_47, E_X6_nests_47n, E_X6_nests_48, E_X6_nests_51, E_X6_nests_52, E_X6_nests_53, E_X6_nests_56, E_X6_nests_56n, E_X6_nests_57, E_X6_nests_58, E_X6_nests_60, E_X6_nests_63, E_X6_nests_65, E_X6_nests_67, E_X6_nests_70, E_X6_nests_71, E_X6_nests_74, E_X6_nests_75, E_X6_nests_77, E_X6_nests_77n, E_X6_nests_78, E_X6_nests_81, E_X6_nests_83, E_X6_nests_84, E_X6_nests_85, E_X6_nests_87, E_X6_nests_88, E_X6_nests_90, E_X6_nests_91, E_X6_nests_93, E_X6_nests_95, E_X6_nests_98, E_X6_nests_99, E_X6_nests_102, E_X6_nests_103, E_X6_nests_104, E_X6_nests_106, E_X6_nests_109, E_X6_nests_111, E_X6_nests_114, E_X6_nests_114n, E_X6_nests_115, E_X6_nests_118, E_X6_nests_119, E_X6_nests_120, E_X6_nests_121, E_X6_nests_121n, E_X6_nests_122, E_X6_nests_125, E_X6_nests_126, E_X6_nests_126n, E_X6_nests_127, E_X6_nests_130, E_X6_nests_130n, E_X6_nests_131, E_X6_nests_134, E_X6_nests_135, E_X6_nests_136, E_X6_nests_137, E_X6_nests_138, E_X6_nests_141, E_X6_nests_141n, E_X6_nests_142, E_X6_nests_143, E_X6_nests_145, E_X6_nests_148, E_X6_nests_148n, E_X6_nests_149, E_X6_nests_150, E_X6_nests_153, zwith_some, zwith_none, zif_true, zaft_inl, Option.toList_some, Option.toList_none, List.cons_append, List.nil_append, zc1_int, zc1_ref, zc1_null, zc1_float, List.length_nil, List.length_cons, Nat.reduceAdd, Nat.reduceLeDiff, Nat.zero_add, z1and, z0and, zl00, zl01, zl02, zl03, ze00, ze10, ze20, ze30, if_true, if_false, mget h, mrd h, hd, hzj, hjd, mis h, hs1, hs2]
  unfold nsF
  rw [ed, ec, en]
  unfold nsW at hl ⊢
  rw [ed, enn] at hl ⊢
  exact hl
end RA
