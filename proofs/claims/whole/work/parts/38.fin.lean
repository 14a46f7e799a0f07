/-! the reference's finish, sheet, job, cancel -/
section RC
variable {X : ZX} {d : Nat} {st : ZS} {mo : Nat} {R : MR} {P : ZO → ZS → Prop} {x y z : Int32}
theorem IR_c {R' : MR} (I : IR R) (h1 : ∀ i, i < 5 ∨ i = 12 ∨ i = 13 ∨ i = 14 ∨ i = 15 ∨ i = 17 → R'.1 i = R.1 i) (h2 : ∀ i, i = 5 ∨ i = 14 ∨ i = 15 ∨ i = 21 → R'.2.1 i = R.2.1 i) : IR R' := by
  have a0 := h1 0 (by decide)
  have a1 := h1 1 (by decide)
  have a2 := h1 2 (by decide)
  have a3 := h1 3 (by decide)
  have a4 := h1 4 (by decide)
  have a12 := h1 12 (by decide)
  have a13 := h1 13 (by decide)
  have a14 := h1 14 (by decide)
  have a15 := h1 15 (by decide)
  have a17 := h1 17 (by decide)
  have b5 := h2 5 (by decide)
  have b14 := h2 14 (by decide)
  have b15 := h2 15 (by decide)
  have b21 := h2 21 (by decide)
  have eP : nP R' = nP R := by unfold nP; rw [b14]
  refine ⟨?_, ?_, ?_, ?_, ?_, ?_, ?_, ?_, ?_, ?_, ?_, ?_, ?_, ?_⟩ <;> simp only [pts, frs, eP, a0, a1, a2, a3, a4, a12, a13, a14, a15, a17, b5, b14, b15, b21]
  · exact I.d5
  · exact I.p14
  · exact I.s15
  · exact I.j21
  · exact I.dn
  · exact I.dz
  · exact I.df
  · exact I.pt
  · exact I.fr
  · exact I.jd
  · exact I.jn
  · exact I.jk
  · exact I.jz
  · exact I.jp
theorem IR_25 (I : IR R) : IR (mF R 25 x) := IR_c I (fun i hi => rfl) fun i hi => by rw [mF2, if_neg (by omega)]
theorem IR_11 {f : Nat → Int32} (I : IR R) : IR (mA R 11 f) := IR_c I (fun i hi => by rw [mA1, if_neg (by omega)]) fun i hi => rfl
theorem IR_15 {j : Nat} {v : Int32} (I : IR R) (hj : j < tN (R.2.1 21)) (hv : v = 0 ∨ v = 1 ∨ v = 2 ∨ v = 3) (hv2 : v = 1 ∨ v = 2 → R.1 15 j = 1 ∨ R.1 15 j = 2) : IR (mA R 15 (upd (R.1 15) j v)) := by
  refine ⟨I.d5, I.p14, I.s15, I.j21, I.dn, I.dz, I.df, I.pt, I.fr, I.jd, I.jn, ?_, ?_, ?_⟩
  · intro i hi
    show upd (R.1 15) j v i = 0 ∨ upd (R.1 15) j v i = 1 ∨ upd (R.1 15) j v i = 2 ∨ upd (R.1 15) j v i = 3
    by_cases c : i = j
    · subst c
      rw [pk_us]
      exact hv
    · rw [pk_un c]
      exact I.jk i hi
  · intro i hi hi2
    show upd (R.1 15) j v i = 0
    have hi2 : tN (R.2.1 21) ≤ i := hi2
    rw [pk_un (by omega)]
    exact I.jz i hi hi2
  · intro i hi hs
    have hs : upd (R.1 15) j v i = 1 ∨ upd (R.1 15) j v i = 2 := hs
    by_cases c : i = j
    · subst c
      rw [pk_us] at hs
      exact I.jp i hi (hv2 hs)
    · rw [pk_un c] at hs
      exact I.jp i hi hs
theorem shf_in {f : Nat → Int32} {i k m j : Nat} (hk : k + m ≤ 24) (hj : j < k + m) : shf f (24 * i + k) (24 * i + (k + m)) (24 * i + j) = if k ≤ j then f (24 * i + (j + 1)) else f (24 * i + j) := by
  unfold shf
  by_cases c : k ≤ j
  · rw [if_pos ⟨by omega, by omega⟩, if_pos c, Nat.add_assoc]
  · rw [if_neg (fun z => c (by omega)), if_neg c]
theorem shf_out {f : Nat → Int32} {i k m q : Nat} (h : q < 24 * i + k ∨ 24 * i + (k + m) ≤ q) : shf f (24 * i + k) (24 * i + (k + m)) q = f q := if_neg fun z => by omega
theorem mnd_IR {i : Nat} (hi : i < 12) : ∀ (m k : Nat) (R : MR), IR R → R.1 1 i = nI (k + m) → k + m ≤ 24 → IR (mnd i m k R)
  | 0, k, R, I, _, _ => I
  | m + 1, k, R, I, hd, hk => by
    unfold mnd
    split
    · refine mnd_IR hi m k _ ?_ ?_ (by omega)
      · have hnd : tN (R.2.1 5) ≤ i → False := fun z => by
          have := (I.dz i hi z).2.1
          rw [hd] at this
          exact nI_ne0 (by omega) (by omega) this
        have a0 : (mA (mA (mA R 1 (upd (R.1 1) i (nI (k + m)))) 3 (shf (R.1 3) (24 * i + k) (24 * i + (k + m)))) 4 (shf (R.1 4) (24 * i + k) (24 * i + (k + m)))).1 1 = upd (R.1 1) i (nI (k + m)) := rfl
        have a3 : (mA (mA (mA R 1 (upd (R.1 1) i (nI (k + m)))) 3 (shf (R.1 3) (24 * i + k) (24 * i + (k + m)))) 4 (shf (R.1 4) (24 * i + k) (24 * i + (k + m)))).1 3 = shf (R.1 3) (24 * i + k) (24 * i + (k + m)) := rfl
        have a4 : (mA (mA (mA R 1 (upd (R.1 1) i (nI (k + m)))) 3 (shf (R.1 3) (24 * i + k) (24 * i + (k + m)))) 4 (shf (R.1 4) (24 * i + k) (24 * i + (k + m)))).1 4 = shf (R.1 4) (24 * i + k) (24 * i + (k + m)) := rfl
        refine ⟨I.d5, I.p14, I.s15, I.j21, ?_, ?_, I.df, ?_, I.fr, I.jd, I.jn, I.jk, I.jz, I.jp⟩
        · intro q hq
          rw [a0]
          by_cases c : q = i
          · subst c
            rw [pk_us, tN_nI (by omega)]
            exact ⟨rfl, by omega⟩
          · rw [pk_un c]
            exact I.dn q hq
        · intro q hq hq2
          rw [a0]
          have hq2 : tN (R.2.1 5) ≤ q := hq2
          rw [pk_un (fun z => hnd (by omega))]
          exact I.dz q hq hq2
        · intro q hq
          rw [a0, a3, a4]
          intro j hj
          rw [a3, a4]
          by_cases c : q = i
          · subst c
            rw [pk_us, tN_nI (by omega)] at hj
            have hp := I.pt q hi
            rw [hd, tN_nI (by omega)] at hp
            dsimp only
            rw [shf_in (by omega) hj, shf_in (by omega) hj]
            by_cases c : k ≤ j
            · rw [if_pos c, if_pos c]
              exact hp (j + 1) (by omega)
            · rw [if_neg c, if_neg c]
              exact hp j (by omega)
          · rw [pk_un c] at hj
            have := (I.dn q hq).2
            dsimp only
            rw [shf_out (by omega), shf_out (by omega)]
            exact I.pt q hq j hj
      · exact pk_us
    · exact mnd_IR hi m (k + 1) R I (by rw [hd, show k + 1 + m = k + (m + 1) by omega]) (by omega)
theorem IR_df {i : Nat} {v : Int32} (I : IR R) (hi : i < tN (R.2.1 5)) (hv : v = 0 ∨ v = 1) : IR (mA R 0 (upd (R.1 0) i v)) := by
  refine ⟨I.d5, I.p14, I.s15, I.j21, I.dn, ?_, ?_, I.pt, I.fr, I.jd, I.jn, I.jk, I.jz, I.jp⟩
  · intro q hq hq2
    show upd (R.1 0) i v q = 0 ∧ _
    have hq2 : tN (R.2.1 5) ≤ q := hq2
    rw [pk_un (by omega)]
    exact I.dz q hq hq2
  · intro q hq
    show upd (R.1 0) i v q = 0 ∨ upd (R.1 0) i v q = 1
    by_cases c : q = i
    · subst c
      rw [pk_us]
      exact hv
    · rw [pk_un c]
      exact I.df q hq
theorem mnd_2 {i : Nat} : ∀ (m k : Nat) (R : MR), (mnd i m k R).2 = R.2
  | 0, k, R => rfl
  | m + 1, k, R => by
    unfold mnd
    split
    · rw [mnd_2 m k _]; rfl
    · exact mnd_2 m (k + 1) R
theorem mnd_o {i : Nat} {q : Nat} (hq : q ≠ 1 ∧ q ≠ 3 ∧ q ≠ 4) : ∀ (m k : Nat) (R : MR), (mnd i m k R).1 q = R.1 q
  | 0, k, R => rfl
  | m + 1, k, R => by
    unfold mnd
    split
    · rw [mnd_o hq m k _, mA1, if_neg hq.2.2, mA1, if_neg hq.2.1, mA1, if_neg hq.1]
    · exact mnd_o hq m (k + 1) R
/-- finish, for a drawing that is there and open: what it answers, and the state -/
def finM (R : MR) (i : Nat) : MR := mnd i (tN (R.1 1 i)) 0 (mF R 25 0)
def finA (R : MR) (i : Nat) : Int32 := fau (finM R i) i (tN ((finM R i).1 1 i))
def finF (R : MR) (i : Nat) : MR := if finA R i < 0 then trF (mA (mA (finM R i) 5 (hs (finM R i) i (tN ((finM R i).1 1 i)))) 0 (upd ((finM R i).1 0) i 1)) else mA (finM R i) 5 (hs (finM R i) i (tN ((finM R i).1 1 i)))
def finW (R : MR) (x : Int32) : Int32 := if ¬ (0 ≤ x ∧ x ≤ R.2.1 5 - 1) then 1 else if R.1 0 (tN x) = 1 then 2 else 0
theorem S_finish (h : mok st mo) (I : IR R) : AC X (d + 7) 82 [.ref mo, .int x] (mw st mo R) P = if finW R x = 0 then P (.inl (some (.int (finA R (tN x))))) (mw st mo (finF R (tN x))) else P (.inl (some (.int (-1)))) (mw st mo (mF R 25 (finW R x))) := by
  rw [A_X6_finish]
  by_cases c : 0 ≤ x ∧ x ≤ R.2.1 5 - 1
  · have c' := c
    rw [I.d5.1] at c'
    have h12 := I.d5.2
    obtain ⟨i, hi, rfl⟩ := nI_of_rng (by omega) c'.1 c'.2
    have ei : tN (nI i) = i := tN_nI (by omega)
    have hz := zix_nI (show i < 12 by omega) (by decide)
    have hw : finW R (nI i) = if R.1 0 i = 1 then 2 else 0 := by
      unfold finW
      rw [if_neg (fun z => z c), ei]
    simp only [E_X6_finish_0, E_X6_finish_0n, E_X6_finish_1, E_X6_finish_1n, E_X6_finish_2, E_X6_finish_3, E_X6_finish_6, E_X6_finish_9, E_X6_finish_10, E_X6_finish_13, E_X6_finish_13n, E_X6_finish_14, E_X6_finish_17, E_X6_finish_18, E_X6_finish_19, E_X6_finish_20, E_X6_finish_23, E_X6_finish_24, E_X6_finish_27, E_X6_finish_28, E_X6_finish_31, E_X6_finish_34, E_X6_finish_35, E_X6_finish_36, E_X6_finish_36n, E_X6_finish_37, E_X6_finish_38, E_X6_finish_41, E_X6_finish_41n, E_X6_finish_42, E_X6_finish_43, E_X6_finish_46, E_X6_finish_47, E_X6_finish_48, E_X6_finish_51, E_X6_finish_51n, E_X6_finish_52, E_X6_finish_55, E_X6_finish_56, E_X6_finish_57, E_X6_finish_58, E_X6_finish_58n, E_X6_finish_59, E_X6_finish_62, E_X6_finish_63, zwith_some, zwith_none, zif_true, zaft_inl, Option.toList_some, Option.toList_none, List.cons_append, List.nil_append, zc1_int, zc1_ref, zc1_null, zc1_float, List.length_nil, List.length_cons, Nat.reduceAdd, Nat.reduceLeDiff, Nat.zero_add, z1and, z0and, zl00, zl01, zl02, zl03, ze00, ze10, ze20, ze30, if_true, if_false, mget h, mput h, mis h, S_holds h, S_isDrawing h, mrd h, mrI h, mst h, c, hz, hw, ei, not_true, if_true, if_false, and_self]
    by_cases e1 : R.1 0 i = 1
    · simp only [e1, not_true, not_false_iff, if_true, if_false, ze20]
    · have I1 : IR (mF R 25 0) := IR_25 I
      have hn := I.dn i (by omega)
      have hm := fun {d} {P} => S_mends (X := X) (d := d) (P := P) (R := mF R 25 0) h (show i < 12 by omega) hn.2 hn.1
      have I2 : IR (finM R i) := mnd_IR (by omega) _ 0 _ I1 (by rw [Nat.zero_add]; exact hn.1) (by omega)
      have hn2 := I2.dn i (by omega)
      have hf := fun {d} {P} => S_fault (X := X) (d := d) (P := P) (R := finM R i) h (show i < 12 by omega) hn2.2 hn2.1 (fun j hj => by
        have := I2.pt i (by omega) j hj
        exact ⟨_, _, this.1.1, this.1.2.1, this.2⟩)
      have I3 : IR (mA (mA (finM R i) 5 (hs (finM R i) i (tN ((finM R i).1 1 i)))) 0 (upd ((finM R i).1 0) i 1)) := by
        refine IR_df (IR_c I2 (fun q hq => by rw [mA1, if_neg (by omega)]) (fun q hq => rfl)) ?_ (.inr rfl)
        show i < tN ((finM R i).2.1 5)
        rw [show (finM R i).2 = (mF R 25 0).2 from mnd_2 _ _ _]
        exact hi
      have ht := fun {d} {P} => S_tries (X := X) (d := d) (P := P) h I3
      simp only [e1, not_false_iff, not_true, if_true, if_false, E_X6_finish_0, E_X6_finish_0n, E_X6_finish_1, E_X6_finish_1n, E_X6_finish_2, E_X6_finish_3, E_X6_finish_6, E_X6_finish_9, E_X6_finish_10, E_X6_finish_13, E_X6_finish_13n, E_X6_finish_14, E_X6_finish_17, E_X6_finish_18, E_X6_finish_19, E_X6_finish_20, E_X6_finish_23, E_X6_finish_24, E_X6_finish_27, E_X6_finish_28, E_X6_finish_31, E_X6_finish_34, E_X6_finish_35, E_X6_finish_36, E_X6_finish_36n, E_X6_finish_37, E_X6_finish_38, E_X6_finish_41, E_X6_finish_41n, E_X6_finish_42, E_X6_finish_43, E_X6_finish_46, E_X6_finish_47, E_X6_finish_48, E_X6_finish_51, E_X6_finish_51n, E_X6_finish_52, E_X6_finish_55, E_X6_finish_56, E_X6_finish_57, E_X6_finish_58, E_X6_finish_58n, E_X6_finish_59, E_X6_finish_62, E_X6_finish_63, zwith_some, zwith_none, zif_true, zaft_inl, Option.toList_some, Option.toList_none, List.cons_append, List.nil_append, zc1_int, zc1_ref, zc1_null, zc1_float, List.length_nil, List.length_cons, Nat.reduceAdd, Nat.reduceLeDiff, Nat.zero_add, z1and, z0and, zl00, zl01, zl02, zl03, ze00, ze10, ze20, ze30, if_true, if_false, mget h, mput h, mis h, hm, show mnd i (tN (R.1 1 i)) 0 (mF R 25 0) = finM R i from rfl, hf, show fau (finM R i) i (tN ((finM R i).1 1 i)) = finA R i from rfl]
      unfold finF
      by_cases e2 : finA R i < 0
      · have e2' := Int32.not_le.mpr e2
        simp only [e2, e2', if_true, if_false, E_X6_finish_0, E_X6_finish_0n, E_X6_finish_1, E_X6_finish_1n, E_X6_finish_2, E_X6_finish_3, E_X6_finish_6, E_X6_finish_9, E_X6_finish_10, E_X6_finish_13, E_X6_finish_13n, E_X6_finish_14, E_X6_finish_17, E_X6_finish_18, E_X6_finish_19, E_X6_finish_20, E_X6_finish_23, E_X6_finish_24, E_X6_finish_27, E_X6_finish_28, E_X6_finish_31, E_X6_finish_34, E_X6_finish_35, E_X6_finish_36, E_X6_finish_36n, E_X6_finish_37, E_X6_finish_38, E_X6_finish_41, E_X6_finish_41n, E_X6_finish_42, E_X6_finish_43, E_X6_finish_46, E_X6_finish_47, E_X6_finish_48, E_X6_finish_51, E_X6_finish_51n, E_X6_finish_52, E_X6_finish_55, E_X6_finish_56, E_X6_finish_57, E_X6_finish_58, E_X6_finish_58n, E_X6_finish_59, E_X6_finish_62, E_X6_finish_63, zwith_some, zwith_none, zif_true, zaft_inl, Option.toList_some, Option.toList_none, List.cons_append, List.nil_append, zc1_int, zc1_ref, zc1_null, zc1_float, List.length_nil, List.length_cons, Nat.reduceAdd, Nat.reduceLeDiff, Nat.zero_add, z1and, z0and, zl00, zl01, zl02, zl03, ze00, ze10, ze20, ze30, if_true, if_false, mget h, mrI h, mst h, mis h, hz, mA1, mA2, mF1, mF2, mF3, mC1, mC2, mC3, mA_same, mA_comm, mFA, mCA, mCF, mCC, mF_same, mF_comm, Nat.reduceEqDiff, Nat.reduceLT] at ht ⊢
        rw [ht]
        simp only [E_X6_finish_0, E_X6_finish_0n, E_X6_finish_1, E_X6_finish_1n, E_X6_finish_2, E_X6_finish_3, E_X6_finish_6, E_X6_finish_9, E_X6_finish_10, E_X6_finish_13, E_X6_finish_13n, E_X6_finish_14, E_X6_finish_17, E_X6_finish_18, E_X6_finish_19, E_X6_finish_20, E_X6_finish_23, E_X6_finish_24, E_X6_finish_27, E_X6_finish_28, E_X6_finish_31, E_X6_finish_34, E_X6_finish_35, E_X6_finish_36, E_X6_finish_36n, E_X6_finish_37, E_X6_finish_38, E_X6_finish_41, E_X6_finish_41n, E_X6_finish_42, E_X6_finish_43, E_X6_finish_46, E_X6_finish_47, E_X6_finish_48, E_X6_finish_51, E_X6_finish_51n, E_X6_finish_52, E_X6_finish_55, E_X6_finish_56, E_X6_finish_57, E_X6_finish_58, E_X6_finish_58n, E_X6_finish_59, E_X6_finish_62, E_X6_finish_63, zwith_some, zwith_none, zif_true, zaft_inl, Option.toList_some, Option.toList_none, List.cons_append, List.nil_append, zc1_int, zc1_ref, zc1_null, zc1_float, List.length_nil, List.length_cons, Nat.reduceAdd, Nat.reduceLeDiff, Nat.zero_add, z1and, z0and, zl00, zl01, zl02, zl03, ze00, ze10, ze20, ze30, if_true, if_false]
      · have e2' := Int32.not_lt.mp e2
        simp only [e2, e2', if_true, if_false]
  · have hw : finW R x = 1 := by
      unfold finW
      rw [if_pos c]
    simp only [E_X6_finish_0, E_X6_finish_0n, E_X6_finish_1, E_X6_finish_1n, E_X6_finish_2, E_X6_finish_3, E_X6_finish_6, E_X6_finish_9, E_X6_finish_10, E_X6_finish_13, E_X6_finish_13n, E_X6_finish_14, E_X6_finish_17, E_X6_finish_18, E_X6_finish_19, E_X6_finish_20, E_X6_finish_23, E_X6_finish_24, E_X6_finish_27, E_X6_finish_28, E_X6_finish_31, E_X6_finish_34, E_X6_finish_35, E_X6_finish_36, E_X6_finish_36n, E_X6_finish_37, E_X6_finish_38, E_X6_finish_41, E_X6_finish_41n, E_X6_finish_42, E_X6_finish_43, E_X6_finish_46, E_X6_finish_47, E_X6_finish_48, E_X6_finish_51, E_X6_finish_51n, E_X6_finish_52, E_X6_finish_55, E_X6_finish_56, E_X6_finish_57, E_X6_finish_58, E_X6_finish_58n, E_X6_finish_59, E_X6_finish_62, E_X6_finish_63, zwith_some, zwith_none, zif_true, zaft_inl, Option.toList_some, Option.toList_none, List.cons_append, List.nil_append, zc1_int, zc1_ref, zc1_null, zc1_float, List.length_nil, List.length_cons, Nat.reduceAdd, Nat.reduceLeDiff, Nat.zero_add, z1and, z0and, zl00, zl01, zl02, zl03, ze00, ze10, ze20, ze30, if_true, if_false, mget h, mput h, mis h, S_holds h, S_isDrawing h, c, hw, ze10, not_true, not_false_iff, if_true, if_false]
end RC
