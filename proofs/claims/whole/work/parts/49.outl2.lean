/-! OUTLINES: add, has, dropDoubled, firstWrongPoint, copy, clear -/
section CO2
variable {X : ZX} {d : Nat} {st : ZS} {G : CG} {V : CV} {P : ZO → ZS → Prop} {x y : Int32} {n m : Nat} {f g : Nat → Nat}
theorem C_oclear (h : cok st G) (ho : G.live (.ou n)) : AC X (d + 1) 11 [.ref (G.A (.ou n))] (cw st G V) P = P (.inl none) (cw st G (vI V 7 n 0)) := by
  rw [A_X2_clear]
  simp only [E_X2_clear_0, E_X2_clear_0n, E_X2_clear_1, E_X2_clear_2, E_X2_clear_5, zwith_some, zwith_none, zif_true, zaft_inl, Option.toList_some, Option.toList_none, List.cons_append, List.nil_append, zc1_int, zc1_ref, zc1_null, zc1_float, List.length_nil, List.length_cons, Nat.reduceAdd, Nat.reduceLeDiff, Nat.zero_add, z1and, z0and, zl00, zl01, zl02, zl03, ze00, ze10, ze20, ze30, if_true, if_false, cg_ou h ho, cp_ou h ho]
/-- an outline's values -/
def vO (V : CV) (n m : Nat) (s : Nat → Int32) : CV := vI (vS V n s) 7 n (nI m)
theorem vO_vO {s s' : Nat → Int32} {m' : Nat} : vO (vO V n m s) n m' s' = vO V n m' s' := by
  unfold vO vI vS
  refine Prod.ext (funext fun c => funext fun j => ?_) (Prod.ext rfl (Prod.ext rfl (Prod.ext rfl (Prod.ext (funext fun k => ?_) rfl))))
  · show (if c = 7 ∧ j = n then nI m' else if c = 7 ∧ j = n then nI m else V.i c j) = if c = 7 ∧ j = n then nI m' else V.i c j
    by_cases e : c = 7 ∧ j = n
    · rw [if_pos e, if_pos e]
    · rw [if_neg e, if_neg e, if_neg e]
  · show (if k = n then s' else if k = n then s else V.s k) = if k = n then s' else V.s k
    by_cases e : k = n
    · rw [if_pos e, if_pos e]
    · rw [if_neg e, if_neg e, if_neg e]
theorem vO_id (hm : V.i 7 n = nI m) : vO V n m (V.s n) = V := by
  unfold vO vI vS
  refine Prod.ext (funext fun c => funext fun j => ?_) (Prod.ext rfl (Prod.ext rfl (Prod.ext rfl (Prod.ext (funext fun k => ?_) rfl))))
  · show (if c = 7 ∧ j = n then nI m else V.i c j) = V.i c j
    by_cases e : c = 7 ∧ j = n
    · rw [if_pos e, e.1, e.2, hm]
    · rw [if_neg e]
  · show (if k = n then V.s n else V.s k) = V.s k
    by_cases e : k = n
    · rw [if_pos e, e]
    · rw [if_neg e]
theorem vO_7 {s : Nat → Int32} : (vO V n m s).i 7 n = nI m := if_pos ⟨rfl, rfl⟩
theorem vO_s {s : Nat → Int32} : (vO V n m s).s n = s := if_pos rfl
theorem vO_i {s : Nat → Int32} {c j : Nat} (h : ¬ (c = 7 ∧ j = n)) : (vO V n m s).i c j = V.i c j := if_neg h
theorem vO_so {s : Nat → Int32} {j : Nat} (h : j ≠ n) : (vO V n m s).s j = V.s j := if_neg h
theorem C_oadd (h : cok st G) (ho : G.live (.ou n)) (hs : G.live (.sk n)) (hm : V.i 7 n = nI m) (h24 : m < 24) {a b : Nat} : AC X (d + 1) 10 [.ref (G.A (.ou n)), .int (nI a), .int (nI b)] (cw st G V) P = P (.inl none) (cw st G (vO V n (m + 1) (upd (V.s n) m (nI (1024 * a + b))))) := by
  have h0 : ¬ nI m < 0 := nI_pos (by omega)
  have hlt2 : ¬ nI 24 ≤ nI m := nI_ge (by omega) (by omega)
  have hz := zix_nI h24 (by decide)
  rw [A_X2_add]
  simp only [E_X2_add_0, E_X2_add_0n, E_X2_add_1, E_X2_add_4, E_X2_add_7, E_X2_add_7n, E_X2_add_8, E_X2_add_11, E_X2_add_11n, E_X2_add_12, E_X2_add_15, E_X2_add_16, E_X2_add_19, E_X2_add_19n, E_X2_add_20, E_X2_add_23, E_X2_add_23n, E_X2_add_24, E_X2_add_27, E_X2_add_30, E_X2_add_31, E_X2_add_32, E_X2_add_33, E_X2_add_34, E_X2_add_35, E_X2_add_35n, E_X2_add_36, E_X2_add_36n, E_X2_add_36i, E_X2_add_36f, E_X2_add_37, E_X2_add_40, E_X2_add_41, E_X2_add_42, E_X2_add_45, zwith_some, zwith_none, zif_true, zaft_inl, Option.toList_some, Option.toList_none, List.cons_append, List.nil_append, zc1_int, zc1_ref, zc1_null, zc1_float, List.length_nil, List.length_cons, Nat.reduceAdd, Nat.reduceLeDiff, Nat.zero_add, z1and, z0and, zl00, zl01, zl02, zl03, ze00, ze10, ze20, ze30, if_true, if_false, cg_ou h ho, cp_ou h ho, hm, h0, ca_sk (X := X) h hs, show Int32.ofNat 24 = nI 24 from rfl, hlt2, hz, l1024, pk_mul, nI_add, vS_i, nI_1]
  rfl
/-- one of the first strokes has these points -/
def hsx (f g : Nat → Nat) (a b : Nat) : Nat → Bool
  | 0 => false
  | j + 1 => hsx f g a b j || ((decide (f j = a) && decide (g j = b)) || (decide (f j = b) && decide (g j = a)))
theorem hsx_up {a b j : Nat} (h : hsx f g a b j = true) : ∀ k, hsx f g a b (j + k) = true
  | 0 => h
  | k + 1 => by
    show (hsx f g a b (j + k) || _) = true
    rw [hsx_up h k, Bool.true_or]
theorem C_has_l (h : cok st G) (ho : G.live (.ou n)) (hs : G.live (.sk n)) (hl : oul V n m f g) {a b : Nat} (ha : a < 1024) (hb : b < 1024) : ∀ (k j : Nat) (l4 l5 : Value), j + k = m → hsx f g a b j = false → AW X (d + 1) 14 2 [.ref (G.A (.ou n)), .int (nI a), .int (nI b), .int (nI j), l4, l5] [] (cw st G V) P = P (.inl (some (.int (bN (hsx f g a b m))))) (cw st G V) := by
  have h24 := hl.2.1
  intro k
  induction k with
  | zero =>
    intro j l4 l5 hj hf
    have e : j = m := by omega
    subst e
    have hle : nI j ≤ nI j := nI_le (Nat.le_refl _) (by omega)
    rw [E_X2_has_2, hf]
    simp only [E_X2_has_0, E_X2_has_1, E_X2_has_3, E_X2_has_3n, E_X2_has_4, E_X2_has_7, E_X2_has_10, E_X2_has_11, E_X2_has_11n, E_X2_has_12, E_X2_has_15, E_X2_has_16, E_X2_has_19, E_X2_has_19n, E_X2_has_20, E_X2_has_23, E_X2_has_24, E_X2_has_25, E_X2_has_28, E_X2_has_30, E_X2_has_30n, E_X2_has_31, E_X2_has_34, E_X2_has_35, E_X2_has_36, E_X2_has_39, E_X2_has_41, E_X2_has_43, E_X2_has_44, E_X2_has_47, E_X2_has_49, E_X2_has_50, E_X2_has_53, E_X2_has_55, E_X2_has_56, E_X2_has_59, E_X2_has_61, E_X2_has_62, E_X2_has_65, E_X2_has_66, E_X2_has_67, E_X2_has_70, E_X2_has_73, E_X2_has_74, zwith_some, zwith_none, zif_true, zaft_inl, Option.toList_some, Option.toList_none, List.cons_append, List.nil_append, zc1_int, zc1_ref, zc1_null, zc1_float, List.length_nil, List.length_cons, Nat.reduceAdd, Nat.reduceLeDiff, Nat.zero_add, z1and, z0and, zl00, zl01, zl02, zl03, ze00, ze10, ze20, ze30, if_true, if_false, cg_ou h ho, hl.1, hle]
    rfl
  | succ k ih =>
    intro j l4 l5 hj hf
    obtain ⟨hk1, hk2, hk3⟩ := hl.2.2 j (by omega)
    have ih := ih (j + 1) (.int (nI (f j))) (.int (nI (g j))) (by omega)
    have hlt : ¬ nI m ≤ nI j := nI_ge (by omega) (by omega)
    have hlt2 : ¬ nI 24 ≤ nI j := nI_ge (by omega) (by omega)
    have hz := zix_nI (show j < 24 by omega) (by decide)
    have hup := fun z => hsx_up (f := f) (g := g) (a := a) (b := b) (j := j + 1) z k
    rw [show j + 1 + k = m by omega] at hup
    have es : hsx f g a b (j + 1) = (hsx f g a b j || ((decide (f j = a) && decide (g j = b)) || (decide (f j = b) && decide (g j = a)))) := rfl
    rw [hf, Bool.false_or] at es
    have q1 : (nI (f j) = nI a) = (f j = a) := propext (nI_eq (by omega) (by omega))
    have q2 : (nI (f j) = nI b) = (f j = b) := propext (nI_eq (by omega) (by omega))
    have q3 : (nI (g j) = nI a) = (g j = a) := propext (nI_eq (by omega) (by omega))
    have q4 : (nI (g j) = nI b) = (g j = b) := propext (nI_eq (by omega) (by omega))
    rw [E_X2_has_2]
    simp only [E_X2_has_0, E_X2_has_1, E_X2_has_3, E_X2_has_3n, E_X2_has_4, E_X2_has_7, E_X2_has_10, E_X2_has_11, E_X2_has_11n, E_X2_has_12, E_X2_has_15, E_X2_has_16, E_X2_has_19, E_X2_has_19n, E_X2_has_20, E_X2_has_23, E_X2_has_24, E_X2_has_25, E_X2_has_28, E_X2_has_30, E_X2_has_30n, E_X2_has_31, E_X2_has_34, E_X2_has_35, E_X2_has_36, E_X2_has_39, E_X2_has_41, E_X2_has_43, E_X2_has_44, E_X2_has_47, E_X2_has_49, E_X2_has_50, E_X2_has_53, E_X2_has_55, E_X2_has_56, E_X2_has_59, E_X2_has_61, E_X2_has_62, E_X2_has_65, E_X2_has_66, E_X2_has_67, E_X2_has_70, E_X2_has_73, E_X2_has_74, zwith_some, zwith_none, zif_true, zaft_inl, Option.toList_some, Option.toList_none, List.cons_append, List.nil_append, zc1_int, zc1_ref, zc1_null, zc1_float, List.length_nil, List.length_cons, Nat.reduceAdd, Nat.reduceLeDiff, Nat.zero_add, z1and, z0and, zl00, zl01, zl02, zl03, ze00, ze10, ze20, ze30, if_true, if_false, cg_ou h ho, hl.1, hlt, ca_sk (X := X) h hs, show Int32.ofNat 24 = nI 24 from rfl, hlt2, hz, hk1, C_fromOf hk2 hk3, C_toOf hk2 hk3, q1, q2, q3, q4, nI_1]
    by_cases c : (f j = a ∧ g j = b) ∨ (f j = b ∧ g j = a)
    · have e1 : hsx f g a b (j + 1) = true := by
        rw [es]
        rcases c with c | c
        · simp [c.1, c.2]
        · simp [c.1, c.2]
      rw [hup e1]
      by_cases c1 : f j = a
      · by_cases c2 : g j = b
        · simp only [c1, c2, not_true, if_true, if_false, show bN true = 1 from rfl]
        · have c3 : f j = b ∧ g j = a := c.resolve_left fun z => c2 z.2
          simp only [c1, c2, not_true, if_false]
          rw [← c1, c3.1, c3.2] at *
          simp only [not_true, if_false, show bN true = 1 from rfl]
      · have c3 : f j = b ∧ g j = a := c.resolve_left fun z => c1 z.1
        simp only [c1, c3.1, c3.2, not_false_iff, not_true, if_true, if_false, show bN true = 1 from rfl]
        simp_all
    · have e1 : hsx f g a b (j + 1) = false := by
        rw [es]
        have c1 : ¬ (f j = a ∧ g j = b) := fun z => c (.inl z)
        have c2 : ¬ (f j = b ∧ g j = a) := fun z => c (.inr z)
        rw [← Bool.decide_and, ← Bool.decide_and, decide_eq_false c1, decide_eq_false c2]
        rfl
      have ih := ih e1
      rw [← ih]
      repeat' split
      all_goals first | rfl | (exfalso; simp_all; done)
theorem C_has (h : cok st G) (ho : G.live (.ou n)) (hs : G.live (.sk n)) (hl : oul V n m f g) {a b : Nat} (ha : a < 1024) (hb : b < 1024) : AC X (d + 2) 14 [.ref (G.A (.ou n)), .int (nI a), .int (nI b)] (cw st G V) P = P (.inl (some (.int (bN (hsx f g a b m))))) (cw st G V) := by
  rw [A_X2_has]
  simp only [E_X2_has_0, E_X2_has_1, E_X2_has_3, E_X2_has_3n, E_X2_has_4, E_X2_has_7, E_X2_has_10, E_X2_has_11, E_X2_has_11n, E_X2_has_12, E_X2_has_15, E_X2_has_16, E_X2_has_19, E_X2_has_19n, E_X2_has_20, E_X2_has_23, E_X2_has_24, E_X2_has_25, E_X2_has_28, E_X2_has_30, E_X2_has_30n, E_X2_has_31, E_X2_has_34, E_X2_has_35, E_X2_has_36, E_X2_has_39, E_X2_has_41, E_X2_has_43, E_X2_has_44, E_X2_has_47, E_X2_has_49, E_X2_has_50, E_X2_has_53, E_X2_has_55, E_X2_has_56, E_X2_has_59, E_X2_has_61, E_X2_has_62, E_X2_has_65, E_X2_has_66, E_X2_has_67, E_X2_has_70, E_X2_has_73, E_X2_has_74, zwith_some, zwith_none, zif_true, zaft_inl, Option.toList_some, Option.toList_none, List.cons_append, List.nil_append, zc1_int, zc1_ref, zc1_null, zc1_float, List.length_nil, List.length_cons, Nat.reduceAdd, Nat.reduceLeDiff, Nat.zero_add, z1and, z0and, zl00, zl01, zl02, zl03, ze00, ze10, ze20, ze30, if_true, if_false]
  exact C_has_l h ho hs hl ha hb m 0 _ _ (by omega) rfl
def upN (f : Nat → Nat) (k x : Nat) : Nat → Nat := fun j => if j = k then x else f j
/-- the strokes that stay, of the first i -/
def ddk (f g : Nat → Nat) : Nat → Nat × (Nat → Nat) × (Nat → Nat)
  | 0 => (0, f, g)
  | i + 1 => if hsx (ddk f g i).2.1 (ddk f g i).2.2 (f i) (g i) (ddk f g i).1 = true then ddk f g i else ((ddk f g i).1 + 1, upN (ddk f g i).2.1 (ddk f g i).1 (f i), upN (ddk f g i).2.2 (ddk f g i).1 (g i))
theorem ddk_le : ∀ i, (ddk f g i).1 ≤ i
  | 0 => Nat.le_refl _
  | i + 1 => by
    have := ddk_le i
    unfold ddk
    split
    · omega
    · show (ddk f g i).1 + 1 ≤ _
      omega
theorem ddk_ge : ∀ i j, i ≤ j → (ddk f g i).2.1 j = f j ∧ (ddk f g i).2.2 j = g j
  | 0, j, _ => ⟨rfl, rfl⟩
  | i + 1, j, hj => by
    have h1 := ddk_ge i j (by omega)
    have h2 := ddk_le (f := f) (g := g) i
    unfold ddk
    split
    · exact h1
    · show upN _ _ _ j = _ ∧ upN _ _ _ j = _
      unfold upN
      rw [if_neg (by omega), if_neg (by omega)]
      exact h1
/-- an array of strokes -/
abbrev soA (s : Nat → Int32) (m : Nat) (f g : Nat → Nat) : Prop := ∀ k, k < m → s k = nI (1024 * f k + g k) ∧ f k < 1024 ∧ g k < 1024
theorem C_drop_l (h : cok st G) (ho : G.live (.ou n)) (hs : G.live (.sk n)) (hm : m ≤ 24) (hb : ∀ k, k < m → f k < 1024 ∧ g k < 1024) (K : ∀ s, soA s m (ddk f g m).2.1 (ddk f g m).2.2 → P (.inl none) (cw st G (vO V n (ddk f g m).1 s))) : ∀ (k i : Nat) (s : Nat → Int32) (l3 l4 : Value), i + k = m → soA s m (ddk f g i).2.1 (ddk f g i).2.2 → AW X (d + 2) 13 12 [.ref (G.A (.ou n)), .int (nI m), .int (nI i), l3, l4] [] (cw st G (vO V n (ddk f g i).1 s)) P := by
  intro k
  induction k with
  | zero =>
    intro i s l3 l4 hi hS
    have e : i = m := by omega
    subst e
    have hle : nI i ≤ nI i := nI_le (Nat.le_refl _) (by omega)
    rw [E_X2_dropDoubled_12]
    simp only [E_X2_dropDoubled_0, E_X2_dropDoubled_0n, E_X2_dropDoubled_1, E_X2_dropDoubled_4, E_X2_dropDoubled_5, E_X2_dropDoubled_5n, E_X2_dropDoubled_6, E_X2_dropDoubled_7, E_X2_dropDoubled_10, E_X2_dropDoubled_11, E_X2_dropDoubled_13, E_X2_dropDoubled_14, E_X2_dropDoubled_17, E_X2_dropDoubled_18, E_X2_dropDoubled_18n, E_X2_dropDoubled_19, E_X2_dropDoubled_22, E_X2_dropDoubled_23, E_X2_dropDoubled_26, E_X2_dropDoubled_26n, E_X2_dropDoubled_27, E_X2_dropDoubled_30, E_X2_dropDoubled_31, E_X2_dropDoubled_32, E_X2_dropDoubled_35, E_X2_dropDoubled_36, E_X2_dropDoubled_36n, E_X2_dropDoubled_37, E_X2_dropDoubled_40, E_X2_dropDoubled_41, E_X2_dropDoubled_42, E_X2_dropDoubled_45, E_X2_dropDoubled_47, E_X2_dropDoubled_47n, E_X2_dropDoubled_48, E_X2_dropDoubled_49, E_X2_dropDoubled_51, E_X2_dropDoubled_54, E_X2_dropDoubled_57, E_X2_dropDoubled_57n, E_X2_dropDoubled_58, E_X2_dropDoubled_59, E_X2_dropDoubled_61, E_X2_dropDoubled_64, E_X2_dropDoubled_67, E_X2_dropDoubled_70, zwith_some, zwith_none, zif_true, zaft_inl, Option.toList_some, Option.toList_none, List.cons_append, List.nil_append, zc1_int, zc1_ref, zc1_null, zc1_float, List.length_nil, List.length_cons, Nat.reduceAdd, Nat.reduceLeDiff, Nat.zero_add, z1and, z0and, zl00, zl01, zl02, zl03, ze00, ze10, ze20, ze30, if_true, if_false, hle]
    exact K s hS
  | succ k ih =>
    intro i s l3 l4 hi hS
    have ih := fun s => ih (i + 1) s (.int (nI (f i))) (.int (nI (g i))) (by omega)
    have hlt : ¬ nI m ≤ nI i := nI_ge (by omega) (by omega)
    have hlt2 : ¬ nI 24 ≤ nI i := nI_ge (by omega) (by omega)
    have hz := zix_nI (show i < 24 by omega) (by decide)
    have hg := ddk_ge (f := f) (g := g) i i (Nat.le_refl _)
    have hSi := (hS i (by omega)).1
    rw [hg.1, hg.2] at hSi
    obtain ⟨hk2, hk3⟩ := hb i (by omega)
    have hki := ddk_le (f := f) (g := g) i
    have hou : oul (vO V n (ddk f g i).1 s) n (ddk f g i).1 (ddk f g i).2.1 (ddk f g i).2.2 := ⟨vO_7, by omega, fun j hj => by rw [vO_s]; exact hS j (by omega)⟩
    have hh := fun {d} {P} => C_has (X := X) (d := d) (P := P) h ho hs hou hk2 hk3
    have ha := fun {d} {P} => C_oadd (X := X) (d := d) (P := P) (V := vO V n (ddk f g i).1 s) (a := f i) (b := g i) h ho hs vO_7 (by omega)
    rw [vO_vO, vO_s] at ha
    have ed : ddk f g (i + 1) = if hsx (ddk f g i).2.1 (ddk f g i).2.2 (f i) (g i) (ddk f g i).1 = true then ddk f g i else ((ddk f g i).1 + 1, upN (ddk f g i).2.1 (ddk f g i).1 (f i), upN (ddk f g i).2.2 (ddk f g i).1 (g i)) := rfl
    rw [E_X2_dropDoubled_12]
    simp only [E_X2_dropDoubled_0, E_X2_dropDoubled_0n, E_X2_dropDoubled_1, E_X2_dropDoubled_4, E_X2_dropDoubled_5, E_X2_dropDoubled_5n, E_X2_dropDoubled_6, E_X2_dropDoubled_7, E_X2_dropDoubled_10, E_X2_dropDoubled_11, E_X2_dropDoubled_13, E_X2_dropDoubled_14, E_X2_dropDoubled_17, E_X2_dropDoubled_18, E_X2_dropDoubled_18n, E_X2_dropDoubled_19, E_X2_dropDoubled_22, E_X2_dropDoubled_23, E_X2_dropDoubled_26, E_X2_dropDoubled_26n, E_X2_dropDoubled_27, E_X2_dropDoubled_30, E_X2_dropDoubled_31, E_X2_dropDoubled_32, E_X2_dropDoubled_35, E_X2_dropDoubled_36, E_X2_dropDoubled_36n, E_X2_dropDoubled_37, E_X2_dropDoubled_40, E_X2_dropDoubled_41, E_X2_dropDoubled_42, E_X2_dropDoubled_45, E_X2_dropDoubled_47, E_X2_dropDoubled_47n, E_X2_dropDoubled_48, E_X2_dropDoubled_49, E_X2_dropDoubled_51, E_X2_dropDoubled_54, E_X2_dropDoubled_57, E_X2_dropDoubled_57n, E_X2_dropDoubled_58, E_X2_dropDoubled_59, E_X2_dropDoubled_61, E_X2_dropDoubled_64, E_X2_dropDoubled_67, E_X2_dropDoubled_70, zwith_some, zwith_none, zif_true, zaft_inl, Option.toList_some, Option.toList_none, List.cons_append, List.nil_append, zc1_int, zc1_ref, zc1_null, zc1_float, List.length_nil, List.length_cons, Nat.reduceAdd, Nat.reduceLeDiff, Nat.zero_add, z1and, z0and, zl00, zl01, zl02, zl03, ze00, ze10, ze20, ze30, if_true, if_false, cg_ou h ho, hlt, ca_sk (X := X) h hs, show Int32.ofNat 24 = nI 24 from rfl, hlt2, hz, vO_s, hSi, C_fromOf hk2 hk3, C_toOf hk2 hk3, hh, bN_eq0, nI_1]
    cases c : hsx (ddk f g i).2.1 (ddk f g i).2.2 (f i) (g i) (ddk f g i).1 with
    | true =>
      rw [c, if_pos rfl] at ed
      rw [ed] at ih
      simp only [Bool.true_eq_false, not_false_iff, if_true]
      exact ih s hS
    | false =>
      rw [c, if_neg (by decide)] at ed
      rw [ed] at ih
      simp only [not_true, if_false, E_X2_dropDoubled_0, E_X2_dropDoubled_0n, E_X2_dropDoubled_1, E_X2_dropDoubled_4, E_X2_dropDoubled_5, E_X2_dropDoubled_5n, E_X2_dropDoubled_6, E_X2_dropDoubled_7, E_X2_dropDoubled_10, E_X2_dropDoubled_11, E_X2_dropDoubled_13, E_X2_dropDoubled_14, E_X2_dropDoubled_17, E_X2_dropDoubled_18, E_X2_dropDoubled_18n, E_X2_dropDoubled_19, E_X2_dropDoubled_22, E_X2_dropDoubled_23, E_X2_dropDoubled_26, E_X2_dropDoubled_26n, E_X2_dropDoubled_27, E_X2_dropDoubled_30, E_X2_dropDoubled_31, E_X2_dropDoubled_32, E_X2_dropDoubled_35, E_X2_dropDoubled_36, E_X2_dropDoubled_36n, E_X2_dropDoubled_37, E_X2_dropDoubled_40, E_X2_dropDoubled_41, E_X2_dropDoubled_42, E_X2_dropDoubled_45, E_X2_dropDoubled_47, E_X2_dropDoubled_47n, E_X2_dropDoubled_48, E_X2_dropDoubled_49, E_X2_dropDoubled_51, E_X2_dropDoubled_54, E_X2_dropDoubled_57, E_X2_dropDoubled_57n, E_X2_dropDoubled_58, E_X2_dropDoubled_59, E_X2_dropDoubled_61, E_X2_dropDoubled_64, E_X2_dropDoubled_67, E_X2_dropDoubled_70, zwith_some, zwith_none, zif_true, zaft_inl, Option.toList_some, Option.toList_none, List.cons_append, List.nil_append, zc1_int, zc1_ref, zc1_null, zc1_float, List.length_nil, List.length_cons, Nat.reduceAdd, Nat.reduceLeDiff, Nat.zero_add, z1and, z0and, zl00, zl01, zl02, zl03, ze00, ze10, ze20, ze30, if_true, if_false, ha, nI_1]
      refine ih _ fun j hj => ?_
      have hj2 := hS j hj
      dsimp only
      unfold upN
      by_cases e : j = (ddk f g i).1
      · rw [if_pos e, if_pos e, e, pk_us]
        exact ⟨rfl, hk2, hk3⟩
      · rw [if_neg e, if_neg e, pk_un e]
        exact hj2
theorem C_drop (h : cok st G) (ho : G.live (.ou n)) (hs : G.live (.sk n)) (hl : oul V n m f g) (K : ∀ s, soA s m (ddk f g m).2.1 (ddk f g m).2.2 → P (.inl none) (cw st G (vO V n (ddk f g m).1 s))) : AC X (d + 3) 13 [.ref (G.A (.ou n))] (cw st G V) P := by
  have hL := C_drop_l (X := X) (d := d) (V := V) h ho hs hl.2.1 (fun k hk => (hl.2.2 k hk).2) K m 0 (V.s n) (.retAddr 0) (.retAddr 0) (by omega) hl.2.2
  have e : vO V n (ddk f g 0).1 (V.s n) = vI V 7 n 0 := by
    show vI (vS V n (V.s n)) 7 n (nI 0) = vI V 7 n 0
    have : vS V n (V.s n) = V := by
      unfold vS
      refine Prod.ext rfl (Prod.ext rfl (Prod.ext rfl (Prod.ext rfl (Prod.ext (funext fun k => ?_) rfl))))
      show (if k = n then V.s n else V.s k) = V.s k
      by_cases e : k = n
      · rw [if_pos e, e]
      · rw [if_neg e]
    rw [this]
    rfl
  rw [e] at hL
  rw [A_X2_dropDoubled]
  simp only [E_X2_dropDoubled_0, E_X2_dropDoubled_0n, E_X2_dropDoubled_1, E_X2_dropDoubled_4, E_X2_dropDoubled_5, E_X2_dropDoubled_5n, E_X2_dropDoubled_6, E_X2_dropDoubled_7, E_X2_dropDoubled_10, E_X2_dropDoubled_11, E_X2_dropDoubled_13, E_X2_dropDoubled_14, E_X2_dropDoubled_17, E_X2_dropDoubled_18, E_X2_dropDoubled_18n, E_X2_dropDoubled_19, E_X2_dropDoubled_22, E_X2_dropDoubled_23, E_X2_dropDoubled_26, E_X2_dropDoubled_26n, E_X2_dropDoubled_27, E_X2_dropDoubled_30, E_X2_dropDoubled_31, E_X2_dropDoubled_32, E_X2_dropDoubled_35, E_X2_dropDoubled_36, E_X2_dropDoubled_36n, E_X2_dropDoubled_37, E_X2_dropDoubled_40, E_X2_dropDoubled_41, E_X2_dropDoubled_42, E_X2_dropDoubled_45, E_X2_dropDoubled_47, E_X2_dropDoubled_47n, E_X2_dropDoubled_48, E_X2_dropDoubled_49, E_X2_dropDoubled_51, E_X2_dropDoubled_54, E_X2_dropDoubled_57, E_X2_dropDoubled_57n, E_X2_dropDoubled_58, E_X2_dropDoubled_59, E_X2_dropDoubled_61, E_X2_dropDoubled_64, E_X2_dropDoubled_67, E_X2_dropDoubled_70, zwith_some, zwith_none, zif_true, zaft_inl, Option.toList_some, Option.toList_none, List.cons_append, List.nil_append, zc1_int, zc1_ref, zc1_null, zc1_float, List.length_nil, List.length_cons, Nat.reduceAdd, Nat.reduceLeDiff, Nat.zero_add, z1and, z0and, zl00, zl01, zl02, zl03, ze00, ze10, ze20, ze30, if_true, if_false, cg_ou h ho, cp_ou h ho, hl.1]
  exact hL
/-- how many of the first strokes have the point -/
def cnt (f g : Nat → Nat) (p : Nat) : Nat → Nat
  | 0 => 0
  | j + 1 => cnt f g p j + (if f j = p ∨ g j = p then 1 else 0)
theorem cnt_le {p : Nat} : ∀ j, cnt f g p j ≤ j
  | 0 => Nat.le_refl _
  | j + 1 => by
    have := cnt_le (p := p) j
    show cnt f g p j + _ ≤ _
    split <;> omega
theorem C_at_l (h : cok st G) (ho : G.live (.ou n)) (hs : G.live (.sk n)) (hl : oul V n m f g) {p : Nat} (hp : p < 1024) : ∀ (k j : Nat), j + k = m → AW X (d + 1) 17 4 [.ref (G.A (.ou n)), .int (nI p), .int (nI (cnt f g p j)), .int (nI j)] [] (cw st G V) P = P (.inl (some (.int (nI (cnt f g p m))))) (cw st G V) := by
  have h24 := hl.2.1
  intro k
  induction k with
  | zero =>
    intro j hj
    have e : j = m := by omega
    subst e
    have hle : nI j ≤ nI j := nI_le (Nat.le_refl _) (by omega)
    rw [E_X2_strokesAt_4]
    simp only [E_X2_strokesAt_0, E_X2_strokesAt_1, E_X2_strokesAt_2, E_X2_strokesAt_3, E_X2_strokesAt_5, E_X2_strokesAt_5n, E_X2_strokesAt_6, E_X2_strokesAt_9, E_X2_strokesAt_12, E_X2_strokesAt_13, E_X2_strokesAt_13n, E_X2_strokesAt_14, E_X2_strokesAt_17, E_X2_strokesAt_18, E_X2_strokesAt_21, E_X2_strokesAt_21n, E_X2_strokesAt_22, E_X2_strokesAt_25, E_X2_strokesAt_26, E_X2_strokesAt_27, E_X2_strokesAt_30, E_X2_strokesAt_31, E_X2_strokesAt_34, E_X2_strokesAt_34n, E_X2_strokesAt_35, E_X2_strokesAt_38, E_X2_strokesAt_39, E_X2_strokesAt_40, E_X2_strokesAt_43, E_X2_strokesAt_44, E_X2_strokesAt_47, E_X2_strokesAt_50, E_X2_strokesAt_53, E_X2_strokesAt_56, E_X2_strokesAt_57, zwith_some, zwith_none, zif_true, zaft_inl, Option.toList_some, Option.toList_none, List.cons_append, List.nil_append, zc1_int, zc1_ref, zc1_null, zc1_float, List.length_nil, List.length_cons, Nat.reduceAdd, Nat.reduceLeDiff, Nat.zero_add, z1and, z0and, zl00, zl01, zl02, zl03, ze00, ze10, ze20, ze30, if_true, if_false, cg_ou h ho, hl.1, hle]
  | succ k ih =>
    intro j hj
    obtain ⟨hk1, hk2, hk3⟩ := hl.2.2 j (by omega)
    have ih := ih (j + 1) (by omega)
    rw [show cnt f g p (j + 1) = cnt f g p j + (if f j = p ∨ g j = p then 1 else 0) from rfl] at ih
    have hlt : ¬ nI m ≤ nI j := nI_ge (by omega) (by omega)
    have hlt2 : ¬ nI 24 ≤ nI j := nI_ge (by omega) (by omega)
    have hz := zix_nI (show j < 24 by omega) (by decide)
    have q1 : (nI (f j) = nI p) = (f j = p) := propext (nI_eq (by omega) (by omega))
    have q2 : (nI (g j) = nI p) = (g j = p) := propext (nI_eq (by omega) (by omega))
    rw [E_X2_strokesAt_4]
    simp only [E_X2_strokesAt_0, E_X2_strokesAt_1, E_X2_strokesAt_2, E_X2_strokesAt_3, E_X2_strokesAt_5, E_X2_strokesAt_5n, E_X2_strokesAt_6, E_X2_strokesAt_9, E_X2_strokesAt_12, E_X2_strokesAt_13, E_X2_strokesAt_13n, E_X2_strokesAt_14, E_X2_strokesAt_17, E_X2_strokesAt_18, E_X2_strokesAt_21, E_X2_strokesAt_21n, E_X2_strokesAt_22, E_X2_strokesAt_25, E_X2_strokesAt_26, E_X2_strokesAt_27, E_X2_strokesAt_30, E_X2_strokesAt_31, E_X2_strokesAt_34, E_X2_strokesAt_34n, E_X2_strokesAt_35, E_X2_strokesAt_38, E_X2_strokesAt_39, E_X2_strokesAt_40, E_X2_strokesAt_43, E_X2_strokesAt_44, E_X2_strokesAt_47, E_X2_strokesAt_50, E_X2_strokesAt_53, E_X2_strokesAt_56, E_X2_strokesAt_57, zwith_some, zwith_none, zif_true, zaft_inl, Option.toList_some, Option.toList_none, List.cons_append, List.nil_append, zc1_int, zc1_ref, zc1_null, zc1_float, List.length_nil, List.length_cons, Nat.reduceAdd, Nat.reduceLeDiff, Nat.zero_add, z1and, z0and, zl00, zl01, zl02, zl03, ze00, ze10, ze20, ze30, if_true, if_false, cg_ou h ho, hl.1, hlt, ca_sk (X := X) h hs, show Int32.ofNat 24 = nI 24 from rfl, hlt2, hz, hk1, C_fromOf hk2 hk3, C_toOf hk2 hk3, q1, q2, nI_1]
    by_cases c1 : f j = p
    · rw [if_pos (.inl c1)] at ih
      simp only [c1, if_true]
      exact ih
    · by_cases c2 : g j = p
      · rw [if_pos (.inr c2)] at ih
        simp only [c1, c2, not_true, if_false]
        exact ih
      · rw [if_neg (fun z => z.elim c1 c2)] at ih
        simp only [c1, c2, not_false_iff, if_true, if_false]
        exact ih
theorem C_at (h : cok st G) (ho : G.live (.ou n)) (hs : G.live (.sk n)) (hl : oul V n m f g) {p : Nat} (hp : p < 1024) : AC X (d + 2) 17 [.ref (G.A (.ou n)), .int (nI p)] (cw st G V) P = P (.inl (some (.int (nI (cnt f g p m))))) (cw st G V) := by
  rw [A_X2_strokesAt]
  simp only [E_X2_strokesAt_0, E_X2_strokesAt_1, E_X2_strokesAt_2, E_X2_strokesAt_3, E_X2_strokesAt_5, E_X2_strokesAt_5n, E_X2_strokesAt_6, E_X2_strokesAt_9, E_X2_strokesAt_12, E_X2_strokesAt_13, E_X2_strokesAt_13n, E_X2_strokesAt_14, E_X2_strokesAt_17, E_X2_strokesAt_18, E_X2_strokesAt_21, E_X2_strokesAt_21n, E_X2_strokesAt_22, E_X2_strokesAt_25, E_X2_strokesAt_26, E_X2_strokesAt_27, E_X2_strokesAt_30, E_X2_strokesAt_31, E_X2_strokesAt_34, E_X2_strokesAt_34n, E_X2_strokesAt_35, E_X2_strokesAt_38, E_X2_strokesAt_39, E_X2_strokesAt_40, E_X2_strokesAt_43, E_X2_strokesAt_44, E_X2_strokesAt_47, E_X2_strokesAt_50, E_X2_strokesAt_53, E_X2_strokesAt_56, E_X2_strokesAt_57, zwith_some, zwith_none, zif_true, zaft_inl, Option.toList_some, Option.toList_none, List.cons_append, List.nil_append, zc1_int, zc1_ref, zc1_null, zc1_float, List.length_nil, List.length_cons, Nat.reduceAdd, Nat.reduceLeDiff, Nat.zero_add, z1and, z0and, zl00, zl01, zl02, zl03, ze00, ze10, ze20, ze30, if_true, if_false]
  exact C_at_l h ho hs hl hp m 0 (by omega)
def wpt (f g : Nat → Nat) (m p : Nat) : Nat := if cnt f g p m = 2 then 1024 else p
theorem C_wrong (h : cok st G) (ho : G.live (.ou n)) (hs : G.live (.sk n)) (hl : oul V n m f g) {p : Nat} (hp : p < 1024) : AC X (d + 3) 16 [.ref (G.A (.ou n)), .int (nI p)] (cw st G V) P = P (.inl (some (.int (nI (wpt f g m p))))) (cw st G V) := by
  have hc := cnt_le (f := f) (g := g) (p := p) m
  have h24 := hl.2.1
  have q : (nI (cnt f g p m) = 2) = (cnt f g p m = 2) := propext (nI_eq (b := 2) (by omega) (by decide))
  rw [A_X2_wrongOrNoPoint]
  simp only [E_X2_wrongOrNoPoint_0, E_X2_wrongOrNoPoint_0n, E_X2_wrongOrNoPoint_1, E_X2_wrongOrNoPoint_2, E_X2_wrongOrNoPoint_5, E_X2_wrongOrNoPoint_6, E_X2_wrongOrNoPoint_9, E_X2_wrongOrNoPoint_12, E_X2_wrongOrNoPoint_15, E_X2_wrongOrNoPoint_16, zwith_some, zwith_none, zif_true, zaft_inl, Option.toList_some, Option.toList_none, List.cons_append, List.nil_append, zc1_int, zc1_ref, zc1_null, zc1_float, List.length_nil, List.length_cons, Nat.reduceAdd, Nat.reduceLeDiff, Nat.zero_add, z1and, z0and, zl00, zl01, zl02, zl03, ze00, ze10, ze20, ze30, if_true, if_false, cis_ou h ho, C_at h ho hs hl hp, q]
  unfold wpt
  by_cases c : cnt f g p m = 2
  · simp only [c, not_true, if_true, if_false]
    rfl
  · simp only [c, not_false_iff, if_true, if_false]
/-- the least wrong point of the first strokes -/
def fwp (f g : Nat → Nat) (m : Nat) : Nat → Nat
  | 0 => 1024
  | j + 1 => min (min (fwp f g m j) (wpt f g m (f j))) (wpt f g m (g j))
theorem nI_min {a b : Nat} (ha : a < 2 ^ 31) (hb : b < 2 ^ 31) : (if nI b < nI a then nI b else nI a) = nI (min a b) := by
  by_cases c : b < a
  · rw [if_pos (nI_lt c ha), Nat.min_eq_right (by omega)]
  · rw [if_neg (nI_nlt (by omega) hb), Nat.min_eq_left (by omega)]
theorem wpt_le {p : Nat} (hp : p < 1024) : wpt f g m p ≤ 1024 := by
  unfold wpt
  split <;> omega
theorem fwp_le : ∀ j, fwp f g m j ≤ 1024
  | 0 => Nat.le_refl _
  | j + 1 => by
    have := fwp_le j
    show min (min _ _) _ ≤ _
    omega
theorem C_first_l (h : cok st G) (ho : G.live (.ou n)) (hs : G.live (.sk n)) (hl : oul V n m f g) : ∀ (k j : Nat), j + k = m → AW X (d + 3) 15 17 [.ref (G.A (.ou n)), .int (nI (fwp f g m j)), .int (nI j)] [] (cw st G V) P = P (.inl (some (.int (if fwp f g m m = 1024 then -1 else nI (fwp f g m m))))) (cw st G V) := by
  have h24 := hl.2.1
  intro k
  induction k with
  | zero =>
    intro j hj
    have e : j = m := by omega
    subst e
    have hle : nI j ≤ nI j := nI_le (Nat.le_refl _) (by omega)
    have hf := fwp_le (f := f) (g := g) (m := j) j
    have q : (nI (fwp f g j j) = nI 1024) = (fwp f g j j = 1024) := propext (nI_eq (by omega) (by decide))
    rw [E_X2_firstWrongPoint_17]
    simp only [E_X2_firstWrongPoint_0, E_X2_firstWrongPoint_0n, E_X2_firstWrongPoint_1, E_X2_firstWrongPoint_4, E_X2_firstWrongPoint_7, E_X2_firstWrongPoint_10, E_X2_firstWrongPoint_11, E_X2_firstWrongPoint_14, E_X2_firstWrongPoint_15, E_X2_firstWrongPoint_16, E_X2_firstWrongPoint_18, E_X2_firstWrongPoint_18n, E_X2_firstWrongPoint_19, E_X2_firstWrongPoint_22, E_X2_firstWrongPoint_25, E_X2_firstWrongPoint_26, E_X2_firstWrongPoint_26n, E_X2_firstWrongPoint_27, E_X2_firstWrongPoint_30, E_X2_firstWrongPoint_31, E_X2_firstWrongPoint_34, E_X2_firstWrongPoint_35, E_X2_firstWrongPoint_35n, E_X2_firstWrongPoint_36, E_X2_firstWrongPoint_36n, E_X2_firstWrongPoint_37, E_X2_firstWrongPoint_40, E_X2_firstWrongPoint_41, E_X2_firstWrongPoint_42, E_X2_firstWrongPoint_45, E_X2_firstWrongPoint_48, E_X2_firstWrongPoint_51, E_X2_firstWrongPoint_52, E_X2_firstWrongPoint_53, E_X2_firstWrongPoint_53n, E_X2_firstWrongPoint_54, E_X2_firstWrongPoint_54n, E_X2_firstWrongPoint_55, E_X2_firstWrongPoint_58, E_X2_firstWrongPoint_59, E_X2_firstWrongPoint_60, E_X2_firstWrongPoint_63, E_X2_firstWrongPoint_66, E_X2_firstWrongPoint_69, E_X2_firstWrongPoint_70, E_X2_firstWrongPoint_73, E_X2_firstWrongPoint_76, E_X2_firstWrongPoint_77, E_X2_firstWrongPoint_80, E_X2_firstWrongPoint_83, E_X2_firstWrongPoint_84, E_X2_firstWrongPoint_87, E_X2_firstWrongPoint_88, zwith_some, zwith_none, zif_true, zaft_inl, Option.toList_some, Option.toList_none, List.cons_append, List.nil_append, zc1_int, zc1_ref, zc1_null, zc1_float, List.length_nil, List.length_cons, Nat.reduceAdd, Nat.reduceLeDiff, Nat.zero_add, z1and, z0and, zl00, zl01, zl02, zl03, ze00, ze10, ze20, ze30, if_true, if_false, cg_ou h ho, hl.1, hle, l1024, q]
    by_cases c : fwp f g j j = 1024
    · simp only [c, not_true, if_true, if_false]
    · simp only [c, not_false_iff, if_true, if_false]
  | succ k ih =>
    intro j hj
    obtain ⟨hk1, hk2, hk3⟩ := hl.2.2 j (by omega)
    have ih := ih (j + 1) (by omega)
    rw [show fwp f g m (j + 1) = min (min (fwp f g m j) (wpt f g m (f j))) (wpt f g m (g j)) from rfl] at ih
    have hlt : ¬ nI m ≤ nI j := nI_ge (by omega) (by omega)
    have hlt2 : ¬ nI 24 ≤ nI j := nI_ge (by omega) (by omega)
    have hz := zix_nI (show j < 24 by omega) (by decide)
    have hf := fwp_le (f := f) (g := g) (m := m) j
    have hw1 := wpt_le (f := f) (g := g) (m := m) hk2
    have hw2 := wpt_le (f := f) (g := g) (m := m) hk3
    have e1 := nI_min (a := fwp f g m j) (b := wpt f g m (f j)) (by omega) (by omega)
    have e2 := nI_min (a := min (fwp f g m j) (wpt f g m (f j))) (b := wpt f g m (g j)) (by omega) (by omega)
    rw [E_X2_firstWrongPoint_17]
    simp only [E_X2_firstWrongPoint_0, E_X2_firstWrongPoint_0n, E_X2_firstWrongPoint_1, E_X2_firstWrongPoint_4, E_X2_firstWrongPoint_7, E_X2_firstWrongPoint_10, E_X2_firstWrongPoint_11, E_X2_firstWrongPoint_14, E_X2_firstWrongPoint_15, E_X2_firstWrongPoint_16, E_X2_firstWrongPoint_18, E_X2_firstWrongPoint_18n, E_X2_firstWrongPoint_19, E_X2_firstWrongPoint_22, E_X2_firstWrongPoint_25, E_X2_firstWrongPoint_26, E_X2_firstWrongPoint_26n, E_X2_firstWrongPoint_27, E_X2_firstWrongPoint_30, E_X2_firstWrongPoint_31, E_X2_firstWrongPoint_34, E_X2_firstWrongPoint_35, E_X2_firstWrongPoint_35n, E_X2_firstWrongPoint_36, E_X2_firstWrongPoint_36n, E_X2_firstWrongPoint_37, E_X2_firstWrongPoint_40, E_X2_firstWrongPoint_41, E_X2_firstWrongPoint_42, E_X2_firstWrongPoint_45, E_X2_firstWrongPoint_48, E_X2_firstWrongPoint_51, E_X2_firstWrongPoint_52, E_X2_firstWrongPoint_53, E_X2_firstWrongPoint_53n, E_X2_firstWrongPoint_54, E_X2_firstWrongPoint_54n, E_X2_firstWrongPoint_55, E_X2_firstWrongPoint_58, E_X2_firstWrongPoint_59, E_X2_firstWrongPoint_60, E_X2_firstWrongPoint_63, E_X2_firstWrongPoint_66, E_X2_firstWrongPoint_69, E_X2_firstWrongPoint_70, E_X2_firstWrongPoint_73, E_X2_firstWrongPoint_76, E_X2_firstWrongPoint_77, E_X2_firstWrongPoint_80, E_X2_firstWrongPoint_83, E_X2_firstWrongPoint_84, E_X2_firstWrongPoint_87, E_X2_firstWrongPoint_88, zwith_some, zwith_none, zif_true, zaft_inl, Option.toList_some, Option.toList_none, List.cons_append, List.nil_append, zc1_int, zc1_ref, zc1_null, zc1_float, List.length_nil, List.length_cons, Nat.reduceAdd, Nat.reduceLeDiff, Nat.zero_add, z1and, z0and, zl00, zl01, zl02, zl03, ze00, ze10, ze20, ze30, if_true, if_false, cg_ou h ho, hl.1, hlt, ca_sk (X := X) h hs, show Int32.ofNat 24 = nI 24 from rfl, hlt2, hz, hk1, C_fromOf hk2 hk3, C_toOf hk2 hk3, cis_ou h ho, C_wrong h ho hs hl hk2, C_wrong h ho hs hl hk3, e1, e2, nI_1]
    exact ih
theorem C_first (h : cok st G) (ho : G.live (.ou n)) (hs : G.live (.sk n)) (hl : oul V n m f g) : AC X (d + 4) 15 [.ref (G.A (.ou n))] (cw st G V) P = P (.inl (some (.int (if m = 0 then 1024 else if fwp f g m m = 1024 then -1 else nI (fwp f g m m))))) (cw st G V) := by
  have h24 := hl.2.1
  rw [A_X2_firstWrongPoint]
  by_cases c : m = 0
  · subst c
    simp only [E_X2_firstWrongPoint_0, E_X2_firstWrongPoint_0n, E_X2_firstWrongPoint_1, E_X2_firstWrongPoint_4, E_X2_firstWrongPoint_7, E_X2_firstWrongPoint_10, E_X2_firstWrongPoint_11, E_X2_firstWrongPoint_14, E_X2_firstWrongPoint_15, E_X2_firstWrongPoint_16, E_X2_firstWrongPoint_18, E_X2_firstWrongPoint_18n, E_X2_firstWrongPoint_19, E_X2_firstWrongPoint_22, E_X2_firstWrongPoint_25, E_X2_firstWrongPoint_26, E_X2_firstWrongPoint_26n, E_X2_firstWrongPoint_27, E_X2_firstWrongPoint_30, E_X2_firstWrongPoint_31, E_X2_firstWrongPoint_34, E_X2_firstWrongPoint_35, E_X2_firstWrongPoint_35n, E_X2_firstWrongPoint_36, E_X2_firstWrongPoint_36n, E_X2_firstWrongPoint_37, E_X2_firstWrongPoint_40, E_X2_firstWrongPoint_41, E_X2_firstWrongPoint_42, E_X2_firstWrongPoint_45, E_X2_firstWrongPoint_48, E_X2_firstWrongPoint_51, E_X2_firstWrongPoint_52, E_X2_firstWrongPoint_53, E_X2_firstWrongPoint_53n, E_X2_firstWrongPoint_54, E_X2_firstWrongPoint_54n, E_X2_firstWrongPoint_55, E_X2_firstWrongPoint_58, E_X2_firstWrongPoint_59, E_X2_firstWrongPoint_60, E_X2_firstWrongPoint_63, E_X2_firstWrongPoint_66, E_X2_firstWrongPoint_69, E_X2_firstWrongPoint_70, E_X2_firstWrongPoint_73, E_X2_firstWrongPoint_76, E_X2_firstWrongPoint_77, E_X2_firstWrongPoint_80, E_X2_firstWrongPoint_83, E_X2_firstWrongPoint_84, E_X2_firstWrongPoint_87, E_X2_firstWrongPoint_88, zwith_some, zwith_none, zif_true, zaft_inl, Option.toList_some, Option.toList_none, List.cons_append, List.nil_append, zc1_int, zc1_ref, zc1_null, zc1_float, List.length_nil, List.length_cons, Nat.reduceAdd, Nat.reduceLeDiff, Nat.zero_add, z1and, z0and, zl00, zl01, zl02, zl03, ze00, ze10, ze20, ze30, if_true, if_false, cg_ou h ho, hl.1, nI_0, not_true, if_true, if_false]
  · have hn0 : ¬ nI m = 0 := nI_ne0 (by omega) (by omega)
    simp only [E_X2_firstWrongPoint_0, E_X2_firstWrongPoint_0n, E_X2_firstWrongPoint_1, E_X2_firstWrongPoint_4, E_X2_firstWrongPoint_7, E_X2_firstWrongPoint_10, E_X2_firstWrongPoint_11, E_X2_firstWrongPoint_14, E_X2_firstWrongPoint_15, E_X2_firstWrongPoint_16, E_X2_firstWrongPoint_18, E_X2_firstWrongPoint_18n, E_X2_firstWrongPoint_19, E_X2_firstWrongPoint_22, E_X2_firstWrongPoint_25, E_X2_firstWrongPoint_26, E_X2_firstWrongPoint_26n, E_X2_firstWrongPoint_27, E_X2_firstWrongPoint_30, E_X2_firstWrongPoint_31, E_X2_firstWrongPoint_34, E_X2_firstWrongPoint_35, E_X2_firstWrongPoint_35n, E_X2_firstWrongPoint_36, E_X2_firstWrongPoint_36n, E_X2_firstWrongPoint_37, E_X2_firstWrongPoint_40, E_X2_firstWrongPoint_41, E_X2_firstWrongPoint_42, E_X2_firstWrongPoint_45, E_X2_firstWrongPoint_48, E_X2_firstWrongPoint_51, E_X2_firstWrongPoint_52, E_X2_firstWrongPoint_53, E_X2_firstWrongPoint_53n, E_X2_firstWrongPoint_54, E_X2_firstWrongPoint_54n, E_X2_firstWrongPoint_55, E_X2_firstWrongPoint_58, E_X2_firstWrongPoint_59, E_X2_firstWrongPoint_60, E_X2_firstWrongPoint_63, E_X2_firstWrongPoint_66, E_X2_firstWrongPoint_69, E_X2_firstWrongPoint_70, E_X2_firstWrongPoint_73, E_X2_firstWrongPoint_76, E_X2_firstWrongPoint_77, E_X2_firstWrongPoint_80, E_X2_firstWrongPoint_83, E_X2_firstWrongPoint_84, E_X2_firstWrongPoint_87, E_X2_firstWrongPoint_88, zwith_some, zwith_none, zif_true, zaft_inl, Option.toList_some, Option.toList_none, List.cons_append, List.nil_append, zc1_int, zc1_ref, zc1_null, zc1_float, List.length_nil, List.length_cons, Nat.reduceAdd, Nat.reduceLeDiff, Nat.zero_add, z1and, z0and, zl00, zl01, zl02, zl03, ze00, ze10, ze20, ze30, if_true, if_false, cg_ou h ho, hl.1, hn0, not_false_iff, if_true, c, if_false, l1024]
    exact C_first_l h ho hs hl m 0 (by omega)
theorem E_copyI {a b : Nat} {l0 l1 : Value} {p q : Nat → Int32} (ha : zarr st a = some (24, .inl p)) (hb : zarr st b = some (24, .inl q)) : AW X d 12 12 [l0, l1] [.int 24, .int 0, .ref b, .int 0, .ref a] st P = AW X d 12 15 [l0, l1] [] (zsta st b (24, .inl (va_cpy p q 0 0 24))) P := by
  have e : zstep X 12 (.invokestatic 19) 12 [l0, l1] [.int 24, .int 0, .ref b, .int 0, .ref a] st = zcpyi 12 [l0, l1] [.int 24, .int 0, .ref b, .int 0, .ref a] st := by
    unfold zstep
    exact if_pos (show zoc 12 = 2 ∧ 19 = 19 from ⟨zo_X2_copy, rfl⟩)
  refine zAW_st (zd_of zb_X2_copy dX2_copy_12) rfl (e.trans ?_)
  unfold zcpyi
  dsimp only
  rw [ha, hb]
  rfl
theorem C_copy (h : cok st G) (ho : G.live (.ou n)) (hs : G.live (.sk n)) {n2 : Nat} (ho2 : G.live (.ou n2)) (hs2 : G.live (.sk n2)) : AC X (d + 1) 12 [.ref (G.A (.ou n)), .ref (G.A (.ou n2))] (cw st G V) P = P (.inl none) (cw st G (vI (vS V n (va_cpy (V.s n2) (V.s n) 0 0 24)) 7 n (V.i 7 n2))) := by
  have hc := fun {d} {P} {l0 l1 : Value} => E_copyI (X := X) (d := d) (P := P) (l0 := l0) (l1 := l1) ((ca_sk (X := X) h hs2).1 V) ((ca_sk (X := X) h hs).1 V)
  rw [A_X2_copy rfl]
  simp only [E_X2_copy_0, E_X2_copy_0n, E_X2_copy_1, E_X2_copy_4, E_X2_copy_5, E_X2_copy_5n, E_X2_copy_6, E_X2_copy_9, E_X2_copy_10, E_X2_copy_15, E_X2_copy_15n, E_X2_copy_16, E_X2_copy_16n, E_X2_copy_17, E_X2_copy_20, E_X2_copy_23, zwith_some, zwith_none, zif_true, zaft_inl, Option.toList_some, Option.toList_none, List.cons_append, List.nil_append, zc1_int, zc1_ref, zc1_null, zc1_float, List.length_nil, List.length_cons, Nat.reduceAdd, Nat.reduceLeDiff, Nat.zero_add, z1and, z0and, zl00, zl01, zl02, zl03, ze00, ze10, ze20, ze30, if_true, if_false, cg_ou h ho, cg_ou h ho2]
  rw [hc]
  simp only [E_X2_copy_0, E_X2_copy_0n, E_X2_copy_1, E_X2_copy_4, E_X2_copy_5, E_X2_copy_5n, E_X2_copy_6, E_X2_copy_9, E_X2_copy_10, E_X2_copy_15, E_X2_copy_15n, E_X2_copy_16, E_X2_copy_16n, E_X2_copy_17, E_X2_copy_20, E_X2_copy_23, zwith_some, zwith_none, zif_true, zaft_inl, Option.toList_some, Option.toList_none, List.cons_append, List.nil_append, zc1_int, zc1_ref, zc1_null, zc1_float, List.length_nil, List.length_cons, Nat.reduceAdd, Nat.reduceLeDiff, Nat.zero_add, z1and, z0and, zl00, zl01, zl02, zl03, ze00, ze10, ze20, ze30, if_true, if_false, cg_ou h ho, cg_ou h ho2, cp_ou h ho, ca_sk (X := X) h hs, vS_i]
end CO2
