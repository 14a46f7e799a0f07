/-! THE STOCK: pieceOf, the best piece; how the class's pieces are the reference's -/
section CS2
variable {X : ZX} {d : Nat} {st : ZS} {G : CG} {V V' : CV} {P : ZO → ZS → Prop} {x y : Int32} {n m p q : Nat} {R : MR}
def tb (s l t w h : Int32) (c : Nat) : Int32 := if c = 8 then s else if c = 9 then l else if c = 10 then t else if c = 11 then w else if c = 12 then h else 0
/-- a piece n has begun -/
abbrev pcd (G : CG) (V V' : CV) (n : Nat) (o : Option Nat) (s l t w h : Int32) : Prop := CI G V' ∧ fP V V' ∧ V'.i 14 0 = nI (n + 1) ∧ n + 1 ≤ nQ V' ∧ (∀ c q, 8 ≤ c → c ≤ 13 → V'.i c q = if q = n then tb s l t w h c else V.i c q) ∧ ∀ a q, 1 ≤ a → a ≤ 4 → V'.r a q = if q = n then (if a = 1 then o else none) else V.r a q
theorem vB_i {o : Option Nat} {s l t w hh : Int32} {c : Nat} (h : ¬ ((8 ≤ c ∧ c ≤ 13) ∧ q = n)) : (vB V n o s l t w hh).i c q = V.i c q := by
  unfold vB vJ
  rw [vR_i, vR_i, vR_i, vI_oo (by omega), vI_oo (by omega), vI_oo (by omega), vI_oo (by omega), vI_oo (by omega), vI_oo (by omega), vR_i]
theorem vB_i' {o : Option Nat} {s l t w hh : Int32} {c : Nat} (h8 : 8 ≤ c) (h13 : c ≤ 13) : (vB V n o s l t w hh).i c n = tb s l t w hh c := by
  unfold vB vJ tb
  rw [vR_i, vR_i, vR_i]
  have : c = 8 ∨ c = 9 ∨ c = 10 ∨ c = 11 ∨ c = 12 ∨ c = 13 := by omega
  rcases this with rfl | rfl | rfl | rfl | rfl | rfl
  · rw [vI_oo (by omega), vI_oo (by omega), vI_oo (by omega), vI_oo (by omega), vI_oo (by omega), vI_ss, if_pos rfl]
  · rw [vI_oo (by omega), vI_oo (by omega), vI_oo (by omega), vI_oo (by omega), vI_ss]; rfl
  · rw [vI_oo (by omega), vI_oo (by omega), vI_oo (by omega), vI_ss]; rfl
  · rw [vI_oo (by omega), vI_oo (by omega), vI_ss]; rfl
  · rw [vI_oo (by omega), vI_ss]; rfl
  · rw [vI_ss]; rfl
theorem vB_r {o : Option Nat} {s l t w hh : Int32} {a : Nat} : (vB V n o s l t w hh).r a q = if q = n ∧ (1 ≤ a ∧ a ≤ 4) then (if a = 1 then o else none) else V.r a q := by
  show (if a = 4 ∧ q = n then none else if a = 3 ∧ q = n then none else if a = 2 ∧ q = n then none else if a = 1 ∧ q = n then o else V.r a q) = _
  by_cases e : q = n
  · by_cases e4 : a = 4
    · rw [if_pos ⟨e4, e⟩, if_pos ⟨e, by omega⟩, if_neg (by omega)]
    · rw [if_neg (fun z => e4 z.1)]
      by_cases e3 : a = 3
      · rw [if_pos ⟨e3, e⟩, if_pos ⟨e, by omega⟩, if_neg (by omega)]
      · rw [if_neg (fun z => e3 z.1)]
        by_cases e2 : a = 2
        · rw [if_pos ⟨e2, e⟩, if_pos ⟨e, by omega⟩, if_neg (by omega)]
        · rw [if_neg (fun z => e2 z.1)]
          by_cases e1 : a = 1
          · rw [if_pos ⟨e1, e⟩, if_pos ⟨e, by omega⟩, if_pos e1]
          · rw [if_neg (fun z => e1 z.1), if_neg (fun z => by omega)]
  · rw [if_neg (fun z => e z.2), if_neg (fun z => e z.2), if_neg (fun z => e z.2), if_neg (fun z => e z.2), if_neg (fun z => e z.1)]
theorem pcd_of {o : Option Nat} {s l t w hh : Int32} (hx : nxt G V V' n) (ho : ∀ q, o = some q → q < n) : pcd G V (vB V' n o s l t w hh) n o s l t w hh := by
  obtain ⟨I, F, h1, h2, h3, h4⟩ := hx
  have e1 : ∀ k, (vB V' n o s l t w hh).i 1 k = V'.i 1 k := fun k => vB_i (by omega)
  have eq : nQ (vB V' n o s l t w hh) = nQ V' := congrArg tN (e1 3)
  refine ⟨I.o e1 rfl rfl ?_ ?_ ?_, ⟨?_, ⟨?_, ?_⟩, ?_, F.e, F.s, F.u, ?_⟩, ?_, ?_, ?_, ?_⟩
  · intro j _
    rw [vB_r, if_neg (by omega)]
  · intro p hp a q ha hq
    rw [vB_r] at hq
    split at hq
    · split at hq
      · have := ho q hq
        omega
      · cases hq
    · exact I.pr p hp a q ha hq
  · intro p q hp hq
    rw [vB_r] at hq
    split at hq
    · rename_i c
      rw [if_pos rfl] at hq
      have := ho q hq
      omega
    · exact I.pw p q hp hq
  · intro c j hc hj
    rw [vB_i (by omega)]
    exact F.i c j hc hj
  · rw [vB_i (by omega)]; exact F.w.1
  · rw [vB_i (by omega)]; exact F.w.2
  · intro j
    rw [vB_r, if_neg (by omega)]
    exact F.r j
  · rw [eq]; exact F.qq
  · rw [vB_i (by omega)]; exact h1
  · rw [eq]; exact h2
  · intro c q h8 h13
    by_cases e : q = n
    · rw [if_pos e, e]
      exact vB_i' h8 h13
    · rw [if_neg e, vB_i (fun z => e z.2)]
      exact h3 q c e h8 h13
  · intro a q ha1 ha4
    rw [vB_r]
    by_cases e : q = n
    · rw [if_pos ⟨e, ha1, ha4⟩, if_pos e]
    · rw [if_neg (fun z => e z.1), if_neg e]
      exact h4 q a e
theorem pot_vB {o : Option Nat} {s l t w hh : Int32} : pot (vB V n o s l t w hh) = pot V := rfl
theorem C_pieceOf (h : cok st G) (I : CI G V) (hn : V.i 14 0 = nI n) (hq : n ≤ nQ V) (h4 : n < 400) (hp : p < n) {l t w hh : Int32} (K : ∀ st' G' V', Sta st G V st' G' V' → pcd G' V V' n (some p) (V.i 8 p) l t w hh → P (.inl (some (.ref (G'.A (.pc n))))) (cw st' G' V')) : AC X (d + 8) 43 [.ref (G.A .stk), .ref (G.A (.pc p)), .int l, .int t, .int w, .int hh] (cw st G V) P := by
  rw [A_X4_pieceOf rfl]
  simp only [E_X4_pieceOf_0, E_X4_pieceOf_0n, E_X4_pieceOf_1, E_X4_pieceOf_4, E_X4_pieceOf_4n, E_X4_pieceOf_6, E_X4_pieceOf_6n, E_X4_pieceOf_8, E_X4_pieceOf_8n, E_X4_pieceOf_9, E_X4_pieceOf_9n, E_X4_pieceOf_10, E_X4_pieceOf_13, E_X4_pieceOf_14, E_X4_pieceOf_15, E_X4_pieceOf_17, E_X4_pieceOf_19, E_X4_pieceOf_22, E_X4_pieceOf_22n, E_X4_pieceOf_24, E_X4_pieceOf_24n, zwith_some, zwith_none, zif_true, zaft_inl, Option.toList_some, Option.toList_none, List.cons_append, List.nil_append, zc1_int, zc1_ref, zc1_null, zc1_float, List.length_nil, List.length_cons, Nat.reduceAdd, Nat.reduceLeDiff, Nat.zero_add, z1and, z0and, zl00, zl01, zl02, zl03, ze00, ze10, ze20, ze30, if_true, if_false, cis_stk h I.stk]
  refine C_next h I hn hq h4 ?_
  intro st' G' V' S hx
  have hlp : G.live (.pc p) := I.pc (by omega)
  have hlp' := S.ex.lv _ hlp
  have eA := S.ex.A (.pc p) (by show (8 : Nat) ≠ 3; decide) hlp
  have hln : G'.live (.pc n) := hx.1.pc (by have := hx.2.2.2.1; omega)
  have e8 : V'.i 8 p = V.i 8 p := hx.2.2.2.2.1 p 8 (by omega) (by decide) (by decide)
  have hb := fun {d} {P} => C_begin (X := X) (d := d) (P := P) (V := V') (o := some p) (s := V.i 8 p) (l := l) (t := t) (w := w) (hh := hh) S.ok hln
  rw [rfv_s] at hb
  simp only [E_X4_pieceOf_0, E_X4_pieceOf_0n, E_X4_pieceOf_1, E_X4_pieceOf_4, E_X4_pieceOf_4n, E_X4_pieceOf_6, E_X4_pieceOf_6n, E_X4_pieceOf_8, E_X4_pieceOf_8n, E_X4_pieceOf_9, E_X4_pieceOf_9n, E_X4_pieceOf_10, E_X4_pieceOf_13, E_X4_pieceOf_14, E_X4_pieceOf_15, E_X4_pieceOf_17, E_X4_pieceOf_19, E_X4_pieceOf_22, E_X4_pieceOf_22n, E_X4_pieceOf_24, E_X4_pieceOf_24n, zwith_some, zwith_none, zif_true, zaft_inl, Option.toList_some, Option.toList_none, List.cons_append, List.nil_append, zc1_int, zc1_ref, zc1_null, zc1_float, List.length_nil, List.length_cons, Nat.reduceAdd, Nat.reduceLeDiff, Nat.zero_add, z1and, z0and, zl00, zl01, zl02, zl03, ze00, ze10, ze20, ze30, if_true, if_false]
  rw [← eA]
  simp only [E_X4_pieceOf_0, E_X4_pieceOf_0n, E_X4_pieceOf_1, E_X4_pieceOf_4, E_X4_pieceOf_4n, E_X4_pieceOf_6, E_X4_pieceOf_6n, E_X4_pieceOf_8, E_X4_pieceOf_8n, E_X4_pieceOf_9, E_X4_pieceOf_9n, E_X4_pieceOf_10, E_X4_pieceOf_13, E_X4_pieceOf_14, E_X4_pieceOf_15, E_X4_pieceOf_17, E_X4_pieceOf_19, E_X4_pieceOf_22, E_X4_pieceOf_22n, E_X4_pieceOf_24, E_X4_pieceOf_24n, zwith_some, zwith_none, zif_true, zaft_inl, Option.toList_some, Option.toList_none, List.cons_append, List.nil_append, zc1_int, zc1_ref, zc1_null, zc1_float, List.length_nil, List.length_cons, Nat.reduceAdd, Nat.reduceLeDiff, Nat.zero_add, z1and, z0and, zl00, zl01, zl02, zl03, ze00, ze10, ze20, ze30, if_true, if_false, cg_pc S.ok hlp', cis_pc S.ok hln, e8, hb]
  exact K st' G' _ ⟨S.ex, S.pt⟩ (pcd_of hx (fun q hq => by cases hq; exact hp))
/-- one piece of the class is the reference's; n: how many there are -/
abbrev PR (V : CV) (R : MR) (n p : Nat) : Prop := (∀ c, 8 ≤ c → c ≤ 13 → V.i c p = R.1 (c - 2) p) ∧ ((V.r 1 p = none ∧ R.1 12 p < 0) ∨ ∃ q, q < p ∧ V.r 1 p = some q ∧ R.1 12 p = nI q) ∧ (R.1 11 p = 2 → ∀ q, q < n → ((R.1 12 q = nI p ∧ R.1 11 q ≠ 3) ↔ (V.r 2 p = some q ∨ V.r 3 p = some q ∨ V.r 4 p = some q))) ∧ (R.1 11 p = 2 → ∀ a q, (a = 2 ∨ a = 3 ∨ a = 4) → V.r a p = some q → q < n) ∧ (R.1 11 p ≠ 2 → ∀ a, (a = 2 ∨ a = 3 ∨ a = 4) → V.r a p = none)
theorem PR.v (h : PR V R n p) : ∀ c, 8 ≤ c → c ≤ 13 → V.i c p = R.1 (c - 2) p := h.1
theorem PR.w (h : PR V R n p) : (V.r 1 p = none ∧ R.1 12 p < 0) ∨ ∃ q, q < p ∧ V.r 1 p = some q ∧ R.1 12 p = nI q := h.2.1
theorem PR.ch (h : PR V R n p) : R.1 11 p = 2 → ∀ q, q < n → ((R.1 12 q = nI p ∧ R.1 11 q ≠ 3) ↔ (V.r 2 p = some q ∨ V.r 3 p = some q ∨ V.r 4 p = some q)) := h.2.2.1
theorem PR.lt (h : PR V R n p) : R.1 11 p = 2 → ∀ a q, (a = 2 ∨ a = 3 ∨ a = 4) → V.r a p = some q → q < n := h.2.2.2.1
theorem PR.no (h : PR V R n p) : R.1 11 p ≠ 2 → ∀ a, (a = 2 ∨ a = 3 ∨ a = 4) → V.r a p = none := h.2.2.2.2
abbrev PI (V : CV) (R : MR) (n : Nat) : Prop := V.i 14 0 = nI n ∧ (n ≤ nQ V ∧ n ≤ 400) ∧ ∀ p, p < n → PR V R n p
theorem PI.n0 (h : PI V R n) : V.i 14 0 = nI n := h.1
theorem PI.le (h : PI V R n) : n ≤ nQ V ∧ n ≤ 400 := h.2.1
theorem PI.pp (h : PI V R n) : ∀ p, p < n → PR V R n p := h.2.2
theorem C_best_l (h : cok st G) (I : CI G V) (J : PI V R n) {w hh : Int32} : ∀ (k i : Nat) (l5 : Value), i + k = n → AW X (d + 3) 44 5 [.ref (G.A .stk), .int w, .int hh, rfv G.A .pc (bst R w hh i), .int (nI i), l5] [] (cw st G V) P = P (.inl (some (rfv G.A .pc (bst R w hh n)))) (cw st G V) := by
  have h4 := J.le.2
  have hQ := J.le.1
  have hQ4 := I.lq.2.1
  have hal := I.al (n := 3) (by omega)
  intro k
  induction k with
  | zero =>
    intro i l5 hi
    have e : i = n := by omega
    subst e
    have hle : nI i ≤ nI i := nI_le (Nat.le_refl _) (by omega)
    rw [E_X4_bestFor_5]
    simp only [E_X4_bestFor_0, E_X4_bestFor_1, E_X4_bestFor_1n, E_X4_bestFor_2, E_X4_bestFor_3, E_X4_bestFor_7, E_X4_bestFor_7n, E_X4_bestFor_8, E_X4_bestFor_11, E_X4_bestFor_14, E_X4_bestFor_16, E_X4_bestFor_16n, E_X4_bestFor_17, E_X4_bestFor_20, E_X4_bestFor_23, E_X4_bestFor_26, E_X4_bestFor_26n, E_X4_bestFor_27, E_X4_bestFor_30, E_X4_bestFor_32, E_X4_bestFor_35, E_X4_bestFor_35n, E_X4_bestFor_38, E_X4_bestFor_38n, E_X4_bestFor_40, E_X4_bestFor_40n, E_X4_bestFor_42, E_X4_bestFor_43, E_X4_bestFor_44, E_X4_bestFor_47, E_X4_bestFor_50, E_X4_bestFor_50n, E_X4_bestFor_51, E_X4_bestFor_51n, E_X4_bestFor_54, E_X4_bestFor_54n, E_X4_bestFor_56, E_X4_bestFor_59, E_X4_bestFor_59n, E_X4_bestFor_60, E_X4_bestFor_63, E_X4_bestFor_66, E_X4_bestFor_66n, E_X4_bestFor_68, E_X4_bestFor_68n, E_X4_bestFor_69, E_X4_bestFor_72, E_X4_bestFor_75, E_X4_bestFor_75n, E_X4_bestFor_76, E_X4_bestFor_76n, zwith_some, zwith_none, zif_true, zaft_inl, Option.toList_some, Option.toList_none, List.cons_append, List.nil_append, zc1_int, zc1_ref, zc1_null, zc1_float, List.length_nil, List.length_cons, Nat.reduceAdd, Nat.reduceLeDiff, Nat.zero_add, z1and, z0and, zl00, zl01, zl02, zl03, ze00, ze10, ze20, ze30, if_true, if_false, cg_stk h I.stk, J.n0, hle]
    cases e : bst R w hh i with
    | none => simp only [rfv_n, E_X4_bestFor_0, E_X4_bestFor_1, E_X4_bestFor_1n, E_X4_bestFor_2, E_X4_bestFor_3, E_X4_bestFor_7, E_X4_bestFor_7n, E_X4_bestFor_8, E_X4_bestFor_11, E_X4_bestFor_14, E_X4_bestFor_16, E_X4_bestFor_16n, E_X4_bestFor_17, E_X4_bestFor_20, E_X4_bestFor_23, E_X4_bestFor_26, E_X4_bestFor_26n, E_X4_bestFor_27, E_X4_bestFor_30, E_X4_bestFor_32, E_X4_bestFor_35, E_X4_bestFor_35n, E_X4_bestFor_38, E_X4_bestFor_38n, E_X4_bestFor_40, E_X4_bestFor_40n, E_X4_bestFor_42, E_X4_bestFor_43, E_X4_bestFor_44, E_X4_bestFor_47, E_X4_bestFor_50, E_X4_bestFor_50n, E_X4_bestFor_51, E_X4_bestFor_51n, E_X4_bestFor_54, E_X4_bestFor_54n, E_X4_bestFor_56, E_X4_bestFor_59, E_X4_bestFor_59n, E_X4_bestFor_60, E_X4_bestFor_63, E_X4_bestFor_66, E_X4_bestFor_66n, E_X4_bestFor_68, E_X4_bestFor_68n, E_X4_bestFor_69, E_X4_bestFor_72, E_X4_bestFor_75, E_X4_bestFor_75n, E_X4_bestFor_76, E_X4_bestFor_76n, zwith_some, zwith_none, zif_true, zaft_inl, Option.toList_some, Option.toList_none, List.cons_append, List.nil_append, zc1_int, zc1_ref, zc1_null, zc1_float, List.length_nil, List.length_cons, Nat.reduceAdd, Nat.reduceLeDiff, Nat.zero_add, z1and, z0and, zl00, zl01, zl02, zl03, ze00, ze10, ze20, ze30, if_true, if_false]
    | some b => simp only [rfv_s, E_X4_bestFor_0, E_X4_bestFor_1, E_X4_bestFor_1n, E_X4_bestFor_2, E_X4_bestFor_3, E_X4_bestFor_7, E_X4_bestFor_7n, E_X4_bestFor_8, E_X4_bestFor_11, E_X4_bestFor_14, E_X4_bestFor_16, E_X4_bestFor_16n, E_X4_bestFor_17, E_X4_bestFor_20, E_X4_bestFor_23, E_X4_bestFor_26, E_X4_bestFor_26n, E_X4_bestFor_27, E_X4_bestFor_30, E_X4_bestFor_32, E_X4_bestFor_35, E_X4_bestFor_35n, E_X4_bestFor_38, E_X4_bestFor_38n, E_X4_bestFor_40, E_X4_bestFor_40n, E_X4_bestFor_42, E_X4_bestFor_43, E_X4_bestFor_44, E_X4_bestFor_47, E_X4_bestFor_50, E_X4_bestFor_50n, E_X4_bestFor_51, E_X4_bestFor_51n, E_X4_bestFor_54, E_X4_bestFor_54n, E_X4_bestFor_56, E_X4_bestFor_59, E_X4_bestFor_59n, E_X4_bestFor_60, E_X4_bestFor_63, E_X4_bestFor_66, E_X4_bestFor_66n, E_X4_bestFor_68, E_X4_bestFor_68n, E_X4_bestFor_69, E_X4_bestFor_72, E_X4_bestFor_75, E_X4_bestFor_75n, E_X4_bestFor_76, E_X4_bestFor_76n, zwith_some, zwith_none, zif_true, zaft_inl, Option.toList_some, Option.toList_none, List.cons_append, List.nil_append, zc1_int, zc1_ref, zc1_null, zc1_float, List.length_nil, List.length_cons, Nat.reduceAdd, Nat.reduceLeDiff, Nat.zero_add, z1and, z0and, zl00, zl01, zl02, zl03, ze00, ze10, ze20, ze30, if_true, if_false]
  | succ k ih =>
    intro i l5 hi
    have hin : i < nQ V := by omega
    have ih := ih (i + 1) (.ref (G.A (.pc i))) (by omega)
    have hlt : ¬ nI n ≤ nI i := nI_ge (by omega) (by omega)
    have hlt2 : ¬ nI (nQ V) ≤ nI i := nI_ge (by omega) (by omega)
    have hg := fun {d} {P} => C_get (X := X) (d := d) (P := P) (V := V) (q := i) h hal (I.gr I.lq.1 (by omega) (show 0 < nQ V by omega)) I.lq.1 hin (I.lq.2.2 i hin)
    rw [show ek 3 i = CK.pc i from rfl] at hg
    have hli := I.pc hin
    have hb := bst_lt (R := R) (w := w) (hh := hh) i
    have hPi := (J.pp i (by omega)).v
    have eh : hdV V i w hh = (decide (R.1 11 i = 0) && (decide (w ≤ R.1 9 i) && decide (hh ≤ R.1 10 i))) := by
      unfold hdV
      rw [hPi 13 (by decide) (by decide), hPi 11 (by decide) (by decide), hPi 12 (by decide) (by decide)]
    have es : bst R w hh (i + 1) = if (R.1 11 i = 0 ∧ w ≤ R.1 9 i ∧ hh ≤ R.1 10 i) ∧ bta R i (bst R w hh i) = true then some i else bst R w hh i := rfl
    rw [es] at ih
    have ea : V.i 11 i * V.i 12 i = R.1 9 i * R.1 10 i := by rw [hPi 11 (by decide) (by decide), hPi 12 (by decide) (by decide)]
    have eab : ∀ b, bst R w hh i = some b → V.i 11 b * V.i 12 b = R.1 9 b * R.1 10 b := fun b hb' => by
      have hPb := (J.pp b (by have := (hb b hb').1; omega)).v
      rw [hPb 11 (by decide) (by decide), hPb 12 (by decide) (by decide)]
    rw [E_X4_bestFor_5]
    simp only [E_X4_bestFor_0, E_X4_bestFor_1, E_X4_bestFor_1n, E_X4_bestFor_2, E_X4_bestFor_3, E_X4_bestFor_7, E_X4_bestFor_7n, E_X4_bestFor_8, E_X4_bestFor_11, E_X4_bestFor_14, E_X4_bestFor_16, E_X4_bestFor_16n, E_X4_bestFor_17, E_X4_bestFor_20, E_X4_bestFor_23, E_X4_bestFor_26, E_X4_bestFor_26n, E_X4_bestFor_27, E_X4_bestFor_30, E_X4_bestFor_32, E_X4_bestFor_35, E_X4_bestFor_35n, E_X4_bestFor_38, E_X4_bestFor_38n, E_X4_bestFor_40, E_X4_bestFor_40n, E_X4_bestFor_42, E_X4_bestFor_43, E_X4_bestFor_44, E_X4_bestFor_47, E_X4_bestFor_50, E_X4_bestFor_50n, E_X4_bestFor_51, E_X4_bestFor_51n, E_X4_bestFor_54, E_X4_bestFor_54n, E_X4_bestFor_56, E_X4_bestFor_59, E_X4_bestFor_59n, E_X4_bestFor_60, E_X4_bestFor_63, E_X4_bestFor_66, E_X4_bestFor_66n, E_X4_bestFor_68, E_X4_bestFor_68n, E_X4_bestFor_69, E_X4_bestFor_72, E_X4_bestFor_75, E_X4_bestFor_75n, E_X4_bestFor_76, E_X4_bestFor_76n, zwith_some, zwith_none, zif_true, zaft_inl, Option.toList_some, Option.toList_none, List.cons_append, List.nil_append, zc1_int, zc1_ref, zc1_null, zc1_float, List.length_nil, List.length_cons, Nat.reduceAdd, Nat.reduceLeDiff, Nat.zero_add, z1and, z0and, zl00, zl01, zl02, zl03, ze00, ze10, ze20, ze30, if_true, if_false, cg_stk h I.stk, J.n0, hlt, cis_al h hal, C_size h hal, I.lq.1.sz, hlt2, hg, cis_pc h hli, C_holds h hli, eh, bN_eq0]
    by_cases c : R.1 11 i = 0 ∧ w ≤ R.1 9 i ∧ hh ≤ R.1 10 i
    · rw [if_neg (by simp [c.1, c.2.1, c.2.2])]
      cases e : bst R w hh i with
      | none =>
        rw [e, if_pos ⟨c, rfl⟩, rfv_s] at ih
        simp only [rfv_n, E_X4_bestFor_0, E_X4_bestFor_1, E_X4_bestFor_1n, E_X4_bestFor_2, E_X4_bestFor_3, E_X4_bestFor_7, E_X4_bestFor_7n, E_X4_bestFor_8, E_X4_bestFor_11, E_X4_bestFor_14, E_X4_bestFor_16, E_X4_bestFor_16n, E_X4_bestFor_17, E_X4_bestFor_20, E_X4_bestFor_23, E_X4_bestFor_26, E_X4_bestFor_26n, E_X4_bestFor_27, E_X4_bestFor_30, E_X4_bestFor_32, E_X4_bestFor_35, E_X4_bestFor_35n, E_X4_bestFor_38, E_X4_bestFor_38n, E_X4_bestFor_40, E_X4_bestFor_40n, E_X4_bestFor_42, E_X4_bestFor_43, E_X4_bestFor_44, E_X4_bestFor_47, E_X4_bestFor_50, E_X4_bestFor_50n, E_X4_bestFor_51, E_X4_bestFor_51n, E_X4_bestFor_54, E_X4_bestFor_54n, E_X4_bestFor_56, E_X4_bestFor_59, E_X4_bestFor_59n, E_X4_bestFor_60, E_X4_bestFor_63, E_X4_bestFor_66, E_X4_bestFor_66n, E_X4_bestFor_68, E_X4_bestFor_68n, E_X4_bestFor_69, E_X4_bestFor_72, E_X4_bestFor_75, E_X4_bestFor_75n, E_X4_bestFor_76, E_X4_bestFor_76n, zwith_some, zwith_none, zif_true, zaft_inl, Option.toList_some, Option.toList_none, List.cons_append, List.nil_append, zc1_int, zc1_ref, zc1_null, zc1_float, List.length_nil, List.length_cons, Nat.reduceAdd, Nat.reduceLeDiff, Nat.zero_add, z1and, z0and, zl00, zl01, zl02, zl03, ze00, ze10, ze20, ze30, if_true, if_false, nI_1]
        exact ih
      | some b =>
        have hlb := I.pc (show b < nQ V by have := (hb b e).1; omega)
        rw [e] at ih
        simp only [rfv_s, E_X4_bestFor_0, E_X4_bestFor_1, E_X4_bestFor_1n, E_X4_bestFor_2, E_X4_bestFor_3, E_X4_bestFor_7, E_X4_bestFor_7n, E_X4_bestFor_8, E_X4_bestFor_11, E_X4_bestFor_14, E_X4_bestFor_16, E_X4_bestFor_16n, E_X4_bestFor_17, E_X4_bestFor_20, E_X4_bestFor_23, E_X4_bestFor_26, E_X4_bestFor_26n, E_X4_bestFor_27, E_X4_bestFor_30, E_X4_bestFor_32, E_X4_bestFor_35, E_X4_bestFor_35n, E_X4_bestFor_38, E_X4_bestFor_38n, E_X4_bestFor_40, E_X4_bestFor_40n, E_X4_bestFor_42, E_X4_bestFor_43, E_X4_bestFor_44, E_X4_bestFor_47, E_X4_bestFor_50, E_X4_bestFor_50n, E_X4_bestFor_51, E_X4_bestFor_51n, E_X4_bestFor_54, E_X4_bestFor_54n, E_X4_bestFor_56, E_X4_bestFor_59, E_X4_bestFor_59n, E_X4_bestFor_60, E_X4_bestFor_63, E_X4_bestFor_66, E_X4_bestFor_66n, E_X4_bestFor_68, E_X4_bestFor_68n, E_X4_bestFor_69, E_X4_bestFor_72, E_X4_bestFor_75, E_X4_bestFor_75n, E_X4_bestFor_76, E_X4_bestFor_76n, zwith_some, zwith_none, zif_true, zaft_inl, Option.toList_some, Option.toList_none, List.cons_append, List.nil_append, zc1_int, zc1_ref, zc1_null, zc1_float, List.length_nil, List.length_cons, Nat.reduceAdd, Nat.reduceLeDiff, Nat.zero_add, z1and, z0and, zl00, zl01, zl02, zl03, ze00, ze10, ze20, ze30, if_true, if_false, cis_pc h hli, cis_pc h hlb, C_area h hli, C_area h hlb, ea, eab b e]
        by_cases c4 : R.1 9 i * R.1 10 i < R.1 9 b * R.1 10 b
        · rw [if_pos ⟨c, decide_eq_true c4⟩, rfv_s] at ih
          simp only [Int32.not_le.mpr c4, if_false, E_X4_bestFor_0, E_X4_bestFor_1, E_X4_bestFor_1n, E_X4_bestFor_2, E_X4_bestFor_3, E_X4_bestFor_7, E_X4_bestFor_7n, E_X4_bestFor_8, E_X4_bestFor_11, E_X4_bestFor_14, E_X4_bestFor_16, E_X4_bestFor_16n, E_X4_bestFor_17, E_X4_bestFor_20, E_X4_bestFor_23, E_X4_bestFor_26, E_X4_bestFor_26n, E_X4_bestFor_27, E_X4_bestFor_30, E_X4_bestFor_32, E_X4_bestFor_35, E_X4_bestFor_35n, E_X4_bestFor_38, E_X4_bestFor_38n, E_X4_bestFor_40, E_X4_bestFor_40n, E_X4_bestFor_42, E_X4_bestFor_43, E_X4_bestFor_44, E_X4_bestFor_47, E_X4_bestFor_50, E_X4_bestFor_50n, E_X4_bestFor_51, E_X4_bestFor_51n, E_X4_bestFor_54, E_X4_bestFor_54n, E_X4_bestFor_56, E_X4_bestFor_59, E_X4_bestFor_59n, E_X4_bestFor_60, E_X4_bestFor_63, E_X4_bestFor_66, E_X4_bestFor_66n, E_X4_bestFor_68, E_X4_bestFor_68n, E_X4_bestFor_69, E_X4_bestFor_72, E_X4_bestFor_75, E_X4_bestFor_75n, E_X4_bestFor_76, E_X4_bestFor_76n, zwith_some, zwith_none, zif_true, zaft_inl, Option.toList_some, Option.toList_none, List.cons_append, List.nil_append, zc1_int, zc1_ref, zc1_null, zc1_float, List.length_nil, List.length_cons, Nat.reduceAdd, Nat.reduceLeDiff, Nat.zero_add, z1and, z0and, zl00, zl01, zl02, zl03, ze00, ze10, ze20, ze30, if_true, if_false, nI_1]
          exact ih
        · rw [if_neg (fun z => c4 (of_decide_eq_true z.2)), rfv_s] at ih
          simp only [Int32.not_lt.mp c4, if_true, E_X4_bestFor_0, E_X4_bestFor_1, E_X4_bestFor_1n, E_X4_bestFor_2, E_X4_bestFor_3, E_X4_bestFor_7, E_X4_bestFor_7n, E_X4_bestFor_8, E_X4_bestFor_11, E_X4_bestFor_14, E_X4_bestFor_16, E_X4_bestFor_16n, E_X4_bestFor_17, E_X4_bestFor_20, E_X4_bestFor_23, E_X4_bestFor_26, E_X4_bestFor_26n, E_X4_bestFor_27, E_X4_bestFor_30, E_X4_bestFor_32, E_X4_bestFor_35, E_X4_bestFor_35n, E_X4_bestFor_38, E_X4_bestFor_38n, E_X4_bestFor_40, E_X4_bestFor_40n, E_X4_bestFor_42, E_X4_bestFor_43, E_X4_bestFor_44, E_X4_bestFor_47, E_X4_bestFor_50, E_X4_bestFor_50n, E_X4_bestFor_51, E_X4_bestFor_51n, E_X4_bestFor_54, E_X4_bestFor_54n, E_X4_bestFor_56, E_X4_bestFor_59, E_X4_bestFor_59n, E_X4_bestFor_60, E_X4_bestFor_63, E_X4_bestFor_66, E_X4_bestFor_66n, E_X4_bestFor_68, E_X4_bestFor_68n, E_X4_bestFor_69, E_X4_bestFor_72, E_X4_bestFor_75, E_X4_bestFor_75n, E_X4_bestFor_76, E_X4_bestFor_76n, zwith_some, zwith_none, zif_true, zaft_inl, Option.toList_some, Option.toList_none, List.cons_append, List.nil_append, zc1_int, zc1_ref, zc1_null, zc1_float, List.length_nil, List.length_cons, Nat.reduceAdd, Nat.reduceLeDiff, Nat.zero_add, z1and, z0and, zl00, zl01, zl02, zl03, ze00, ze10, ze20, ze30, if_true, if_false, nI_1]
          exact ih
    · rw [if_neg (fun z => c z.1)] at ih
      rw [if_pos (by
        cases z : (decide (R.1 11 i = 0) && (decide (w ≤ R.1 9 i) && decide (hh ≤ R.1 10 i))) with
        | false => rfl
        | true =>
          rw [Bool.and_eq_true, Bool.and_eq_true] at z
          exact absurd ⟨of_decide_eq_true z.1, of_decide_eq_true z.2.1, of_decide_eq_true z.2.2⟩ c)]
      simp only [E_X4_bestFor_0, E_X4_bestFor_1, E_X4_bestFor_1n, E_X4_bestFor_2, E_X4_bestFor_3, E_X4_bestFor_7, E_X4_bestFor_7n, E_X4_bestFor_8, E_X4_bestFor_11, E_X4_bestFor_14, E_X4_bestFor_16, E_X4_bestFor_16n, E_X4_bestFor_17, E_X4_bestFor_20, E_X4_bestFor_23, E_X4_bestFor_26, E_X4_bestFor_26n, E_X4_bestFor_27, E_X4_bestFor_30, E_X4_bestFor_32, E_X4_bestFor_35, E_X4_bestFor_35n, E_X4_bestFor_38, E_X4_bestFor_38n, E_X4_bestFor_40, E_X4_bestFor_40n, E_X4_bestFor_42, E_X4_bestFor_43, E_X4_bestFor_44, E_X4_bestFor_47, E_X4_bestFor_50, E_X4_bestFor_50n, E_X4_bestFor_51, E_X4_bestFor_51n, E_X4_bestFor_54, E_X4_bestFor_54n, E_X4_bestFor_56, E_X4_bestFor_59, E_X4_bestFor_59n, E_X4_bestFor_60, E_X4_bestFor_63, E_X4_bestFor_66, E_X4_bestFor_66n, E_X4_bestFor_68, E_X4_bestFor_68n, E_X4_bestFor_69, E_X4_bestFor_72, E_X4_bestFor_75, E_X4_bestFor_75n, E_X4_bestFor_76, E_X4_bestFor_76n, zwith_some, zwith_none, zif_true, zaft_inl, Option.toList_some, Option.toList_none, List.cons_append, List.nil_append, zc1_int, zc1_ref, zc1_null, zc1_float, List.length_nil, List.length_cons, Nat.reduceAdd, Nat.reduceLeDiff, Nat.zero_add, z1and, z0and, zl00, zl01, zl02, zl03, ze00, ze10, ze20, ze30, if_true, if_false, nI_1]
      exact ih
theorem C_best (h : cok st G) (I : CI G V) (J : PI V R n) {w hh : Int32} : AC X (d + 4) 44 [.ref (G.A .stk), .int w, .int hh] (cw st G V) P = P (.inl (some (rfv G.A .pc (bst R w hh n)))) (cw st G V) := by
  rw [A_X4_bestFor]
  simp only [E_X4_bestFor_0, E_X4_bestFor_1, E_X4_bestFor_1n, E_X4_bestFor_2, E_X4_bestFor_3, E_X4_bestFor_7, E_X4_bestFor_7n, E_X4_bestFor_8, E_X4_bestFor_11, E_X4_bestFor_14, E_X4_bestFor_16, E_X4_bestFor_16n, E_X4_bestFor_17, E_X4_bestFor_20, E_X4_bestFor_23, E_X4_bestFor_26, E_X4_bestFor_26n, E_X4_bestFor_27, E_X4_bestFor_30, E_X4_bestFor_32, E_X4_bestFor_35, E_X4_bestFor_35n, E_X4_bestFor_38, E_X4_bestFor_38n, E_X4_bestFor_40, E_X4_bestFor_40n, E_X4_bestFor_42, E_X4_bestFor_43, E_X4_bestFor_44, E_X4_bestFor_47, E_X4_bestFor_50, E_X4_bestFor_50n, E_X4_bestFor_51, E_X4_bestFor_51n, E_X4_bestFor_54, E_X4_bestFor_54n, E_X4_bestFor_56, E_X4_bestFor_59, E_X4_bestFor_59n, E_X4_bestFor_60, E_X4_bestFor_63, E_X4_bestFor_66, E_X4_bestFor_66n, E_X4_bestFor_68, E_X4_bestFor_68n, E_X4_bestFor_69, E_X4_bestFor_72, E_X4_bestFor_75, E_X4_bestFor_75n, E_X4_bestFor_76, E_X4_bestFor_76n, zwith_some, zwith_none, zif_true, zaft_inl, Option.toList_some, Option.toList_none, List.cons_append, List.nil_append, zc1_int, zc1_ref, zc1_null, zc1_float, List.length_nil, List.length_cons, Nat.reduceAdd, Nat.reduceLeDiff, Nat.zero_add, z1and, z0and, zl00, zl01, zl02, zl03, ze00, ze10, ze20, ze30, if_true, if_false]
  exact C_best_l h I J n 0 _ (by omega)
end CS2
