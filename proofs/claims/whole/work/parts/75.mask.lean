/-! redraw: sheets as bits -/
def bt (x : Int32) (i : Nat) : Bool := x.toBitVec.getLsbD i
theorem b_ext {x y : Int32} (h : ∀ i, i < 32 → bt x i = bt y i) : x = y := Int32.toBitVec_inj.mp (BitVec.eq_of_getLsbD_eq (fun i hi => h i hi))
theorem b_or (x y : Int32) (i : Nat) : bt (x ||| y) i = (bt x i || bt y i) := by unfold bt; rw [Int32.toBitVec_or, BitVec.getLsbD_or]
theorem b_and (x y : Int32) (i : Nat) : bt (x &&& y) i = (bt x i && bt y i) := by unfold bt; rw [Int32.toBitVec_and, BitVec.getLsbD_and]
theorem b_0 (i : Nat) : bt 0 i = false := BitVec.getLsbD_zero
theorem b_one : ∀ s, s < 8 → ∀ b, b < 32 → bt ((1 : Int32) <<< (nI s &&& 31)) b = decide (s = b) := by decide +kernel
theorem b_ne0 {x y : Int32} : x &&& y ≠ 0 ↔ ∃ b, b < 32 ∧ bt x b = true ∧ bt y b = true := by
  refine ⟨fun h => ?_, ?_⟩
  · refine Classical.byContradiction fun hn => h (b_ext fun i hi => ?_)
    rw [b_and, b_0]
    cases e1 : bt x i with
    | false => rfl
    | true =>
      cases e2 : bt y i with
      | false => rfl
      | true => exact absurd ⟨i, hi, e1, e2⟩ hn
  · rintro ⟨b, hb, e1, e2⟩ e
    have e3 := b_and x y b
    rw [e, b_0, e1, e2] at e3
    cases e3
section MS
variable {X : ZX} {d : Nat} {st st0 S : ZS} {G G0 G2 : CG} {V V' V0 : CV} {P : ZO → ZS → Prop} {x y z : Int32} {n m p q r j k a i dd c b : Nat} {R R0 R' : MR} {f g f' g' : Nat → Nat} {u w : UInt32}
def sN (R : MR) (j c : Nat) : Nat := tN (R.1 6 (jf R j c))
def msk (R : MR) (j : Nat) : Nat → Int32
  | 0 => 0
  | c + 1 => msk R j c ||| ((1 : Int32) <<< (R.1 6 (jf R j c) &&& 31))
def mkJ (R : MR) (j : Nat) : Int32 := msk R j (tN (R.1 14 j))
def und (R : MR) (dd : Nat) : Nat → Int32
  | 0 => 0
  | i + 1 => if R.1 15 i = 1 ∧ tN (R.1 13 i) = dd then und R dd i ||| mkJ R i else und R dd i
theorem sN_of (L : REL V R) (hj : j < nJ V) (hs : R.1 15 j = 1 ∨ R.1 15 j = 2) (hc : c < tN (R.1 14 j)) : R.1 6 (jf R j c) = nI (sN R j c) ∧ sN R j c < 8 := by
  obtain ⟨s, h1, h2⟩ := L.sh _ (jpc L hj hs hc).2.1
  have e : sN R j c = s := by
    unfold sN
    rw [h2]
    exact tN_nI (by omega)
  rw [e]
  exact ⟨h2, h1⟩
theorem bt_msk (hb : b < 32) : ∀ n, (∀ c, c < n → R.1 6 (jf R j c) = nI (sN R j c) ∧ sN R j c < 8) → (bt (msk R j n) b = true ↔ ∃ c, c < n ∧ sN R j c = b)
  | 0, _ => ⟨fun e => (by rw [show msk R j 0 = 0 from rfl, b_0] at e; cases e), fun ⟨c, hc, _⟩ => absurd hc (Nat.not_lt_zero c)⟩
  | n + 1, h => by
    obtain ⟨h1, h2⟩ := h n (by omega)
    rw [show msk R j (n + 1) = msk R j n ||| ((1 : Int32) <<< (R.1 6 (jf R j n) &&& 31)) from rfl, b_or, Bool.or_eq_true, bt_msk hb n fun c hc => h c (by omega), h1, b_one _ h2 b hb, decide_eq_true_iff]
    refine ⟨?_, ?_⟩
    · rintro (⟨c, hc, e⟩ | e)
      · exact ⟨c, by omega, e⟩
      · exact ⟨n, by omega, e⟩
    · rintro ⟨c, hc, e⟩
      by_cases z : c = n
      · subst z; exact .inr e
      · exact .inl ⟨c, by omega, e⟩
theorem bt_und (hb : b < 32) : ∀ n, (∀ i, i < n → R.1 15 i = 1 → ∀ c, c < tN (R.1 14 i) → R.1 6 (jf R i c) = nI (sN R i c) ∧ sN R i c < 8) → (bt (und R dd n) b = true ↔ ∃ i, i < n ∧ (R.1 15 i = 1 ∧ tN (R.1 13 i) = dd) ∧ ∃ c, c < tN (R.1 14 i) ∧ sN R i c = b)
  | 0, _ => ⟨fun e => (by rw [show und R dd 0 = 0 from rfl, b_0] at e; cases e), fun ⟨i, hi, _⟩ => absurd hi (Nat.not_lt_zero i)⟩
  | n + 1, h => by
    have ih := bt_und hb n fun i hi => h i (by omega)
    by_cases z : R.1 15 n = 1 ∧ tN (R.1 13 n) = dd
    · rw [show und R dd (n + 1) = und R dd n ||| mkJ R n from if_pos z, b_or, Bool.or_eq_true, ih, show mkJ R n = msk R n (tN (R.1 14 n)) from rfl, bt_msk hb _ (h n (by omega) z.1)]
      refine ⟨?_, ?_⟩
      · rintro (⟨i, hi, e⟩ | e)
        · exact ⟨i, by omega, e⟩
        · exact ⟨n, by omega, z, e⟩
      · rintro ⟨i, hi, e1, e2⟩
        by_cases w : i = n
        · subst w; exact .inr e2
        · exact .inl ⟨i, by omega, e1, e2⟩
    · rw [show und R dd (n + 1) = und R dd n from if_neg z, ih]
      refine ⟨?_, ?_⟩
      · rintro ⟨i, hi, e⟩
        exact ⟨i, by omega, e⟩
      · rintro ⟨i, hi, e1, e2⟩
        by_cases w : i = n
        · subst w; exact absurd e1 z
        · exact ⟨i, by omega, e1, e2⟩
theorem shl_iff : ∀ k, shl R j i k = true ↔ ∃ t, t < k ∧ R.1 6 (jf R j (t / tN (R.1 14 i))) = R.1 6 (jf R i (t % tN (R.1 14 i)))
  | 0 => ⟨fun e => (by cases e), fun ⟨t, ht, _⟩ => absurd ht (Nat.not_lt_zero t)⟩
  | k + 1 => by
    rw [show shl R j i (k + 1) = (shl R j i k || decide (R.1 6 (jf R j (k / tN (R.1 14 i))) = R.1 6 (jf R i (k % tN (R.1 14 i))))) from rfl, Bool.or_eq_true, shl_iff k, decide_eq_true_iff]
    refine ⟨?_, ?_⟩
    · rintro (⟨t, ht, e⟩ | e)
      · exact ⟨t, by omega, e⟩
      · exact ⟨k, by omega, e⟩
    · rintro ⟨t, ht, e⟩
      by_cases z : t = k
      · subst z; exact .inr e
      · exact .inl ⟨t, by omega, e⟩
theorem ofb_iff : ∀ n, ofb R x j n = true ↔ ∃ i, i < n ∧ R.1 15 j = 1 ∧ (R.1 15 i = 1 ∧ R.1 13 i = x) ∧ ∃ t, t < tN (R.1 14 j) * tN (R.1 14 i) ∧ R.1 6 (jf R j (t / tN (R.1 14 i))) = R.1 6 (jf R i (t % tN (R.1 14 i)))
  | 0 => ⟨fun e => (by cases e), fun ⟨i, hi, _⟩ => absurd hi (Nat.not_lt_zero i)⟩
  | n + 1 => by
    rw [show ofb R x j (n + 1) = (ofb R x j n || (decide (R.1 15 j = 1) && (decide (R.1 15 n = 1 ∧ R.1 13 n = x) && shl R j n (tN (R.1 14 j) * tN (R.1 14 n))))) from rfl, Bool.or_eq_true, Bool.and_eq_true, Bool.and_eq_true, ofb_iff n, shl_iff, decide_eq_true_iff, decide_eq_true_iff]
    refine ⟨?_, ?_⟩
    · rintro (⟨i, hi, e⟩ | e)
      · exact ⟨i, by omega, e⟩
      · exact ⟨n, by omega, e⟩
    · rintro ⟨i, hi, e⟩
      by_cases z : i = n
      · subst z; exact .inr e
      · exact .inl ⟨i, by omega, e⟩
theorem redO_iff : redO R x j = true ↔ ∃ i, i < tN (R.2.1 21) ∧ R.1 15 j = 1 ∧ (R.1 15 i = 1 ∧ R.1 13 i = x) ∧ ∃ t, t < tN (R.1 14 j) * tN (R.1 14 i) ∧ R.1 6 (jf R j (t / tN (R.1 14 i))) = R.1 6 (jf R i (t % tN (R.1 14 i))) := ofb_iff (R := mF R 25 0) (tN (R.2.1 21))
theorem redO_eq (L : REL V R) (hj : j < nJ V) (hdd : dd < nD V) : redO R (nI dd) j = (decide (R.1 15 j = 1) && decide (mkJ R j &&& und R dd (nJ V) ≠ 0)) := by
  have h12 := L.ir.d5.2
  have hdR : dd < tN (R.2.1 5) := by rw [← L.nn.1]; exact hdd
  rw [Bool.eq_iff_iff, redO_iff, Bool.and_eq_true, decide_eq_true_iff, decide_eq_true_iff, b_ne0]
  refine ⟨?_, ?_⟩
  · rintro ⟨i, hi, h1, ⟨h2, h3⟩, t, ht, e⟩
    have hi' : i < nJ V := by rw [L.nn.2]; exact hi
    have hin := L.ir.jn i hi
    have q1 : t / tN (R.1 14 i) < tN (R.1 14 j) := by
      rw [Nat.div_lt_iff_lt_mul (by omega)]
      exact ht
    have q2 : t % tN (R.1 14 i) < tN (R.1 14 i) := Nat.mod_lt _ (by omega)
    obtain ⟨s1, s2⟩ := sN_of L hj (.inl h1) q1
    obtain ⟨s3, s4⟩ := sN_of L hi' (.inl h2) q2
    have es : sN R j (t / tN (R.1 14 i)) = sN R i (t % tN (R.1 14 i)) := congrArg tN e
    refine ⟨h1, sN R j (t / tN (R.1 14 i)), by omega, ?_, ?_⟩
    · exact (bt_msk (by omega) _ fun c hc => sN_of L hj (.inl h1) hc).mpr ⟨_, q1, rfl⟩
    · refine (bt_und (by omega) _ fun i hi hs c hc => sN_of L hi (.inl hs) hc).mpr ⟨i, hi', ⟨h2, ?_⟩, _, q2, es.symm⟩
      rw [h3]
      exact tN_nI (by omega)
  · rintro ⟨h1, b, hb, e1, e2⟩
    obtain ⟨c, hc, f1⟩ := (bt_msk hb _ fun c hc => sN_of L hj (.inl h1) hc).mp e1
    obtain ⟨i, hi, ⟨h2, h3⟩, c2, hc2, f2⟩ := (bt_und hb _ fun i hi hs c hc => sN_of L hi (.inl hs) hc).mp e2
    have hiR : i < tN (R.2.1 21) := by rw [← L.nn.2]; exact hi
    refine ⟨i, hiR, h1, ⟨h2, ?_⟩, c * tN (R.1 14 i) + c2, ?_, ?_⟩
    · rw [(L.ir.jd i hiR).1, h3]
    · have : (c + 1) * tN (R.1 14 i) ≤ tN (R.1 14 j) * tN (R.1 14 i) := Nat.mul_le_mul_right _ hc
      rw [Nat.add_mul, Nat.one_mul] at this
      omega
    · have g1 : (c * tN (R.1 14 i) + c2) / tN (R.1 14 i) = c := by
        rw [Nat.add_comm, Nat.add_mul_div_right _ _ (by omega), Nat.div_eq_of_lt hc2, Nat.zero_add]
      have g2 : (c * tN (R.1 14 i) + c2) % tN (R.1 14 i) = c2 := by
        rw [Nat.add_comm, Nat.add_mul_mod_self_right, Nat.mod_eq_of_lt hc2]
      rw [g1, g2, (sN_of L hj (.inl h1) hc).1, (sN_of L hi (.inl h2) hc2).1, f1, f2]
theorem C_used_l (h : cok st G) (I : CI G V) (L : REL V R) (hj : j < nJ V) (hs : R.1 15 j = 1 ∨ R.1 15 j = 2) : ∀ (m k : Nat), k + m = tN (R.1 14 j) → AW X (d + 3) 5 4 [.ref (G.A (.jb j)), .int (msk R j k), .int (nI k)] [] (cw st G V) P = P (.inl (some (.int (mkJ R j)))) (cw st G V) := by
  obtain ⟨hA, hla, hn1, hn6⟩ := jal I L hj hs
  have hlj := I.jb hj
  have hal := I.al (n := j + 4) (by omega)
  intro m
  induction m with
  | zero =>
    intro k hk
    have e : k = tN (R.1 14 j) := by omega
    subst e
    have hle : nI (tN (R.1 14 j)) ≤ nI (tN (R.1 14 j)) := nI_le (Nat.le_refl _) (by omega)
    rw [E_X1_sheetsUsed_4]
    simp only [E_X1_sheetsUsed_0, E_X1_sheetsUsed_1, E_X1_sheetsUsed_2, E_X1_sheetsUsed_3, E_X1_sheetsUsed_5, E_X1_sheetsUsed_5n, E_X1_sheetsUsed_6, E_X1_sheetsUsed_9, E_X1_sheetsUsed_12, E_X1_sheetsUsed_15, E_X1_sheetsUsed_16, E_X1_sheetsUsed_17, E_X1_sheetsUsed_17n, E_X1_sheetsUsed_18, E_X1_sheetsUsed_21, E_X1_sheetsUsed_22, E_X1_sheetsUsed_25, E_X1_sheetsUsed_25n, E_X1_sheetsUsed_28, E_X1_sheetsUsed_31, E_X1_sheetsUsed_32, E_X1_sheetsUsed_33, E_X1_sheetsUsed_34, E_X1_sheetsUsed_37, E_X1_sheetsUsed_40, E_X1_sheetsUsed_41, zwith_some, zwith_none, zif_true, zaft_inl, Option.toList_some, Option.toList_none, List.cons_append, List.nil_append, zc1_int, zc1_ref, zc1_null, zc1_float, List.length_nil, List.length_cons, Nat.reduceAdd, Nat.reduceLeDiff, Nat.zero_add, z1and, z0and, zl00, zl01, zl02, zl03, ze00, ze10, ze20, ze30, if_true, if_false, cg_jb h hlj, cis_al h hal, C_size h hal, hA, hle]
    rfl
  | succ m ih =>
    intro k hk
    have ih := ih (k + 1) (by omega)
    have hlt : ¬ nI (tN (R.1 14 j)) ≤ nI k := nI_ge (by omega) (by omega)
    obtain ⟨e2, p2, q2⟩ := jpc L hj hs (show k < tN (R.1 14 j) by omega)
    have hl2 := I.pc q2
    have hg := fun {d} {P} => C_get (X := X) (d := d) (P := P) (V := V) (q := jf R j k) h hal (I.gr hla (by omega) (by omega)) hla (show k < tN (R.1 14 j) by omega) e2
    rw [show ek (j + 4) (jf R j k) = CK.pc (jf R j k) from rfl] at hg
    have v8 : V.i 8 (jf R j k) = R.1 6 (jf R j k) := (L.pt.1.pp _ p2).v 8 (by decide) (by decide)
    rw [show msk R j (k + 1) = msk R j k ||| ((1 : Int32) <<< (R.1 6 (jf R j k) &&& 31)) from rfl] at ih
    rw [E_X1_sheetsUsed_4]
    simp only [E_X1_sheetsUsed_0, E_X1_sheetsUsed_1, E_X1_sheetsUsed_2, E_X1_sheetsUsed_3, E_X1_sheetsUsed_5, E_X1_sheetsUsed_5n, E_X1_sheetsUsed_6, E_X1_sheetsUsed_9, E_X1_sheetsUsed_12, E_X1_sheetsUsed_15, E_X1_sheetsUsed_16, E_X1_sheetsUsed_17, E_X1_sheetsUsed_17n, E_X1_sheetsUsed_18, E_X1_sheetsUsed_21, E_X1_sheetsUsed_22, E_X1_sheetsUsed_25, E_X1_sheetsUsed_25n, E_X1_sheetsUsed_28, E_X1_sheetsUsed_31, E_X1_sheetsUsed_32, E_X1_sheetsUsed_33, E_X1_sheetsUsed_34, E_X1_sheetsUsed_37, E_X1_sheetsUsed_40, E_X1_sheetsUsed_41, zwith_some, zwith_none, zif_true, zaft_inl, Option.toList_some, Option.toList_none, List.cons_append, List.nil_append, zc1_int, zc1_ref, zc1_null, zc1_float, List.length_nil, List.length_cons, Nat.reduceAdd, Nat.reduceLeDiff, Nat.zero_add, z1and, z0and, zl00, zl01, zl02, zl03, ze00, ze10, ze20, ze30, if_true, if_false, cg_jb h hlj, cis_al h hal, C_size h hal, hA, hlt, hg, cis_pc h hl2, cg_pc h hl2, v8, nI_1]
    exact ih
theorem C_used (h : cok st G) (I : CI G V) (L : REL V R) (hj : j < nJ V) (hs : R.1 15 j = 1 ∨ R.1 15 j = 2) : AC X (d + 4) 5 [.ref (G.A (.jb j))] (cw st G V) P = P (.inl (some (.int (mkJ R j)))) (cw st G V) := by
  rw [A_X1_sheetsUsed]
  simp only [E_X1_sheetsUsed_0, E_X1_sheetsUsed_1, E_X1_sheetsUsed_2, E_X1_sheetsUsed_3, E_X1_sheetsUsed_5, E_X1_sheetsUsed_5n, E_X1_sheetsUsed_6, E_X1_sheetsUsed_9, E_X1_sheetsUsed_12, E_X1_sheetsUsed_15, E_X1_sheetsUsed_16, E_X1_sheetsUsed_17, E_X1_sheetsUsed_17n, E_X1_sheetsUsed_18, E_X1_sheetsUsed_21, E_X1_sheetsUsed_22, E_X1_sheetsUsed_25, E_X1_sheetsUsed_25n, E_X1_sheetsUsed_28, E_X1_sheetsUsed_31, E_X1_sheetsUsed_32, E_X1_sheetsUsed_33, E_X1_sheetsUsed_34, E_X1_sheetsUsed_37, E_X1_sheetsUsed_40, E_X1_sheetsUsed_41, zwith_some, zwith_none, zif_true, zaft_inl, Option.toList_some, Option.toList_none, List.cons_append, List.nil_append, zc1_int, zc1_ref, zc1_null, zc1_float, List.length_nil, List.length_cons, Nat.reduceAdd, Nat.reduceLeDiff, Nat.zero_add, z1and, z0and, zl00, zl01, zl02, zl03, ze00, ze10, ze20, ze30, if_true, if_false]
  exact C_used_l h I L hj hs _ 0 (Nat.zero_add _)
theorem cA_inj {k1 k2 : CK} (h1 : G.live k1) (h2 : G.live k2) : (G.A k1 = G.A k2) = (k1 = k2) := by
  refine propext ⟨fun e => ?_, fun e => by rw [e]⟩
  have h1 : G.K (G.A k1) = some k1 := h1
  have h2 : G.K (G.A k2) = some k2 := h2
  rw [e, h2] at h1
  exact (Option.some.inj h1).symm
theorem C_under_l (h : cok st G) (I : CI G V) (L : REL V R) (hdd : dd < nD V) : ∀ (m i : Nat) (l4 : Value), i + m = nJ V → AW X (d + 4) 70 4 [.ref (G.A .kx), .ref (G.A (.dr dd)), .int (und R dd i), .int (nI i), l4] [] (cw st G V) P = P (.inl (some (.int (und R dd (nJ V))))) (cw st G V) := by
  have h30 := I.lj.2.1
  have hal := I.al (n := 1) (by omega)
  have hld := I.dr hdd
  intro m
  induction m with
  | zero =>
    intro i l4 hi
    have e : i = nJ V := by omega
    subst e
    have hle : nI (nJ V) ≤ nI (nJ V) := nI_le (Nat.le_refl _) (by omega)
    rw [E_X5_sheetsUnder_4]
    simp only [E_X5_sheetsUnder_0, E_X5_sheetsUnder_1, E_X5_sheetsUnder_2, E_X5_sheetsUnder_3, E_X5_sheetsUnder_5, E_X5_sheetsUnder_5n, E_X5_sheetsUnder_6, E_X5_sheetsUnder_9, E_X5_sheetsUnder_12, E_X5_sheetsUnder_15, E_X5_sheetsUnder_15n, E_X5_sheetsUnder_16, E_X5_sheetsUnder_19, E_X5_sheetsUnder_20, E_X5_sheetsUnder_23, E_X5_sheetsUnder_23n, E_X5_sheetsUnder_26, E_X5_sheetsUnder_26n, E_X5_sheetsUnder_28, E_X5_sheetsUnder_28n, E_X5_sheetsUnder_30, E_X5_sheetsUnder_33, E_X5_sheetsUnder_34, E_X5_sheetsUnder_37, E_X5_sheetsUnder_37n, E_X5_sheetsUnder_39, E_X5_sheetsUnder_42, E_X5_sheetsUnder_42n, E_X5_sheetsUnder_43, E_X5_sheetsUnder_46, E_X5_sheetsUnder_47, E_X5_sheetsUnder_47n, E_X5_sheetsUnder_49, E_X5_sheetsUnder_52, E_X5_sheetsUnder_53, E_X5_sheetsUnder_54, E_X5_sheetsUnder_57, E_X5_sheetsUnder_60, E_X5_sheetsUnder_61, zwith_some, zwith_none, zif_true, zaft_inl, Option.toList_some, Option.toList_none, List.cons_append, List.nil_append, zc1_int, zc1_ref, zc1_null, zc1_float, List.length_nil, List.length_cons, Nat.reduceAdd, Nat.reduceLeDiff, Nat.zero_add, z1and, z0and, zl00, zl01, zl02, zl03, ze00, ze10, ze20, ze30, if_true, if_false, cg_kx h I.kx, cis_al h hal, C_size h hal, I.lj.1.sz, hle]
  | succ m ih =>
    intro i l4 hi
    have ih := fun l4 => ih (i + 1) l4 (by omega)
    have hiV : i < nJ V := by omega
    have hlt : ¬ nI (nJ V) ≤ nI i := nI_ge (by omega) (by omega)
    have hg := fun {d} {P} => C_get (X := X) (d := d) (P := P) (V := V) (q := i) h hal (I.gr I.lj.1 (by omega) (show 0 < nJ V by omega)) I.lj.1 hiV (I.lj.2.2 i hiV)
    rw [show ek 1 i = CK.jb i from rfl] at hg
    have hlj := I.jb hiV
    obtain ⟨di, hde, hdi⟩ := I.de i hiV
    have hldi := I.dr hdi
    obtain ⟨a1, a2, a3, _, _⟩ := L.jr i hiV
    have e13 : tN (R.1 13 i) = di := by
      rw [hde] at a3
      exact (Option.some.inj a3).symm
    have hu := fun {d} {P} s => C_used (X := X) (d := d) (P := P) h I L hiV s
    have hn1 := cw_ge h hldi
    have hn2 := cw_ge h hld
    have hz : (G.A (.dr di) = G.A (.dr dd) ∨ (G.A (.dr di) ≠ 1 ∧ G.A (.dr di) ≠ 2 ∧ G.A (.dr dd) ≠ 1 ∧ G.A (.dr dd) ≠ 2)) = True := eq_true (.inr ⟨by omega, by omega, by omega, by omega⟩)
    rw [E_X5_sheetsUnder_4]
    by_cases c1 : R.1 15 i = 1
    · have s1 : V.i 5 i = 1 := a2.trans c1
      have hu := fun {d} {P} => hu (d := d) (P := P) (.inl c1)
      by_cases c2 : di = dd
      · subst c2
        rw [show und R di (i + 1) = und R di i ||| mkJ R i from if_pos ⟨c1, e13⟩] at ih
        simp only [E_X5_sheetsUnder_0, E_X5_sheetsUnder_1, E_X5_sheetsUnder_2, E_X5_sheetsUnder_3, E_X5_sheetsUnder_5, E_X5_sheetsUnder_5n, E_X5_sheetsUnder_6, E_X5_sheetsUnder_9, E_X5_sheetsUnder_12, E_X5_sheetsUnder_15, E_X5_sheetsUnder_15n, E_X5_sheetsUnder_16, E_X5_sheetsUnder_19, E_X5_sheetsUnder_20, E_X5_sheetsUnder_23, E_X5_sheetsUnder_23n, E_X5_sheetsUnder_26, E_X5_sheetsUnder_26n, E_X5_sheetsUnder_28, E_X5_sheetsUnder_28n, E_X5_sheetsUnder_30, E_X5_sheetsUnder_33, E_X5_sheetsUnder_34, E_X5_sheetsUnder_37, E_X5_sheetsUnder_37n, E_X5_sheetsUnder_39, E_X5_sheetsUnder_42, E_X5_sheetsUnder_42n, E_X5_sheetsUnder_43, E_X5_sheetsUnder_46, E_X5_sheetsUnder_47, E_X5_sheetsUnder_47n, E_X5_sheetsUnder_49, E_X5_sheetsUnder_52, E_X5_sheetsUnder_53, E_X5_sheetsUnder_54, E_X5_sheetsUnder_57, E_X5_sheetsUnder_60, E_X5_sheetsUnder_61, zwith_some, zwith_none, zif_true, zaft_inl, Option.toList_some, Option.toList_none, List.cons_append, List.nil_append, zc1_int, zc1_ref, zc1_null, zc1_float, List.length_nil, List.length_cons, Nat.reduceAdd, Nat.reduceLeDiff, Nat.zero_add, z1and, z0and, zl00, zl01, zl02, zl03, ze00, ze10, ze20, ze30, if_true, if_false, cg_kx h I.kx, cis_al h hal, C_size h hal, I.lj.1.sz, hlt, hg, cis_jb h hlj, cg_jb h hlj, s1, not_true, hde, rfv_s, true_or, hu, nI_1]
        exact ih _
      · have hne : (G.A (.dr di) = G.A (.dr dd)) = False := by
          rw [cA_inj hldi hld]
          exact eq_false fun z => c2 (congrArg Prod.snd z)
        rw [show und R dd (i + 1) = und R dd i from if_neg (fun z => c2 (e13.symm.trans z.2))] at ih
        simp only [E_X5_sheetsUnder_0, E_X5_sheetsUnder_1, E_X5_sheetsUnder_2, E_X5_sheetsUnder_3, E_X5_sheetsUnder_5, E_X5_sheetsUnder_5n, E_X5_sheetsUnder_6, E_X5_sheetsUnder_9, E_X5_sheetsUnder_12, E_X5_sheetsUnder_15, E_X5_sheetsUnder_15n, E_X5_sheetsUnder_16, E_X5_sheetsUnder_19, E_X5_sheetsUnder_20, E_X5_sheetsUnder_23, E_X5_sheetsUnder_23n, E_X5_sheetsUnder_26, E_X5_sheetsUnder_26n, E_X5_sheetsUnder_28, E_X5_sheetsUnder_28n, E_X5_sheetsUnder_30, E_X5_sheetsUnder_33, E_X5_sheetsUnder_34, E_X5_sheetsUnder_37, E_X5_sheetsUnder_37n, E_X5_sheetsUnder_39, E_X5_sheetsUnder_42, E_X5_sheetsUnder_42n, E_X5_sheetsUnder_46, E_X5_sheetsUnder_47, E_X5_sheetsUnder_47n, E_X5_sheetsUnder_49, E_X5_sheetsUnder_52, E_X5_sheetsUnder_53, E_X5_sheetsUnder_54, E_X5_sheetsUnder_57, E_X5_sheetsUnder_60, E_X5_sheetsUnder_61, zwith_some, zwith_none, zif_true, zaft_inl, Option.toList_some, Option.toList_none, List.cons_append, List.nil_append, zc1_int, zc1_ref, zc1_null, zc1_float, List.length_nil, List.length_cons, Nat.reduceAdd, Nat.reduceLeDiff, Nat.zero_add, z1and, z0and, zl00, zl01, zl02, zl03, ze00, ze10, ze20, ze30, if_true, if_false, cg_kx h I.kx, cis_al h hal, C_size h hal, I.lj.1.sz, hlt, hg, cis_jb h hlj, cg_jb h hlj, s1, not_true, hde, rfv_s]
        rw [E_X5_sheetsUnder_43]
        simp only [hz, zif_true]
        simp only [E_X5_sheetsUnder_0, E_X5_sheetsUnder_1, E_X5_sheetsUnder_2, E_X5_sheetsUnder_3, E_X5_sheetsUnder_5, E_X5_sheetsUnder_5n, E_X5_sheetsUnder_6, E_X5_sheetsUnder_9, E_X5_sheetsUnder_12, E_X5_sheetsUnder_15, E_X5_sheetsUnder_15n, E_X5_sheetsUnder_16, E_X5_sheetsUnder_19, E_X5_sheetsUnder_20, E_X5_sheetsUnder_23, E_X5_sheetsUnder_23n, E_X5_sheetsUnder_26, E_X5_sheetsUnder_26n, E_X5_sheetsUnder_28, E_X5_sheetsUnder_28n, E_X5_sheetsUnder_30, E_X5_sheetsUnder_33, E_X5_sheetsUnder_34, E_X5_sheetsUnder_37, E_X5_sheetsUnder_37n, E_X5_sheetsUnder_39, E_X5_sheetsUnder_42, E_X5_sheetsUnder_42n, E_X5_sheetsUnder_46, E_X5_sheetsUnder_47, E_X5_sheetsUnder_47n, E_X5_sheetsUnder_49, E_X5_sheetsUnder_52, E_X5_sheetsUnder_53, E_X5_sheetsUnder_54, E_X5_sheetsUnder_57, E_X5_sheetsUnder_60, E_X5_sheetsUnder_61, zwith_some, zwith_none, zif_true, zaft_inl, Option.toList_some, Option.toList_none, List.cons_append, List.nil_append, zc1_int, zc1_ref, zc1_null, zc1_float, List.length_nil, List.length_cons, Nat.reduceAdd, Nat.reduceLeDiff, Nat.zero_add, z1and, z0and, zl00, zl01, zl02, zl03, ze00, ze10, ze20, ze30, if_true, if_false, hne, nI_1]
        exact ih _
    · have s1 : ¬ V.i 5 i = 1 := by rw [a2]; exact c1
      rw [show und R dd (i + 1) = und R dd i from if_neg (fun z => c1 z.1)] at ih
      simp only [E_X5_sheetsUnder_0, E_X5_sheetsUnder_1, E_X5_sheetsUnder_2, E_X5_sheetsUnder_3, E_X5_sheetsUnder_5, E_X5_sheetsUnder_5n, E_X5_sheetsUnder_6, E_X5_sheetsUnder_9, E_X5_sheetsUnder_12, E_X5_sheetsUnder_15, E_X5_sheetsUnder_15n, E_X5_sheetsUnder_16, E_X5_sheetsUnder_19, E_X5_sheetsUnder_20, E_X5_sheetsUnder_23, E_X5_sheetsUnder_23n, E_X5_sheetsUnder_26, E_X5_sheetsUnder_26n, E_X5_sheetsUnder_28, E_X5_sheetsUnder_28n, E_X5_sheetsUnder_30, E_X5_sheetsUnder_33, E_X5_sheetsUnder_34, E_X5_sheetsUnder_37, E_X5_sheetsUnder_37n, E_X5_sheetsUnder_39, E_X5_sheetsUnder_42, E_X5_sheetsUnder_42n, E_X5_sheetsUnder_43, E_X5_sheetsUnder_46, E_X5_sheetsUnder_47, E_X5_sheetsUnder_47n, E_X5_sheetsUnder_49, E_X5_sheetsUnder_52, E_X5_sheetsUnder_53, E_X5_sheetsUnder_54, E_X5_sheetsUnder_57, E_X5_sheetsUnder_60, E_X5_sheetsUnder_61, zwith_some, zwith_none, zif_true, zaft_inl, Option.toList_some, Option.toList_none, List.cons_append, List.nil_append, zc1_int, zc1_ref, zc1_null, zc1_float, List.length_nil, List.length_cons, Nat.reduceAdd, Nat.reduceLeDiff, Nat.zero_add, z1and, z0and, zl00, zl01, zl02, zl03, ze00, ze10, ze20, ze30, if_true, if_false, cg_kx h I.kx, cis_al h hal, C_size h hal, I.lj.1.sz, hlt, hg, cis_jb h hlj, cg_jb h hlj, s1, not_false_iff, nI_1]
      exact ih _
theorem C_under (h : cok st G) (I : CI G V) (L : REL V R) (hdd : dd < nD V) : AC X (d + 5) 70 [.ref (G.A .kx), .ref (G.A (.dr dd))] (cw st G V) P = P (.inl (some (.int (und R dd (nJ V))))) (cw st G V) := by
  rw [A_X5_sheetsUnder rfl]
  simp only [E_X5_sheetsUnder_0, E_X5_sheetsUnder_1, E_X5_sheetsUnder_2, E_X5_sheetsUnder_3, E_X5_sheetsUnder_5, E_X5_sheetsUnder_5n, E_X5_sheetsUnder_6, E_X5_sheetsUnder_9, E_X5_sheetsUnder_12, E_X5_sheetsUnder_15, E_X5_sheetsUnder_15n, E_X5_sheetsUnder_16, E_X5_sheetsUnder_19, E_X5_sheetsUnder_20, E_X5_sheetsUnder_23, E_X5_sheetsUnder_23n, E_X5_sheetsUnder_26, E_X5_sheetsUnder_26n, E_X5_sheetsUnder_28, E_X5_sheetsUnder_28n, E_X5_sheetsUnder_30, E_X5_sheetsUnder_33, E_X5_sheetsUnder_34, E_X5_sheetsUnder_37, E_X5_sheetsUnder_37n, E_X5_sheetsUnder_39, E_X5_sheetsUnder_42, E_X5_sheetsUnder_42n, E_X5_sheetsUnder_43, E_X5_sheetsUnder_46, E_X5_sheetsUnder_47, E_X5_sheetsUnder_47n, E_X5_sheetsUnder_49, E_X5_sheetsUnder_52, E_X5_sheetsUnder_53, E_X5_sheetsUnder_54, E_X5_sheetsUnder_57, E_X5_sheetsUnder_60, E_X5_sheetsUnder_61, zwith_some, zwith_none, zif_true, zaft_inl, Option.toList_some, Option.toList_none, List.cons_append, List.nil_append, zc1_int, zc1_ref, zc1_null, zc1_float, List.length_nil, List.length_cons, Nat.reduceAdd, Nat.reduceLeDiff, Nat.zero_add, z1and, z0and, zl00, zl01, zl02, zl03, ze00, ze10, ze20, ze30, if_true, if_false]
  exact C_under_l h I L hdd _ 0 _ (Nat.zero_add _)
end MS
