/-! THE RELATION of the class's values to the reference's; tryWaiting is tries -/
section TR
variable {X : ZX} {d : Nat} {st st0 : ZS} {G G0 : CG} {V V' V0 : CV} {P : ZO → ZS → Prop} {x y : Int32} {n m p q r j k : Nat} {R R0 R' : MR} {f g : Nat → Nat}
/-- strokes that were cut, as points -/
def cf (V : CV) (n : Nat) : Nat → Nat := fun k => tN (V.s n k) / 1024
def cg (V : CV) (n : Nat) : Nat → Nat := fun k => tN (V.s n k) % 1024
def cm (V : CV) (n : Nat) : Nat := tN (V.i 7 n)
def lnO (V : CV) (n : Nat) : UInt32 := lens (cf V n) (cg V n) (cm V n)
def cln (V : CV) : Nat → UInt32
  | 0 => FP.fconst0
  | i + 1 => ctl (lnO V (2 * ((V.e 2 i).getD 0) + 1)) (cln V i) (tN (V.i 4 ((V.e 2 i).getD 0)))
abbrev CT (V : CV) : Prop := (∀ n, nJ V + 4 ≤ n → V.c n = 0) ∧ V.u = cln V (nC V) ∧ (∀ i, i < nC V → ∃ j, V.e 2 i = some j) ∧ ∀ i j, V.e 2 i = some j → oul V (2 * j + 1) (cm V (2 * j + 1)) (cf V (2 * j + 1)) (cg V (2 * j + 1)) ∧ (∀ k, k < cm V (2 * j + 1) → cf V (2 * j + 1) k ≠ cg V (2 * j + 1) k) ∧ (∃ c, V.i 4 j = nI c ∧ c ≤ 6) ∧ V.i 5 j = 2
theorem cln_o (he : V'.e 2 = V.e 2) (h : ∀ i j, V.e 2 i = some j → V'.i 4 j = V.i 4 j ∧ V'.i 7 (2 * j + 1) = V.i 7 (2 * j + 1) ∧ V'.s (2 * j + 1) = V.s (2 * j + 1)) : ∀ n, (∀ i, i < n → ∃ j, V.e 2 i = some j) → cln V' n = cln V n
  | 0, _ => rfl
  | n + 1, hs => by
    obtain ⟨j, e⟩ := hs n (by omega)
    obtain ⟨h1, h2, h3⟩ := h n j e
    show ctl (lnO V' (2 * ((V'.e 2 n).getD 0) + 1)) (cln V' n) (tN (V'.i 4 ((V'.e 2 n).getD 0))) = ctl (lnO V (2 * ((V.e 2 n).getD 0) + 1)) (cln V n) (tN (V.i 4 ((V.e 2 n).getD 0)))
    rw [he, e, cln_o he h n fun i hi => hs i (by omega)]
    show ctl (lnO V' (2 * j + 1)) _ (tN (V'.i 4 j)) = ctl (lnO V (2 * j + 1)) _ (tN (V.i 4 j))
    rw [h1]
    unfold lnO cf cg cm
    rw [h2, h3]
theorem oul_o {m' : Nat} {f g : Nat → Nat} (h : oul V n m' f g) (h7 : V'.i 7 n = V.i 7 n) (hs : V'.s n = V.s n) : oul V' n m' f g := by
  refine ⟨h7.trans h.1, h.2.1, ?_⟩
  rw [hs]
  exact h.2.2
theorem CT_o (C : CT V) (h0 : ∀ n, nJ V' + 4 ≤ n → V'.c n = 0) (he : V'.e 2 = V.e 2) (hu : V'.u = V.u) (hn : V'.i 1 2 = V.i 1 2) (h : ∀ i j, V.e 2 i = some j → V'.i 4 j = V.i 4 j ∧ V'.i 7 (2 * j + 1) = V.i 7 (2 * j + 1) ∧ V'.s (2 * j + 1) = V.s (2 * j + 1)) (h5 : ∀ i j, V.e 2 i = some j → V'.i 5 j = V.i 5 j) : CT V' := by
  have en : nC V' = nC V := congrArg tN hn
  obtain ⟨_, C⟩ := C
  refine ⟨h0, ?_, ?_, ?_⟩
  · rw [hu, C.1, en]
    exact (cln_o he h _ C.2.1).symm
  · rw [en, he]; exact C.2.1
  · rw [he]
    intro i j e
    obtain ⟨h1, h2, h3⟩ := h i j e
    unfold cf cg cm
    rw [h1, h2, h3]
    obtain ⟨a, b, c, c5⟩ := C.2.2 i j e
    exact ⟨oul_o a h2 h3, b, c, (h5 i j e).trans c5⟩
abbrev REL (V : CV) (R : MR) : Prop := (nD V = tN (R.2.1 5) ∧ nJ V = tN (R.2.1 21)) ∧ (V.i 14 1 = R.2.1 15 ∧ V.i 14 2 = R.2.1 23 ∧ V.u = R.2.2 ∧ V.u ≤ 2139095040) ∧ (∀ i, i < nD V → DR V R i) ∧ (∀ j, j < nJ V → JR V R j) ∧ PT V R (nP R) ∧ IR R ∧ JT R ∧ SH R ∧ CT V
theorem REL.nn (h : REL V R) : nD V = tN (R.2.1 5) ∧ nJ V = tN (R.2.1 21) := h.1
theorem REL.nu (h : REL V R) : V.i 14 1 = R.2.1 15 ∧ V.i 14 2 = R.2.1 23 ∧ V.u = R.2.2 ∧ V.u ≤ 2139095040 := h.2.1
theorem REL.dr (h : REL V R) : ∀ i, i < nD V → DR V R i := h.2.2.1
theorem REL.jr (h : REL V R) : ∀ j, j < nJ V → JR V R j := h.2.2.2.1
theorem REL.pt (h : REL V R) : PT V R (nP R) := h.2.2.2.2.1
theorem REL.ir (h : REL V R) : IR R := h.2.2.2.2.2.1
theorem REL.jt (h : REL V R) : JT R := h.2.2.2.2.2.2.1
theorem REL.sh (h : REL V R) : SH R := h.2.2.2.2.2.2.2.1
theorem REL.ct (h : REL V R) : CT V := h.2.2.2.2.2.2.2.2
theorem REL_25 (h : REL V R) : REL V (mF R 25 x) := ⟨h.nn, h.nu, h.dr, h.jr, h.pt, IR_25 h.ir, h.jt, h.sh, h.ct⟩
theorem C_nestOn (h : cok st G) (I : CI G V) (L : REL V R) (hj : j < nJ V) (h0 : R.1 15 j = 0) (K : ∀ st' G' V', Sta st G V st' G' V' → CI G' V' → fN V V' j → PT V' (nsF R j) (nP (nsF R j)) → JR V' (nsF R j) j → P (.inl none) (cw st' G' V')) : AC X (d + 10) 3 [.ref (G.A (.jb j)), .ref (G.A .stk)] (cw st G V) P := by
  have IRr := L.ir
  have hjR : j < tN (R.2.1 21) := by rw [← L.nn.2]; exact hj
  obtain ⟨dd, hde, hdd⟩ := I.de j hj
  obtain ⟨j4, j5, jr0, _, j6⟩ := L.jr j hj
  have e13 : tN (R.1 13 j) = dd := by
    rw [hde] at jr0
    exact (Option.some.inj jr0).symm
  obtain ⟨hj6, hj1⟩ := j6 (.inl h0)
  obtain ⟨d2, d3, dou⟩ := L.dr dd hdd
  have hd12 : dd < 12 := by have := I.ld.2.1; omega
  have hpt := IRr.pt dd hd12
  have hlj := I.jb hj
  have hld := I.dr hdd
  have hlo := I.ou0 hdd
  have hls := I.sk0 hdd
  have hw := fun {d} {P} => C_wide (X := X) (d := d) (P := P) h hlo hls dou
  have hh := fun {d} {P} => C_high (X := X) (d := d) (P := P) h hlo hls dou
  rw [siz_ext hpt] at hw hh
  have eW : nsW R j true = siz (cra R dd true) (crb R dd true) (tN (R.1 1 dd)) + 1 := by rw [← e13]; rfl
  have eH : nsW R j false = siz (cra R dd false) (crb R dd false) (tN (R.1 1 dd)) + 1 := by rw [← e13]; rfl
  have hjn := IRr.jn j hjR
  have I0 : nsI R j 0 R := ⟨IRr.p14.2, IRr.p14.1, IRr.fr, fun _ _ => rfl, fun i hi => absurd hi (Nat.not_lt_zero i), fun _ _ => rfl, fun _ _ => rfl, rfl, Nat.le_refl _, fun _ _ _ _ _ => rfl⟩
  have hK : ∀ st' G' V', Sta st G V st' G' V' → CI G' V' → fN V V' j → PT V' (nsE (nP R) j (R.1 2 (tN (R.1 13 j))) (nsl j (nsW R j true) (nsW R j false) (tN (R.1 14 j)) 0 R)) (nP (nsE (nP R) j (R.1 2 (tN (R.1 13 j))) (nsl j (nsW R j true) (nsW R j false) (tN (R.1 14 j)) 0 R))) → JR V' (nsE (nP R) j (R.1 2 (tN (R.1 13 j))) (nsl j (nsW R j true) (nsW R j false) (tN (R.1 14 j)) 0 R)) j → P (.inl none) (cw st' G' V') := K
  rw [A_X1_nestOn rfl]
  simp only [E_X1_nestOn_0, E_X1_nestOn_0n, E_X1_nestOn_1, E_X1_nestOn_4, E_X1_nestOn_5, E_X1_nestOn_5n, E_X1_nestOn_6, E_X1_nestOn_9, E_X1_nestOn_12, E_X1_nestOn_15, E_X1_nestOn_16, E_X1_nestOn_17, E_X1_nestOn_18, E_X1_nestOn_18n, E_X1_nestOn_19, E_X1_nestOn_22, E_X1_nestOn_25, E_X1_nestOn_28, E_X1_nestOn_29, E_X1_nestOn_30, E_X1_nestOn_32, E_X1_nestOn_33, E_X1_nestOn_37, E_X1_nestOn_37n, E_X1_nestOn_38, E_X1_nestOn_41, E_X1_nestOn_44, E_X1_nestOn_44n, E_X1_nestOn_45, E_X1_nestOn_46, E_X1_nestOn_48, E_X1_nestOn_51, E_X1_nestOn_51n, E_X1_nestOn_53, E_X1_nestOn_53n, E_X1_nestOn_55, E_X1_nestOn_55n, E_X1_nestOn_58, E_X1_nestOn_58n, E_X1_nestOn_59, E_X1_nestOn_59n, E_X1_nestOn_60, E_X1_nestOn_63, E_X1_nestOn_64, E_X1_nestOn_67, E_X1_nestOn_67n, E_X1_nestOn_68, E_X1_nestOn_71, E_X1_nestOn_74, E_X1_nestOn_75, E_X1_nestOn_75n, E_X1_nestOn_76, E_X1_nestOn_79, E_X1_nestOn_79n, E_X1_nestOn_81, E_X1_nestOn_84, E_X1_nestOn_84n, E_X1_nestOn_84i, E_X1_nestOn_84f, E_X1_nestOn_85, E_X1_nestOn_88, E_X1_nestOn_91, E_X1_nestOn_91n, E_X1_nestOn_92, E_X1_nestOn_93, E_X1_nestOn_96, E_X1_nestOn_96n, E_X1_nestOn_97, E_X1_nestOn_97n, E_X1_nestOn_98, E_X1_nestOn_101, E_X1_nestOn_104, E_X1_nestOn_107, zwith_some, zwith_none, zif_true, zaft_inl, Option.toList_some, Option.toList_none, List.cons_append, List.nil_append, zc1_int, zc1_ref, zc1_null, zc1_float, List.length_nil, List.length_cons, Nat.reduceAdd, Nat.reduceLeDiff, Nat.zero_add, z1and, z0and, zl00, zl01, zl02, zl03, ze00, ze10, ze20, ze30, if_true, if_false, cg_stk h I.stk, cg_jb h hlj, hde, rfv_s, cg_dr h hld, cis_ou h hlo, hw, hh, L.pt.1.n0]
  rw [← eW, ← eH]
  have hl := C_nest_l (X := X) (d := d) (P := P) (st0 := st) (R0 := R) (w := nsW R j true) (hh := nsW R j false) (v := R.1 2 (tN (R.1 13 j))) I hj hjn.2.2 (j4.trans hjn.1) hjn.1 hde hdd e13 (by rw [e13]; exact d3) (j5.trans h0) hj6 L.pt.2.1 L.pt.2.2 (tN (R.1 14 j)) 0 st G V R (.retAddr 0) (by omega) h (Sta.same h (Nat.le_refl _)) I (fN.of fP.refl) L.pt I0 NS_0 hj1 (fun i hi => absurd hi (Nat.not_lt_zero i)) (j5.trans h0) hj6 hK
  exact hl
theorem DR_o {i : Nat} (h : DR V R i) (h2 : V'.i 2 i = V.i 2 i) (h3 : V'.i 3 i = V.i 3 i) (h7 : V'.i 7 (2 * i) = V.i 7 (2 * i)) (hs : V'.s (2 * i) = V.s (2 * i)) (hR : ∀ k, k < 5 → R'.1 k = R.1 k) : DR V' R' i := by
  have r0 := hR 0 (by decide)
  have r1 := hR 1 (by decide)
  have r2 := hR 2 (by decide)
  have r3 := hR 3 (by decide)
  have r4 := hR 4 (by decide)
  unfold DR
  rw [r0, r1, r2, r3, r4]
  exact ⟨h2.trans h.1, h3.trans h.2.1, oul_o h.2.2 h7 hs⟩
/-- a try keeps the relation -/
theorem REL_nest (L : REL V R) (I : CI G V) (hj : j < nJ V) (hn2 : R.1 15 j ≠ 2) (F : fN V V' j) (J : PT V' R' (nP R')) (hJ : JR V' R' j) (O : nsO R R' j) (hI : IR R') (hT : JT R') (hS : SH R') : REL V' R' := by
  obtain ⟨O1, O2, O3, O4, O5⟩ := O
  have eD : nD V' = nD V := congrArg tN (F.i 1 0 (by decide) (by omega) (by omega))
  have eJ : nJ V' = nJ V := congrArg tN (F.i 1 1 (by decide) (by omega) (by omega))
  refine ⟨⟨?_, ?_⟩, ⟨?_, ?_, ?_, ?_⟩, ?_, ?_, J, hI, hT, hS, ?_⟩
  · rw [eD, O4 5 (by decide)]; exact L.nn.1
  · rw [eJ, O4 21 (by decide)]; exact L.nn.2
  · rw [F.w.1, O4 15 (by decide)]; exact L.nu.1
  · rw [F.w.2, O4 23 (by decide)]; exact L.nu.2.1
  · rw [F.u, O5]; exact L.nu.2.2.1
  · rw [F.u]; exact L.nu.2.2.2
  · intro i hi
    rw [eD] at hi
    exact DR_o (L.dr i hi) (F.i 2 i (by decide) (by omega) (by omega)) (F.i 3 i (by decide) (by omega) (by omega)) (F.i 7 (2 * i) (by decide) (by omega) (by omega)) (by rw [F.s]) (fun k hk => O1 k (by omega) (by omega) (by omega) (by omega))
  · intro k hk
    rw [eJ] at hk
    by_cases e : k = j
    · rw [e]; exact hJ
    · obtain ⟨a1, a2, a3, a4, a5⟩ := L.jr k hk
      have hkR : k < tN (R.2.1 21) := by rw [← L.nn.2]; exact hk
      have hn6 := (L.ir.jn k hkR).2.2
      have e15 := (O2 k e).1
      have e16 := (O2 k e).2
      have e13 := O1 13 (by omega) (by decide) (by decide) (by decide)
      have e14 := O1 14 (by omega) (by decide) (by decide) (by decide)
      refine ⟨?_, ?_, ?_, ?_, ?_⟩
      · rw [F.i 4 k (by decide) (by omega) (by omega), e14]; exact a1
      · rw [F.i 5 k (by decide) (by omega) (by omega), e15]; exact a2
      · rw [F.ro, e13]; exact a3
      · rw [e15, e14, e16, F.i 6 k (by decide) (by omega) (by omega), F.i 1 (k + 4) (by decide) (by omega) (by omega), (F.e (k + 4) (by omega) (by omega)).1]
        intro z
        obtain ⟨b1, b2, b3⟩ := a4 z
        refine ⟨b1, b2, fun i hi => ?_⟩
        rw [b3 i hi]
        exact congrArg some (congrArg tN (O3 _ (by omega)).symm)
      · rw [e15, F.i 6 k (by decide) (by omega) (by omega), F.i 1 (k + 4) (by decide) (by omega) (by omega)]
        exact a5
  · exact CT_o L.ct (fun n hn => by rw [eJ] at hn; rw [(F.e n (by omega) (by omega)).2]; exact L.ct.1 n hn) (F.e 2 (by decide) (by omega)).1 F.u (F.i 1 2 (by decide) (by omega) (by omega)) (fun i k e => ⟨F.i 4 k (by decide) (by omega) (by omega), F.i 7 _ (by decide) (by omega) (by omega), by rw [F.s]⟩) fun i k e => F.i 5 k (by decide) (by omega) (fun z => hn2 (by
      have h5 := (L.ct.2.2.2 i k e).2.2.2
      rw [z.2, (L.jr j hj).2.1] at h5
      exact h5))
theorem REL_nsF (L : REL V R) (I : CI G V) (hj : j < nJ V) (h0 : R.1 15 j = 0) (F : fN V V' j) (J : PT V' (nsF R j) (nP (nsF R j))) (hJ : JR V' (nsF R j) j) : REL V' (nsF R j) := by
  have hjR : j < tN (R.2.1 21) := by rw [← L.nn.2]; exact hj
  obtain ⟨O, hT, hS⟩ := nsF_all L.ir L.pt.2.1 L.jt L.sh hjR h0
  exact REL_nest L I hj (by rw [h0]; decide) F J hJ O (nsF_IR L.ir hjR) hT hS
theorem C_try_l (K : ∀ st' G' V', Sta st0 G0 V0 st' G' V' → CI G' V' → REL V' R' → nC V' = nC V0 → nJ V' = nJ V0 → P (.inl none) (cw st' G' V')) : ∀ (m j : Nat) (st : ZS) (G : CG) (V : CV) (R : MR) (l2 : Value), j + m = nJ V → cok st G → Sta st0 G0 V0 st G V → CI G V → REL V R → nC V = nC V0 → nJ V = nJ V0 → trl m j R = R' → AW X (d + 10) 69 2 [.ref (G.A .kx), .int (nI j), l2] [] (cw st G V) P := by
  intro m
  induction m with
  | zero =>
    intro j st G V R l2 hj h S I L hc hJ ht
    have hal := I.al (n := 1) (by omega)
    have hle : nI (nJ V) ≤ nI j := by rw [← hj]; exact Int32.le_refl _
    rw [E_X5_tryWaiting_2]
    simp only [E_X5_tryWaiting_0, E_X5_tryWaiting_1, E_X5_tryWaiting_3, E_X5_tryWaiting_3n, E_X5_tryWaiting_4, E_X5_tryWaiting_7, E_X5_tryWaiting_10, E_X5_tryWaiting_13, E_X5_tryWaiting_13n, E_X5_tryWaiting_14, E_X5_tryWaiting_17, E_X5_tryWaiting_18, E_X5_tryWaiting_21, E_X5_tryWaiting_21n, E_X5_tryWaiting_24, E_X5_tryWaiting_24n, E_X5_tryWaiting_25, E_X5_tryWaiting_25n, E_X5_tryWaiting_26, E_X5_tryWaiting_29, E_X5_tryWaiting_32, E_X5_tryWaiting_32n, E_X5_tryWaiting_33, E_X5_tryWaiting_36, E_X5_tryWaiting_39, E_X5_tryWaiting_40, E_X5_tryWaiting_43, E_X5_tryWaiting_43n, E_X5_tryWaiting_44, E_X5_tryWaiting_44n, E_X5_tryWaiting_45, E_X5_tryWaiting_48, E_X5_tryWaiting_51, E_X5_tryWaiting_54, E_X5_tryWaiting_57, zwith_some, zwith_none, zif_true, zaft_inl, Option.toList_some, Option.toList_none, List.cons_append, List.nil_append, zc1_int, zc1_ref, zc1_null, zc1_float, List.length_nil, List.length_cons, Nat.reduceAdd, Nat.reduceLeDiff, Nat.zero_add, z1and, z0and, zl00, zl01, zl02, zl03, ze00, ze10, ze20, ze30, if_true, if_false, cg_kx h I.kx, cis_al h hal, C_size h hal, I.lj.1.sz, hle]
    refine K st G V S I ?_ hc hJ
    rw [← ht]
    exact L
  | succ m ih =>
    intro j st G V R l2 hj h S I L hc hJ ht
    have hjV : j < nJ V := by omega
    have hj30 := I.lj.2.1
    have hal := I.al (n := 1) (by omega)
    have hlt : ¬ nI (nJ V) ≤ nI j := nI_ge hjV (by omega)
    have hg := fun {d} {P} => C_get (X := X) (d := d) (P := P) (V := V) (q := j) h hal (I.gr I.lj.1 (by omega) (show 0 < nJ V by omega)) I.lj.1 hjV (I.lj.2.2 j hjV)
    rw [show ek 1 j = CK.jb j from rfl] at hg
    have hlj := I.jb hjV
    obtain ⟨dd, hde, hdd⟩ := I.de j hjV
    have hld := I.dr hdd
    obtain ⟨j4, j5, jr0, _, _⟩ := L.jr j hjV
    have e13 : tN (R.1 13 j) = dd := by
      rw [hde] at jr0
      exact (Option.some.inj jr0).symm
    have d2 := (L.dr dd hdd).1
    have htr : trl (m + 1) j R = trl m (j + 1) (if R.1 15 j = 0 ∧ R.1 0 (tN (R.1 13 j)) = 1 then nsF R j else R) := rfl
    rw [htr, e13] at ht
    rw [E_X5_tryWaiting_2]
    simp only [E_X5_tryWaiting_0, E_X5_tryWaiting_1, E_X5_tryWaiting_3, E_X5_tryWaiting_3n, E_X5_tryWaiting_4, E_X5_tryWaiting_7, E_X5_tryWaiting_10, E_X5_tryWaiting_13, E_X5_tryWaiting_13n, E_X5_tryWaiting_14, E_X5_tryWaiting_17, E_X5_tryWaiting_18, E_X5_tryWaiting_21, E_X5_tryWaiting_21n, E_X5_tryWaiting_24, E_X5_tryWaiting_24n, E_X5_tryWaiting_25, E_X5_tryWaiting_25n, E_X5_tryWaiting_26, E_X5_tryWaiting_29, E_X5_tryWaiting_32, E_X5_tryWaiting_32n, E_X5_tryWaiting_33, E_X5_tryWaiting_36, E_X5_tryWaiting_39, E_X5_tryWaiting_40, E_X5_tryWaiting_43, E_X5_tryWaiting_43n, E_X5_tryWaiting_44, E_X5_tryWaiting_44n, E_X5_tryWaiting_45, E_X5_tryWaiting_48, E_X5_tryWaiting_51, E_X5_tryWaiting_54, E_X5_tryWaiting_57, zwith_some, zwith_none, zif_true, zaft_inl, Option.toList_some, Option.toList_none, List.cons_append, List.nil_append, zc1_int, zc1_ref, zc1_null, zc1_float, List.length_nil, List.length_cons, Nat.reduceAdd, Nat.reduceLeDiff, Nat.zero_add, z1and, z0and, zl00, zl01, zl02, zl03, ze00, ze10, ze20, ze30, if_true, if_false, cg_kx h I.kx, cis_al h hal, C_size h hal, I.lj.1.sz, hlt, hg, cis_jb h hlj, cg_jb h hlj, j5, hde, rfv_s, cg_dr h hld, d2]
    by_cases c1 : R.1 15 j = 0
    · by_cases c2 : R.1 0 dd = 1
      · rw [if_pos ⟨c1, c2⟩] at ht
        simp only [c1, c2, not_true, if_false]
        refine C_nestOn h I L hjV c1 ?_
        intro st1 G1 V1 S1 I1 F1 J1 JR1
        have L1 := REL_nsF L I hjV c1 F1 J1 JR1
        have eA := S1.ex.A .kx (by decide) I.kx
        have eJ : nJ V1 = nJ V := congrArg tN (F1.i 1 1 (by decide) (by omega) (by omega))
        have eC : nC V1 = nC V := congrArg tN (F1.i 1 2 (by decide) (by omega) (by omega))
        simp only [E_X5_tryWaiting_0, E_X5_tryWaiting_1, E_X5_tryWaiting_3, E_X5_tryWaiting_3n, E_X5_tryWaiting_4, E_X5_tryWaiting_7, E_X5_tryWaiting_10, E_X5_tryWaiting_13, E_X5_tryWaiting_13n, E_X5_tryWaiting_14, E_X5_tryWaiting_17, E_X5_tryWaiting_18, E_X5_tryWaiting_21, E_X5_tryWaiting_21n, E_X5_tryWaiting_24, E_X5_tryWaiting_24n, E_X5_tryWaiting_25, E_X5_tryWaiting_25n, E_X5_tryWaiting_26, E_X5_tryWaiting_29, E_X5_tryWaiting_32, E_X5_tryWaiting_32n, E_X5_tryWaiting_33, E_X5_tryWaiting_36, E_X5_tryWaiting_39, E_X5_tryWaiting_40, E_X5_tryWaiting_43, E_X5_tryWaiting_43n, E_X5_tryWaiting_44, E_X5_tryWaiting_44n, E_X5_tryWaiting_45, E_X5_tryWaiting_48, E_X5_tryWaiting_51, E_X5_tryWaiting_54, E_X5_tryWaiting_57, zwith_some, zwith_none, zif_true, zaft_inl, Option.toList_some, Option.toList_none, List.cons_append, List.nil_append, zc1_int, zc1_ref, zc1_null, zc1_float, List.length_nil, List.length_cons, Nat.reduceAdd, Nat.reduceLeDiff, Nat.zero_add, z1and, z0and, zl00, zl01, zl02, zl03, ze00, ze10, ze20, ze30, if_true, if_false, nI_1]
        rw [← eA]
        exact ih (j + 1) st1 G1 V1 _ _ (by omega) S1.ok (S.trans S1) I1 L1 (eC.trans hc) (eJ.trans hJ) ht
      · rw [if_neg (fun z => c2 z.2)] at ht
        simp only [c1, c2, not_true, not_false_iff, if_true, if_false, nI_1]
        exact ih (j + 1) st G V R _ (by omega) h S I L hc hJ ht
    · rw [if_neg (fun z => c1 z.1)] at ht
      simp only [c1, not_false_iff, if_true, nI_1]
      exact ih (j + 1) st G V R _ (by omega) h S I L hc hJ ht
theorem C_try (h : cok st G) (I : CI G V) (L : REL V R) (K : ∀ st' G' V', Sta st G V st' G' V' → CI G' V' → REL V' (trF R) → nC V' = nC V → nJ V' = nJ V → P (.inl none) (cw st' G' V')) : AC X (d + 11) 69 [.ref (G.A .kx)] (cw st G V) P := by
  rw [A_X5_tryWaiting]
  simp only [E_X5_tryWaiting_0, E_X5_tryWaiting_1, E_X5_tryWaiting_3, E_X5_tryWaiting_3n, E_X5_tryWaiting_4, E_X5_tryWaiting_7, E_X5_tryWaiting_10, E_X5_tryWaiting_13, E_X5_tryWaiting_13n, E_X5_tryWaiting_14, E_X5_tryWaiting_17, E_X5_tryWaiting_18, E_X5_tryWaiting_21, E_X5_tryWaiting_21n, E_X5_tryWaiting_24, E_X5_tryWaiting_24n, E_X5_tryWaiting_25, E_X5_tryWaiting_25n, E_X5_tryWaiting_26, E_X5_tryWaiting_29, E_X5_tryWaiting_32, E_X5_tryWaiting_32n, E_X5_tryWaiting_33, E_X5_tryWaiting_36, E_X5_tryWaiting_39, E_X5_tryWaiting_40, E_X5_tryWaiting_43, E_X5_tryWaiting_43n, E_X5_tryWaiting_44, E_X5_tryWaiting_44n, E_X5_tryWaiting_45, E_X5_tryWaiting_48, E_X5_tryWaiting_51, E_X5_tryWaiting_54, E_X5_tryWaiting_57, zwith_some, zwith_none, zif_true, zaft_inl, Option.toList_some, Option.toList_none, List.cons_append, List.nil_append, zc1_int, zc1_ref, zc1_null, zc1_float, List.length_nil, List.length_cons, Nat.reduceAdd, Nat.reduceLeDiff, Nat.zero_add, z1and, z0and, zl00, zl01, zl02, zl03, ze00, ze10, ze20, ze30, if_true, if_false]
  exact C_try_l K (nJ V) 0 st G V R _ (by omega) h (Sta.same h (Nat.le_refl _)) I L rfl rfl (by unfold trF; rw [← L.nn.2])
end TR
