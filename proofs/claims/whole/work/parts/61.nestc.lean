/-! JOBS: nestOn is the reference's nests -/
section NO
variable {X : ZX} {d : Nat} {st st0 : ZS} {G G0 : CG} {V V' V0 : CV} {P : ZO → ZS → Prop} {x y : Int32} {n m p q r j k : Nat} {R R0 R' : MR} {f g : Nat → Nat}
theorem kn_ar {c c' : Nat → Nat} {nd nj np a : Nat} (h1 : ∀ n, n ≠ a → c' n = c n) (h3 : c' a ≠ 0) (ha : a < nj + 4) (k : CK) : (kn c nd nj np k ∨ k = .ar a) ↔ kn c' nd nj np k := by
  obtain ⟨b, e⟩ := k
  unfold kn CK.ar
  simp only [Prod.mk.injEq]
  rcases b with _ | _ | _ | _ | _ | _ | _ | _ | _ | b
  · rcases e with _ | e
    · simp
    · simp
  · rcases e with _ | e
    · simp
    · simp
  · simp
  · show ((e < nj + 4 ∧ c e ≠ 0) ∨ (3 = 3 ∧ e = a)) ↔ (e < nj + 4 ∧ c' e ≠ 0)
    by_cases z : e = a
    · rw [z]
      exact ⟨fun _ => ⟨ha, h3⟩, fun _ => .inr ⟨rfl, rfl⟩⟩
    · rw [h1 e z]
      exact ⟨fun w => w.elim id fun w => absurd w.2 z, .inl⟩
  · simp
  · simp
  · simp
  · simp
  · simp
  · simp
/-- one more in a list of parts -/
theorem CI_al {G' : CG} {c : Nat} (I : CI G V) (hj : j < nJ V) (hl : lok (vL V (j + 4) m q c) (j + 4) (m + 1) (nQ V)) (h6 : m + 1 ≤ 6) (hG : ∀ k, G'.live k ↔ G.live k ∨ k = .ar (j + 4)) : CI G' (vL V (j + 4) m q c) := by
  have e0 : nD (vL V (j + 4) m q c) = nD V := congrArg tN (vL_i' (by omega))
  have e1 : nJ (vL V (j + 4) m q c) = nJ V := congrArg tN (vL_i' (by omega))
  have e2 : nC (vL V (j + 4) m q c) = nC V := congrArg tN (vL_i' (by omega))
  have e3 : nQ (vL V (j + 4) m q c) = nQ V := congrArg tN (vL_i' (by omega))
  refine ⟨?_, ?_, ?_, ?_, ?_, ?_, ?_, ?_, ?_⟩
  · intro k
    rw [hG, I.gi, e0, e1, e3]
    exact kn_ar (fun n hn => by rw [vL_c, if_neg hn]) (by have := hl.le; omega) (by omega) k
  · rw [e0, vL_e, if_neg (by omega)]; exact ⟨lok_addo I.ld.1 (by omega), I.ld.2⟩
  · rw [e1, vL_e, if_neg (by omega)]; exact ⟨lok_addo I.lj.1 (by omega), I.lj.2⟩
  · rw [e1, e2]; exact lok_addo I.lc (by omega)
  · rw [e3, vL_e, if_neg (by omega)]; exact ⟨lok_addo I.lq.1 (by omega), I.lq.2⟩
  · intro k hk
    rw [e1] at hk
    rw [e3]
    by_cases e : k = j
    · subst e
      have : nA (vL V (k + 4) m q c) k = m + 1 := by
        unfold nA
        rw [hl.sz]
        exact tN_nI (by omega)
      rw [this]
      exact ⟨hl, h6⟩
    · have : nA (vL V (j + 4) m q c) k = nA V k := congrArg tN (vL_i' (by omega))
      rw [this]
      exact ⟨lok_addo (I.la k hk).1 (by omega), (I.la k hk).2⟩
  · intro k hk
    rw [e1] at hk
    rw [e0]
    exact I.de k hk
  · rw [e3]; exact I.pr
  · rw [e3]; exact I.pw
theorem fN.vl {c : Nat} (h : fN V V' j) : fN V (vL V' (j + 4) m q c) j := ⟨fun c' k a b e => (vL_i' (by omega)).trans (h.i c' k a b e), ⟨(vL_i' (by omega)).trans h.w.1, (vL_i' (by omega)).trans h.w.2⟩, h.ro, fun k a b => ⟨by rw [vL_e, if_neg b]; exact (h.e k a b).1, by rw [vL_c, if_neg b]; exact (h.e k a b).2⟩, h.s, h.u, by
  have : nQ (vL V' (j + 4) m q c) = nQ V' := congrArg tN (vL_i' (by omega))
  rw [this]; exact h.qq⟩
theorem PI_R (J : PI V R n) (h : ∀ j, 6 ≤ j → j ≤ 12 → R'.1 j = R.1 j) : PI V R' n := by
  have h11 := h 11 (by decide) (by decide)
  have h12 := h 12 (by decide) (by decide)
  refine ⟨J.n0, J.le, fun q hq => ?_⟩
  have hJ := J.pp q hq
  refine ⟨fun c h8 h13 => ?_, ?_, ?_, ?_, ?_⟩
  · rw [h (c - 2) (by omega) (by omega)]
    exact hJ.v c h8 h13
  · rw [h12]; exact hJ.w
  · rw [h11, h12]; exact hJ.ch
  · rw [h11]; exact hJ.lt
  · rw [h11]; exact hJ.no
theorem PT_R (J : PT V R n) (h : ∀ j, 6 ≤ j → j ≤ 12 → R'.1 j = R.1 j) : PT V R' n := by
  refine ⟨PI_R J.1 h, ?_, ?_⟩
  · rw [h 11 (by decide) (by decide), h 12 (by decide) (by decide)]; exact J.2.1
  · rw [h 12 (by decide) (by decide)]; exact J.2.2
theorem szl_c {a b a' b' : Nat → Int32} : ∀ m, (∀ k, k < m → a k = a' k ∧ b k = b' k) → szl a b m = szl a' b' m ∧ szm a b m = szm a' b' m
  | 0, _ => ⟨rfl, rfl⟩
  | m + 1, h => by
    obtain ⟨h1, h2⟩ := szl_c m fun k hk => h k (by omega)
    obtain ⟨h3, h4⟩ := h m (by omega)
    show mn2 (mn2 (szl a b m) (a m)) (b m) = mn2 (mn2 (szl a' b' m) (a' m)) (b' m) ∧ mx2 (mx2 (szm a b m) (a m)) (b m) = mx2 (mx2 (szm a' b' m) (a' m)) (b' m)
    rw [h1, h2, h3, h4]
    exact ⟨rfl, rfl⟩
/-- the class's drawing is the reference's -/
abbrev DR (V : CV) (R : MR) (i : Nat) : Prop := V.i 2 i = R.1 0 i ∧ V.i 3 i = R.1 2 i ∧ oul V (2 * i) (tN (R.1 1 i)) (fun k => tN (R.1 3 (24 * i + k))) (fun k => tN (R.1 4 (24 * i + k)))
theorem siz_ext {i : Nat} (hp : pts R i m f g) (b : Bool) : siz (ext b f) (ext b g) m = siz (cra R i b) (crb R i b) m := by
  obtain ⟨h1, h2⟩ := szl_c (a := ext b f) (b := ext b g) (a' := cra R i b) (b' := crb R i b) m fun k hk => by
    obtain ⟨⟨p1, p2, p3⟩, p4, p5⟩ := hp k hk
    have k1 := pk_rem (a := f k) (d := 32) (by omega) (by decide) (by decide)
    have k2 := pk_rem (a := g k) (d := 32) (by omega) (by decide) (by decide)
    have k3 := pk_div (a := f k) (d := 32) (by omega) (by decide) (by decide)
    have k4 := pk_div (a := g k) (d := 32) (by omega) (by decide) (by decide)
    unfold ext cra crb crd
    rw [p4, p5]
    cases b with
    | true =>
      simp only [if_true]
      exact ⟨k1.symm, k2.symm⟩
    | false =>
      simp only [Bool.false_eq_true, if_false]
      exact ⟨k3.symm, k4.symm⟩
  unfold siz
  rw [h1, h2]
abbrev JR (V : CV) (R : MR) (j : Nat) : Prop := V.i 4 j = R.1 14 j ∧ V.i 5 j = R.1 15 j ∧ V.r 0 j = some (tN (R.1 13 j)) ∧ (R.1 15 j = 1 ∨ R.1 15 j = 2 → V.i 6 j = R.1 16 j ∧ V.i 1 (j + 4) = R.1 14 j ∧ ∀ i, i < tN (R.1 14 j) → V.e (j + 4) i = some (jf R j i)) ∧ (R.1 15 j = 0 ∨ R.1 15 j = 3 → V.i 6 j = -1 ∧ V.i 1 (j + 4) = 0)
theorem tks_f {po : Nat → Int32} : ∀ (c : Nat) (pk : Nat → Int32), (∀ i, i < c → f i = g i) → tks n po f c pk = tks n po g c pk
  | 0, _, _ => rfl
  | c + 1, pk, h => by
    show tks n po f c (fre n po pk (f c)) = tks n po g c (fre n po pk (g c))
    rw [h c (by omega), tks_f c _ fun i hi => h i (by omega)]
theorem TI_c {po po' pk pk' : Nat → Int32} (T : TI po pk n) (h1 : ∀ q, q < n → po' q = po q) (h2 : ∀ q, q < n → pk' q = pk q) : TI po' pk' n := by
  refine ⟨fun q hq => ?_, fun q p hq hp ho h3 => ?_, fun p hp hp2 => ?_⟩
  · rw [h2 q hq]; exact T.k q hq
  · rw [h1 q hq] at ho
    rw [h2 q hq] at h3
    rw [h2 p hp]
    exact T.pa q p hq hp ho h3
  · rw [h2 p hp] at hp2
    obtain ⟨q, hq, ho, hs⟩ := T.ch p hp hp2
    exact ⟨q, hq, by rw [h1 q hq]; exact ho, by rw [h2 q hq]; exact hs⟩
theorem frp_c {po po' : Nat → Int32} (F : frp po n) (h1 : ∀ q, q < n → po' q = po q) : frp po' n := fun q hq => by
  rw [h1 q hq]; exact F q hq
/-- a try that fails leaves the pieces as they were -/
theorem PT_back {w : Nat → Nat} (N : NS R0 R j k) (I : nsI R0 j k R) (J : PT V R (nP R)) (T0 : TI (R0.1 12) (R0.1 11) (nP R0)) (F0 : frp (R0.1 12) (nP R0)) (hw : ∀ i, i < k → w i < nP R ∧ R.1 12 (jf R j i) = nI (w i)) (h14 : V'.i 14 0 = nI (nP R0)) (hQ : nP R0 ≤ nQ V') (hi : ∀ c q, 8 ≤ c → c ≤ 13 → c ≠ 13 → V'.i c q = V.i c q) (h13 : ∀ q, ((∃ a, a < k ∧ w a = q) → V'.i 13 q = 0 ∧ ∀ a, (a = 2 ∨ a = 3 ∨ a = 4) → V'.r a q = none) ∧ ((¬ ∃ a, a < k ∧ w a = q) → V'.i 13 q = V.i 13 q ∧ ∀ a, V'.r a q = V.r a q)) (h1 : ∀ q, V'.r 1 q = V.r 1 q) (hR : ∀ i, 6 ≤ i → i ≤ 12 → i ≠ 11 → R'.1 i = R.1 i) (hR11 : ∀ q, q < nP R0 → R'.1 11 q = R0.1 11 q) : PT V' R' (nP R0) := by
  obtain ⟨N1, N2, N3, N4, N5, N6⟩ := N
  have h4 := I.n4
  have hnn := I.nn
  have h12 : ∀ q, q < nP R0 → R.1 12 q = R0.1 12 q := fun q hq => I.ps 12 (by decide) (by decide) q hq
  have hR12 := hR 12 (by decide) (by decide) (by decide)
  have hwl : ∀ q, q < nP R0 → (∃ a, a < k ∧ w a = q) → R0.1 11 q = 0 := by
    rintro q hq ⟨i, hi, e⟩
    obtain ⟨a1, a2, _⟩ := N1 i hi
    obtain ⟨p, hp, ho, h0⟩ := N6 _ a2 a1
    have : w i = p := (nI_eq (by have := (hw i hi).1; omega) (by omega)).mp ((hw i hi).2.symm.trans ho)
    rw [← e, this]
    exact h0 (by omega)
  have hwn : ∀ q, q < nP R0 → (¬ ∃ a, a < k ∧ w a = q) → R.1 11 q = R0.1 11 q := by
    intro q hq c
    rcases N5 q hq with z | ⟨_, _, i, hi, z⟩
    · exact z
    · exact absurd ⟨i, hi, (nI_eq (by have := (hw i hi).1; omega) (by omega)).mp ((hw i hi).2.symm.trans z)⟩ c
  refine ⟨⟨h14, ⟨hQ, by omega⟩, fun q hq => ⟨?_, ?_, ?_, ?_, ?_⟩⟩, TI_c T0 (fun q hq => by rw [hR12, h12 q hq]) hR11, frp_c F0 (fun q hq => by rw [hR12, h12 q hq])⟩
  · intro c h8 h13'
    by_cases e : c = 13
    · subst e
      show V'.i 13 q = R'.1 11 q
      rw [hR11 q hq]
      by_cases c : ∃ a, a < k ∧ w a = q
      · rw [((h13 q).1 c).1, hwl q hq c]
      · rw [((h13 q).2 c).1, (J.1.pp q (by omega)).v 13 (by decide) (by decide)]
        exact hwn q hq c
    · rw [hi c q h8 h13' e, (J.1.pp q (by omega)).v c h8 h13', hR (c - 2) (by omega) (by omega) (by omega)]
  · rw [h1, hR12]
    exact (J.1.pp q (by omega)).w
  · intro h2 q' hq'
    rw [hR11 q hq] at h2
    have c : ¬ ∃ a, a < k ∧ w a = q := fun c => by
      rw [hwl q hq c] at h2
      exact absurd h2 (by decide)
    have hr := ((h13 q).2 c).2
    have hR2 : R.1 11 q = 2 := (hwn q hq c).trans h2
    rw [hr 2, hr 3, hr 4, hR12, hR11 q' hq']
    refine Iff.trans ?_ ((J.1.pp q (by omega)).ch hR2 q' (by omega))
    have := N4 q' (by omega)
    exact ⟨fun z => ⟨z.1, fun y => z.2 (this.mp y).2⟩, fun z => ⟨z.1, fun y => z.2 (this.mpr ⟨hq', y⟩)⟩⟩
  · intro h2 a q' ha hq'
    rw [hR11 q hq] at h2
    have c : ¬ ∃ a, a < k ∧ w a = q := fun c => by
      rw [hwl q hq c] at h2
      exact absurd h2 (by decide)
    have hr := ((h13 q).2 c).2
    have hR2 : R.1 11 q = 2 := (hwn q hq c).trans h2
    rw [hr a] at hq'
    have hJ := J.1.pp q (by omega)
    have hlt := hJ.lt hR2 a q' ha hq'
    have hch := ((hJ.ch hR2 q' hlt).mpr (by
      rcases ha with rfl | rfl | rfl
      · exact .inl hq'
      · exact .inr (.inl hq')
      · exact .inr (.inr hq'))).1
    rcases Nat.lt_or_ge q' (nP R0) with z | z
    · exact z
    · obtain ⟨p, hp, ho, h0⟩ := N6 q' z hlt
      have : p = q := (nI_eq (by omega) (by omega)).mp (ho.symm.trans hch)
      rw [this] at h0
      rw [h0 hq] at h2
      exact absurd h2 (by decide)
  · intro h2 a ha
    rw [hR11 q hq] at h2
    by_cases c : ∃ a, a < k ∧ w a = q
    · exact ((h13 q).1 c).2 a ha
    · rw [((h13 q).2 c).2 a]
      exact (J.1.pp q (by omega)).no (fun z => h2 (by rw [← hwn q hq c]; exact z)) a ha
/-- what the loop of nestOn comes to -/
theorem C_nest_l (I00 : CI G0 V0) {c dd : Nat} {w hh v : Int32} (hj : j < nJ V0) (hc6 : c ≤ 6) (h4 : V0.i 4 j = nI c) (hR14 : R0.1 14 j = nI c) (h0 : V0.r 0 j = some dd) (hdd : dd < nD V0) (hR13 : tN (R0.1 13 j) = dd) (hv : V0.i 3 dd = v) (hst0 : V0.i 5 j = 0) (hv6 : V0.i 6 j = -1) (T0 : TI (R0.1 12) (R0.1 11) (nP R0)) (F0 : frp (R0.1 12) (nP R0)) : ∀ (m k : Nat) (st : ZS) (G : CG) (V : CV) (R : MR) (l6 : Value), k + m = c → cok st G → Sta st0 G0 V0 st G V → CI G V → fN V0 V j → PT V R (nP R) → nsI R0 j k R → NS R0 R j k → V.i 1 (j + 4) = nI k → (∀ i, i < k → V.e (j + 4) i = some (jf R j i)) → V.i 5 j = 0 → V.i 6 j = -1 → (∀ st' G' V', Sta st0 G0 V0 st' G' V' → CI G' V' → fN V0 V' j → PT V' (nsE (nP R0) j v (nsl j w hh m k R)) (nP (nsE (nP R0) j v (nsl j w hh m k R))) → JR V' (nsE (nP R0) j v (nsl j w hh m k R)) j → P (.inl none) (cw st' G' V')) → AW X (d + 9) 3 35 [.ref (G.A (.jb j)), .ref (G.A .stk), .int (nI (nP R0)), .int w, .int hh, .int (nI k), l6] [] (cw st G V) P := by
  intro m
  induction m with
  | zero =>
    intro k st G V R l6 hk h S I F J N1 N2 hA he h5 h6 K
    have e : k = c := by omega
    subst e
    have hjV : j < nJ V := by unfold nJ; rw [F.i 1 1 (by decide) (by omega) (by omega)]; exact hj
    have hlj := I.jb hjV
    have hdV : dd < nD V := by unfold nD; rw [F.i 1 0 (by decide) (by omega) (by omega)]; exact hdd
    have hld := I.dr hdV
    have hle : nI k ≤ nI k := nI_le (Nat.le_refl _) (by omega)
    have e4 : V.i 4 j = nI k := (F.i 4 j (by decide) (by omega) (by omega)).trans h4
    have e0 : V.r 0 j = some dd := (F.ro j).trans h0
    have ev : V.i 3 dd = v := (F.i 3 dd (by decide) (by omega) (by omega)).trans hv
    rw [E_X1_nestOn_35]
    simp only [E_X1_nestOn_0, E_X1_nestOn_0n, E_X1_nestOn_1, E_X1_nestOn_4, E_X1_nestOn_5, E_X1_nestOn_5n, E_X1_nestOn_6, E_X1_nestOn_9, E_X1_nestOn_12, E_X1_nestOn_15, E_X1_nestOn_16, E_X1_nestOn_17, E_X1_nestOn_18, E_X1_nestOn_18n, E_X1_nestOn_19, E_X1_nestOn_22, E_X1_nestOn_25, E_X1_nestOn_28, E_X1_nestOn_29, E_X1_nestOn_30, E_X1_nestOn_32, E_X1_nestOn_33, E_X1_nestOn_37, E_X1_nestOn_37n, E_X1_nestOn_38, E_X1_nestOn_41, E_X1_nestOn_44, E_X1_nestOn_44n, E_X1_nestOn_45, E_X1_nestOn_46, E_X1_nestOn_48, E_X1_nestOn_51, E_X1_nestOn_51n, E_X1_nestOn_53, E_X1_nestOn_53n, E_X1_nestOn_55, E_X1_nestOn_55n, E_X1_nestOn_58, E_X1_nestOn_58n, E_X1_nestOn_59, E_X1_nestOn_59n, E_X1_nestOn_60, E_X1_nestOn_63, E_X1_nestOn_64, E_X1_nestOn_67, E_X1_nestOn_67n, E_X1_nestOn_68, E_X1_nestOn_71, E_X1_nestOn_74, E_X1_nestOn_75, E_X1_nestOn_75n, E_X1_nestOn_76, E_X1_nestOn_79, E_X1_nestOn_79n, E_X1_nestOn_81, E_X1_nestOn_84, E_X1_nestOn_84n, E_X1_nestOn_84i, E_X1_nestOn_84f, E_X1_nestOn_85, E_X1_nestOn_88, E_X1_nestOn_91, E_X1_nestOn_91n, E_X1_nestOn_92, E_X1_nestOn_93, E_X1_nestOn_96, E_X1_nestOn_96n, E_X1_nestOn_97, E_X1_nestOn_97n, E_X1_nestOn_98, E_X1_nestOn_101, E_X1_nestOn_104, E_X1_nestOn_107, zwith_some, zwith_none, zif_true, zaft_inl, Option.toList_some, Option.toList_none, List.cons_append, List.nil_append, zc1_int, zc1_ref, zc1_null, zc1_float, List.length_nil, List.length_cons, Nat.reduceAdd, Nat.reduceLeDiff, Nat.zero_add, z1and, z0and, zl00, zl01, zl02, zl03, ze00, ze10, ze20, ze30, if_true, if_false, cg_jb h hlj, cp_jb h hlj, e4, e0, rfv_s, cg_dr h hld, ev, hle, vI_r, vI_i]
    simp only [show ¬ (3 = 5 ∧ dd = j) from by omega, if_false, ev]
    refine K st G _ ?_ (CI.vi (CI.vi I (by decide)) (by decide)) ((F.vi (.inl rfl)).vi (.inr rfl)) ?_ ?_
    · refine ⟨S.ex, ?_⟩
      rw [pot_vI (by decide), pot_vI (by decide)]
      exact S.pt
    · refine PT_R (R := R) ⟨PI_o J.1 (fun c q a b => ?_) ?_ ?_ rfl, J.2⟩ (fun i a b => ?_)
      · rw [vI_oo (by omega), vI_oo (by omega)]
      · rw [vI_oo (by omega), vI_oo (by omega)]
      · rw [vI_oo (by omega), vI_oo (by omega)]
      · show (mA (mA R 15 _) 16 _).1 i = _
        rw [mA1, if_neg (by omega), mA1, if_neg (by omega)]
    · have q1 : (nsE (nP R0) j v (nsl j w hh 0 k R)).1 15 j = 1 := pk_us
      refine ⟨?_, ?_, ?_, ?_, ?_⟩
      · rw [vI_oo (by omega), vI_oo (by omega), e4]
        exact (hR14.symm.trans (congrFun (N1.ot 14 (by decide)) j).symm)
      · rw [vI_oo (by omega), vI_ss, q1]
      · show V.r 0 j = some (tN (R.1 13 j))
        rw [e0, N1.ot 13 (by decide), hR13]
      · intro _
        refine ⟨?_, ?_, ?_⟩
        · rw [vI_ss]
          exact (pk_us (f := R.1 16)).symm
        · rw [vI_oo (by omega), vI_oo (by omega), hA]
          exact (hR14.symm.trans (congrFun (N1.ot 14 (by decide)) j).symm)
        · intro i hi
          have hi : i < tN (R.1 14 j) := hi
          rw [N1.ot 14 (by decide), hR14, tN_nI (by omega)] at hi
          exact he i hi
      · intro z
        rw [q1] at z
        exact absurd z (by decide)
  | succ m ih =>
    intro k st G V R l6 hk h S I F J N1 N2 hA he h5 h6 K
    have hjV : j < nJ V := by unfold nJ; rw [F.i 1 1 (by decide) (by omega) (by omega)]; exact hj
    have hlj := I.jb hjV
    have hlt : ¬ nI c ≤ nI k := nI_ge (by omega) (by omega)
    have e4 : V.i 4 j = nI c := (F.i 4 j (by decide) (by omega) (by omega)).trans h4
    have hal := I.al (n := j + 4) (by omega)
    have hn4 := J.1.le.2
    rw [E_X1_nestOn_35]
    simp only [E_X1_nestOn_0, E_X1_nestOn_0n, E_X1_nestOn_1, E_X1_nestOn_4, E_X1_nestOn_5, E_X1_nestOn_5n, E_X1_nestOn_6, E_X1_nestOn_9, E_X1_nestOn_12, E_X1_nestOn_15, E_X1_nestOn_16, E_X1_nestOn_17, E_X1_nestOn_18, E_X1_nestOn_18n, E_X1_nestOn_19, E_X1_nestOn_22, E_X1_nestOn_25, E_X1_nestOn_28, E_X1_nestOn_29, E_X1_nestOn_30, E_X1_nestOn_32, E_X1_nestOn_33, E_X1_nestOn_37, E_X1_nestOn_37n, E_X1_nestOn_38, E_X1_nestOn_41, E_X1_nestOn_44, E_X1_nestOn_44n, E_X1_nestOn_45, E_X1_nestOn_46, E_X1_nestOn_48, E_X1_nestOn_51, E_X1_nestOn_51n, E_X1_nestOn_53, E_X1_nestOn_53n, E_X1_nestOn_55, E_X1_nestOn_55n, E_X1_nestOn_58, E_X1_nestOn_58n, E_X1_nestOn_59, E_X1_nestOn_59n, E_X1_nestOn_60, E_X1_nestOn_63, E_X1_nestOn_64, E_X1_nestOn_67, E_X1_nestOn_67n, E_X1_nestOn_68, E_X1_nestOn_71, E_X1_nestOn_74, E_X1_nestOn_75, E_X1_nestOn_75n, E_X1_nestOn_76, E_X1_nestOn_79, E_X1_nestOn_79n, E_X1_nestOn_81, E_X1_nestOn_84, E_X1_nestOn_84n, E_X1_nestOn_84i, E_X1_nestOn_84f, E_X1_nestOn_85, E_X1_nestOn_88, E_X1_nestOn_91, E_X1_nestOn_91n, E_X1_nestOn_92, E_X1_nestOn_93, E_X1_nestOn_96, E_X1_nestOn_96n, E_X1_nestOn_97, E_X1_nestOn_97n, E_X1_nestOn_98, E_X1_nestOn_101, E_X1_nestOn_104, E_X1_nestOn_107, zwith_some, zwith_none, zif_true, zaft_inl, Option.toList_some, Option.toList_none, List.cons_append, List.nil_append, zc1_int, zc1_ref, zc1_null, zc1_float, List.length_nil, List.length_cons, Nat.reduceAdd, Nat.reduceLeDiff, Nat.zero_add, z1and, z0and, zl00, zl01, zl02, zl03, ze00, ze10, ze20, ze30, if_true, if_false, cg_jb h hlj, e4, hlt, cis_stk h I.stk]
    refine C_lay h I J ?_ ?_
    · intro hl
      have hnsl : nsl j w hh (m + 1) k R = (mA R 17 (upd (R.1 17) (6 * j + k) (-1)), k, false) := by
        show (match layP R (nP R) w hh with
          | none => (mA R 17 (upd (R.1 17) (6 * j + k) (-1)), k, false)
          | some p => nsl j w hh m (k + 1) (mA (layX R (nP R) p w hh) 17 (upd (R.1 17) (6 * j + k) (nI (nP R))))) = _
        rw [hl]
      rw [hnsl] at K
      have hex : ∀ i, ∃ wi : Nat, i < k → wi < nP R ∧ R.1 12 (jf R j i) = nI wi := by
        intro i
        by_cases hi : i < k
        · obtain ⟨a1, a2, _⟩ := N2.1 i hi
          obtain ⟨p, hp, ho, _⟩ := N2.2.2.2.2.2 _ a2 a1
          exact ⟨p, fun _ => ⟨by omega, ho⟩⟩
        · exact ⟨0, fun z => absurd z hi⟩
      obtain ⟨wf, hwf⟩ := Classical.axiomOfChoice hex
      have hwr : ∀ i, i < k → jf R j i < nQ V ∧ V.r 1 (jf R j i) = some (wf i) := by
        intro i hi
        have a1 := (N2.1 i hi).1
        refine ⟨by have := J.1.le.1; omega, ?_⟩
        rcases (J.1.pp _ a1).w with ⟨_, z⟩ | ⟨q, hq, z1, z2⟩
        · rw [(hwf i hi).2] at z
          exact absurd z (nI_pos (by have := (hwf i hi).1; omega))
        · have : wf i = q := (nI_eq (by have := (hwf i hi).1; omega) (by omega)).mp ((hwf i hi).2.symm.trans z2)
          rw [this]; exact z1
      have hu := fun {d} {P} => C_undo (X := X) (d := d) (P := P) (n0 := nI (nP R0)) h I hjV (show k ≤ 6 by omega) hA he hwr
      have Fu := ud_fR (w := wf) k V
      have I2 : CI G (vI (ud wf k V) 14 0 (nI (nP R0))) := CI.vi (Fu.ci I) (by decide)
      have hj2 : j < nJ (vI (ud wf k V) 14 0 (nI (nP R0))) := by
        unfold nJ
        rw [vI_oo (by omega), Fu.1 1 1 (by decide)]
        exact hjV
      have hcl := fun {d} {P} => C_clear (X := X) (d := d) (P := P) (V := vI (ud wf k V) 14 0 (nI (nP R0))) h (I2.al (n := j + 4) (by omega)) (fun z => I2.ar (by omega) z) (I2.la j hj2).1
      simp only [E_X1_nestOn_0, E_X1_nestOn_0n, E_X1_nestOn_1, E_X1_nestOn_4, E_X1_nestOn_5, E_X1_nestOn_5n, E_X1_nestOn_6, E_X1_nestOn_9, E_X1_nestOn_12, E_X1_nestOn_15, E_X1_nestOn_16, E_X1_nestOn_17, E_X1_nestOn_18, E_X1_nestOn_18n, E_X1_nestOn_19, E_X1_nestOn_22, E_X1_nestOn_25, E_X1_nestOn_28, E_X1_nestOn_29, E_X1_nestOn_30, E_X1_nestOn_32, E_X1_nestOn_33, E_X1_nestOn_37, E_X1_nestOn_37n, E_X1_nestOn_38, E_X1_nestOn_41, E_X1_nestOn_44, E_X1_nestOn_44n, E_X1_nestOn_45, E_X1_nestOn_46, E_X1_nestOn_48, E_X1_nestOn_51, E_X1_nestOn_51n, E_X1_nestOn_53, E_X1_nestOn_53n, E_X1_nestOn_55, E_X1_nestOn_55n, E_X1_nestOn_58, E_X1_nestOn_58n, E_X1_nestOn_59, E_X1_nestOn_59n, E_X1_nestOn_60, E_X1_nestOn_63, E_X1_nestOn_64, E_X1_nestOn_67, E_X1_nestOn_67n, E_X1_nestOn_68, E_X1_nestOn_71, E_X1_nestOn_74, E_X1_nestOn_75, E_X1_nestOn_75n, E_X1_nestOn_76, E_X1_nestOn_79, E_X1_nestOn_79n, E_X1_nestOn_81, E_X1_nestOn_84, E_X1_nestOn_84n, E_X1_nestOn_84i, E_X1_nestOn_84f, E_X1_nestOn_85, E_X1_nestOn_88, E_X1_nestOn_91, E_X1_nestOn_91n, E_X1_nestOn_92, E_X1_nestOn_93, E_X1_nestOn_96, E_X1_nestOn_96n, E_X1_nestOn_97, E_X1_nestOn_97n, E_X1_nestOn_98, E_X1_nestOn_101, E_X1_nestOn_104, E_X1_nestOn_107, zwith_some, zwith_none, zif_true, zaft_inl, Option.toList_some, Option.toList_none, List.cons_append, List.nil_append, zc1_int, zc1_ref, zc1_null, zc1_float, List.length_nil, List.length_cons, Nat.reduceAdd, Nat.reduceLeDiff, Nat.zero_add, z1and, z0and, zl00, zl01, zl02, zl03, ze00, ze10, ze20, ze30, if_true, if_false, cg_jb h hlj, cis_stk h I.stk, hu, cis_al h hal, hcl]
      have hjn : ∀ i, i < k → tN ((mA R 17 (upd (R.1 17) (6 * j + k) (-1))).1 17 (6 * j + i)) = jf R j i := by
        intro i hi
        show tN (upd (R.1 17) (6 * j + k) (-1) (6 * j + i)) = tN (R.1 17 (6 * j + i))
        rw [pk_un (by omega)]
      have hnE : nP (nsE (nP R0) j v (mA R 17 (upd (R.1 17) (6 * j + k) (-1)), k, false)) = nP R0 := by
        show (nI (nP R0)).toNatClampNeg = _
        exact nI_clamp (by have := N1.nn; omega)
      have hQ0 : ∀ c q, c ≠ 13 → ¬ (c = 14 ∧ q = 0) → ¬ (c < 2 ∧ q = j + 4) → (vZ (vI (ud wf k V) 14 0 (nI (nP R0))) (j + 4)).i c q = V.i c q := by
        intro c q a b e
        rw [vZ_i e, vI_oo b, Fu.1 c q a]
      refine K st G _ ?_ (I2.vz hj2) ?_ ?_ ?_
      · refine ⟨S.ex, ?_⟩
        rw [pot_vZ (by omega), pot_vI (by decide), Fu.pt]
        exact S.pt
      · have F1 : fN V (vI (ud wf k V) 14 0 (nI (nP R0))) j := by
          have := fN.of (j := j) Fu.fp
          refine ⟨fun c' k' a b e => (vI_oo (by omega)).trans (this.i c' k' a b e), ⟨(vI_oo (by omega)).trans this.w.1, (vI_oo (by omega)).trans this.w.2⟩, this.ro, this.e, this.s, this.u, ?_⟩
          have e : nQ (vI (ud wf k V) 14 0 (nI (nP R0))) = nQ (ud wf k V) := congrArg tN (vI_oo (by omega))
          rw [e]; exact this.qq
        exact F.trans F1.vz
      · rw [hnE]
        refine PT_back (w := wf) N2 N1 J T0 F0 hwf ?_ ?_ (fun c q a b e => hQ0 c q e (by omega) (by omega)) (fun q => ?_) (fun q => (Fu.2.1 q).2) (fun i a b e => ?_) (fun q hq => ?_)
        · rw [vZ_i (by omega), vI_ss]
        · have e : nQ (vZ (vI (ud wf k V) 14 0 (nI (nP R0))) (j + 4)) = nQ V := congrArg tN (hQ0 1 3 (by decide) (by omega) (by omega))
          rw [e]
          have := J.1.le.1
          have := N1.nn
          omega
        · obtain ⟨u1, u2⟩ := ud_13 (w := wf) k V q
          refine ⟨fun z => ⟨?_, (u1 z).2⟩, fun z => ⟨?_, (u2 z).2⟩⟩
          · rw [vZ_i (by omega), vI_oo (by omega)]; exact (u1 z).1
          · rw [vZ_i (by omega), vI_oo (by omega)]; exact (u2 z).1
        · show (mF (mA (mA (mA R 17 _) 11 _) 15 _) 14 _).1 i = _
          rw [mF1, mA1, if_neg (by omega), mA1, if_neg e, mA1, if_neg (by omega)]
        · show tks (nP R) (R.1 12) (fun i => tN ((mA R 17 (upd (R.1 17) (6 * j + k) (-1))).1 17 (6 * j + i))) k (R.1 11) q = R0.1 11 q
          rw [tks_f k _ hjn]
          exact NS_back N2 (by omega) N1 J.2.1 J.2.2 T0 q hq
      · have q1 : (nsE (nP R0) j v (mA R 17 (upd (R.1 17) (6 * j + k) (-1)), k, false)).1 15 j = 0 := pk_us
        refine ⟨?_, ?_, ?_, ?_, ?_⟩
        · rw [hQ0 4 j (by decide) (by omega) (by omega), e4]
          exact (hR14.symm.trans (congrFun (N1.ot 14 (by decide)) j).symm)
        · rw [hQ0 5 j (by decide) (by omega) (by omega), h5, q1]
        · show (ud wf k V).r 0 j = some (tN (R.1 13 j))
          rw [(Fu.2.1 j).1, F.ro, h0, N1.ot 13 (by decide), hR13]
        · intro z
          rw [q1] at z
          exact absurd z (by decide)
        · intro _
          exact ⟨(hQ0 6 j (by decide) (by omega) (by omega)).trans h6, vI_ss⟩
    · intro p st1 G1 V1 hl S1 I1 F1 J1
      have hnsl : nsl j w hh (m + 1) k R = nsl j w hh m (k + 1) (mA (layX R (nP R) p w hh) 17 (upd (R.1 17) (6 * j + k) (nI (nP R)))) := by
        show (match layP R (nP R) w hh with
          | none => (mA R 17 (upd (R.1 17) (6 * j + k) (-1)), k, false)
          | some p => nsl j w hh m (k + 1) (mA (layX R (nP R) p w hh) 17 (upd (R.1 17) (6 * j + k) (nI (nP R))))) = _
        rw [hl]
      rw [hnsl] at K
      obtain ⟨hp, hpN, _⟩ := layP_ok hl
      have hL : 0 < layN R p w hh := by unfold layN; omega
      have hj1 : j < nJ V1 := by unfold nJ; rw [F1.i 1 1 (by decide) (by omega)]; exact hjV
      have hal1 := I1.al (n := j + 4) (by omega)
      have eA := S1.ex.A (.jb j) (by show (7 : Nat) ≠ 3; decide) hlj
      have eB := S1.ex.A .stk (by decide) I.stk
      have hA1 : V1.i 1 (j + 4) = nI k := (F1.i 1 (j + 4) (by decide) (by omega)).trans hA
      have hnA : nA V1 j = k := by unfold nA; rw [hA1]; exact tN_nI (by omega)
      have hla := (I1.la j hj1).1
      rw [hnA] at hla
      have hnQ : nP R < nQ V1 := by have := J1.1.le.1; omega
      have hadd := fun {l6 : Value} K => C_add (X := X) (d := d + 3) (P := zaft X (d + 9) 3 81 [.ref (G1.A (.jb j)), .ref (G1.A .stk), .int (nI (nP R0)), .int w, .int hh, .int (nI k), l6] [] P) (V := V1) (n := j + 4) (m := k) (q := nP R) (b := nQ V1) S1.ok hal1 (fun z => I1.ar (by omega) z) hla (fun q hq => I1.pc hq) hnQ (by omega) K
      rw [show ek (j + 4) (nP R) = CK.pc (nP R) from rfl] at hadd
      rw [← eA, ← eB]
      simp only [E_X1_nestOn_0, E_X1_nestOn_0n, E_X1_nestOn_1, E_X1_nestOn_4, E_X1_nestOn_5, E_X1_nestOn_5n, E_X1_nestOn_6, E_X1_nestOn_9, E_X1_nestOn_12, E_X1_nestOn_15, E_X1_nestOn_16, E_X1_nestOn_17, E_X1_nestOn_18, E_X1_nestOn_18n, E_X1_nestOn_19, E_X1_nestOn_22, E_X1_nestOn_25, E_X1_nestOn_28, E_X1_nestOn_29, E_X1_nestOn_30, E_X1_nestOn_32, E_X1_nestOn_33, E_X1_nestOn_37, E_X1_nestOn_37n, E_X1_nestOn_38, E_X1_nestOn_41, E_X1_nestOn_44, E_X1_nestOn_44n, E_X1_nestOn_45, E_X1_nestOn_46, E_X1_nestOn_48, E_X1_nestOn_51, E_X1_nestOn_51n, E_X1_nestOn_53, E_X1_nestOn_53n, E_X1_nestOn_55, E_X1_nestOn_55n, E_X1_nestOn_58, E_X1_nestOn_58n, E_X1_nestOn_59, E_X1_nestOn_59n, E_X1_nestOn_60, E_X1_nestOn_63, E_X1_nestOn_64, E_X1_nestOn_67, E_X1_nestOn_67n, E_X1_nestOn_68, E_X1_nestOn_71, E_X1_nestOn_74, E_X1_nestOn_75, E_X1_nestOn_75n, E_X1_nestOn_76, E_X1_nestOn_79, E_X1_nestOn_79n, E_X1_nestOn_81, E_X1_nestOn_84, E_X1_nestOn_84n, E_X1_nestOn_84i, E_X1_nestOn_84f, E_X1_nestOn_85, E_X1_nestOn_88, E_X1_nestOn_91, E_X1_nestOn_91n, E_X1_nestOn_92, E_X1_nestOn_93, E_X1_nestOn_96, E_X1_nestOn_96n, E_X1_nestOn_97, E_X1_nestOn_97n, E_X1_nestOn_98, E_X1_nestOn_101, E_X1_nestOn_104, E_X1_nestOn_107, zwith_some, zwith_none, zif_true, zaft_inl, Option.toList_some, Option.toList_none, List.cons_append, List.nil_append, zc1_int, zc1_ref, zc1_null, zc1_float, List.length_nil, List.length_cons, Nat.reduceAdd, Nat.reduceLeDiff, Nat.zero_add, z1and, z0and, zl00, zl01, zl02, zl03, ze00, ze10, ze20, ze30, if_true, if_false, cg_jb S1.ok (S1.ex.lv _ hlj), cis_al S1.ok hal1]
      refine hadd ?_
      intro st2 G2 E2 hG2 hu
      have hlj1 := S1.ex.lv _ hlj
      have eA2 := E2.A (.jb j) (by show (7 : Nat) ≠ 3; decide) hlj1
      have eB2 := E2.A .stk (by decide) I1.stk
      simp only [E_X1_nestOn_0, E_X1_nestOn_0n, E_X1_nestOn_1, E_X1_nestOn_4, E_X1_nestOn_5, E_X1_nestOn_5n, E_X1_nestOn_6, E_X1_nestOn_9, E_X1_nestOn_12, E_X1_nestOn_15, E_X1_nestOn_16, E_X1_nestOn_17, E_X1_nestOn_18, E_X1_nestOn_18n, E_X1_nestOn_19, E_X1_nestOn_22, E_X1_nestOn_25, E_X1_nestOn_28, E_X1_nestOn_29, E_X1_nestOn_30, E_X1_nestOn_32, E_X1_nestOn_33, E_X1_nestOn_37, E_X1_nestOn_37n, E_X1_nestOn_38, E_X1_nestOn_41, E_X1_nestOn_44, E_X1_nestOn_44n, E_X1_nestOn_45, E_X1_nestOn_46, E_X1_nestOn_48, E_X1_nestOn_51, E_X1_nestOn_51n, E_X1_nestOn_53, E_X1_nestOn_53n, E_X1_nestOn_55, E_X1_nestOn_55n, E_X1_nestOn_58, E_X1_nestOn_58n, E_X1_nestOn_59, E_X1_nestOn_59n, E_X1_nestOn_60, E_X1_nestOn_63, E_X1_nestOn_64, E_X1_nestOn_67, E_X1_nestOn_67n, E_X1_nestOn_68, E_X1_nestOn_71, E_X1_nestOn_74, E_X1_nestOn_75, E_X1_nestOn_75n, E_X1_nestOn_76, E_X1_nestOn_79, E_X1_nestOn_79n, E_X1_nestOn_81, E_X1_nestOn_84, E_X1_nestOn_84n, E_X1_nestOn_84i, E_X1_nestOn_84f, E_X1_nestOn_85, E_X1_nestOn_88, E_X1_nestOn_91, E_X1_nestOn_91n, E_X1_nestOn_92, E_X1_nestOn_93, E_X1_nestOn_96, E_X1_nestOn_96n, E_X1_nestOn_97, E_X1_nestOn_97n, E_X1_nestOn_98, E_X1_nestOn_101, E_X1_nestOn_104, E_X1_nestOn_107, zwith_some, zwith_none, zif_true, zaft_inl, Option.toList_some, Option.toList_none, List.cons_append, List.nil_append, zc1_int, zc1_ref, zc1_null, zc1_float, List.length_nil, List.length_cons, Nat.reduceAdd, Nat.reduceLeDiff, Nat.zero_add, z1and, z0and, zl00, zl01, zl02, zl03, ze00, ze10, ze20, ze30, if_true, if_false, nI_1]
      rw [← eA2, ← eB2]
      have hlk := lok_add hla hnQ (show k < 600 by omega)
      have I2 := CI_al (q := nP R) I1 hj1 hlk (by omega) hG2
      have hpt := pot_vL (V := V1) (n := j + 4) (m := k) (q := nP R) (c := nwc (V1.c (j + 4)) k) (by have := I1.lj.2.1; omega) hA1 (by omega)
      rw [if_neg (by omega), if_neg (by omega), if_neg (by omega)] at hpt
      have S2 : Sta st1 G1 V1 st2 G2 (vL V1 (j + 4) k (nP R) (nwc (V1.c (j + 4)) k)) := ⟨E2, by omega⟩
      have eN : nP (mA (layX R (nP R) p w hh) 17 (upd (R.1 17) (6 * j + k) (nI (nP R)))) = nP R + layN R p w hh := by
        show ((layX R (nP R) p w hh).2.1 14).toNatClampNeg = _
        rw [layX_n, nI_clamp (by omega)]
      refine ih (k + 1) st2 G2 _ (mA (layX R (nP R) p w hh) 17 (upd (R.1 17) (6 * j + k) (nI (nP R)))) _ (by omega) E2.ok ((S.trans S1).trans S2) I2 (F.trans ((fN.of F1).vl)) ?_ (nsI_lay (by omega) N1 hl) (NS_lay N2 N1.nn hl) ?_ ?_ ?_ ?_ K
      · rw [eN]
        refine PT_R (R := layX R (nP R) p w hh) ⟨PI_o J1.1 (fun c q a b => vL_i' (by omega)) (vL_i' (by omega)) (vL_i' (by omega)) rfl, J1.2⟩ (fun i a b => ?_)
        show (mA _ 17 _).1 i = _
        rw [mA1, if_neg (by omega)]
      · rw [vL_i, if_pos ⟨rfl, rfl⟩]
      · intro i hi
        have e17 : jf (mA (layX R (nP R) p w hh) 17 (upd (R.1 17) (6 * j + k) (nI (nP R)))) j i = if i = k then nP R else jf R j i := by
          show tN (upd (R.1 17) (6 * j + k) (nI (nP R)) (6 * j + i)) = _
          by_cases e : i = k
          · rw [if_pos e, e, pk_us, tN_nI (by omega)]
          · rw [if_neg e, pk_un (by omega)]; rfl
        rw [vL_e, if_pos rfl, e17]
        by_cases e : i = k
        · rw [if_pos e, if_pos e]
        · rw [if_neg e, if_neg e, (F1.e (j + 4) (by omega)).1]
          exact he i (by omega)
      · rw [vL_i' (by omega)]
        exact (F1.i 5 j (by decide) (by omega)).trans h5
      · rw [vL_i' (by omega)]
        exact (F1.i 6 j (by decide) (by omega)).trans h6
end NO
