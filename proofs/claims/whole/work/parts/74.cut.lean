/-! cut, cutAnew -/
section CT3
variable {X : ZX} {d : Nat} {st st0 S : ZS} {G G0 G2 : CG} {V V' V0 : CV} {P : ZO → ZS → Prop} {x y z : Int32} {n m p q r j k a i dd c : Nat} {R R0 R' : MR} {f g f' g' : Nat → Nat} {u w : UInt32}
theorem lnO_ok (C : CT V) (e : V.e 2 i = some j) : lnO V (2 * j + 1) ≤ 2139095040 := lens_ok _ fun k hk => ⟨((C.2.2.2 i j e).1.2.2 k hk).2.1, ((C.2.2.2 i j e).1.2.2 k hk).2.2, (C.2.2.2 i j e).2.1 k hk⟩
theorem cln_ok (C : CT V) : ∀ n, n ≤ nC V → cln V n ≤ 2139095040
  | 0, _ => lens_ok (f := fun _ => 0) (g := fun _ => 0) 0 (fun j hj => absurd hj (Nat.not_lt_zero j))
  | n + 1, hn => by
    obtain ⟨j, e⟩ := C.2.2.1 n (by omega)
    show ctl (lnO V (2 * ((V.e 2 n).getD 0) + 1)) (cln V n) _ ≤ _
    rw [e]
    exact ctl_ok (lnO_ok C e) (cln_ok C n (by omega)) _
theorem C_anew_l (h : cok st G) (I : CI G V) (C : CT V) : ∀ (m i : Nat) (l3 : Value), i + m = nC V → AW X (d + 5) 63 4 [.ref (G.A .kx), .float (cln V i), .int (nI i), l3] [] (cw st G V) P = P (.inl (some (.float (cln V (nC V))))) (cw st G V) := by
  have hal := I.al (n := 2) (by omega)
  have hc1 : nC V ≤ 1000 := Nat.le_trans I.lc.le I.lc.cp
  intro m
  induction m with
  | zero =>
    intro i l3 hi
    have e : i = nC V := by omega
    subst e
    have hle : nI (nC V) ≤ nI (nC V) := nI_le (Nat.le_refl _) (by omega)
    rw [E_X5_cutAnew_4]
    simp only [E_X5_cutAnew_0, E_X5_cutAnew_1, E_X5_cutAnew_2, E_X5_cutAnew_3, E_X5_cutAnew_5, E_X5_cutAnew_5n, E_X5_cutAnew_6, E_X5_cutAnew_9, E_X5_cutAnew_12, E_X5_cutAnew_15, E_X5_cutAnew_15n, E_X5_cutAnew_16, E_X5_cutAnew_19, E_X5_cutAnew_20, E_X5_cutAnew_23, E_X5_cutAnew_23n, E_X5_cutAnew_26, E_X5_cutAnew_26n, E_X5_cutAnew_27, E_X5_cutAnew_28, E_X5_cutAnew_28n, E_X5_cutAnew_29, E_X5_cutAnew_32, E_X5_cutAnew_35, E_X5_cutAnew_35n, E_X5_cutAnew_36, E_X5_cutAnew_39, E_X5_cutAnew_42, E_X5_cutAnew_43, E_X5_cutAnew_46, E_X5_cutAnew_49, E_X5_cutAnew_50, zwith_some, zwith_none, zif_true, zaft_inl, Option.toList_some, Option.toList_none, List.cons_append, List.nil_append, zc1_int, zc1_ref, zc1_null, zc1_float, List.length_nil, List.length_cons, Nat.reduceAdd, Nat.reduceLeDiff, Nat.zero_add, z1and, z0and, zl00, zl01, zl02, zl03, ze00, ze10, ze20, ze30, if_true, if_false, cg_kx h I.kx, cis_al h hal, C_size h hal, I.lc.sz, hle]
  | succ m ih =>
    intro i l3 hi
    have hlt : ¬ nI (nC V) ≤ nI i := nI_ge (by omega) (by omega)
    obtain ⟨j, e⟩ := C.2.2.1 i (by omega)
    obtain ⟨b1, b2, ⟨c, b3, b4⟩, b5⟩ := C.2.2.2 i j e
    have hj := (I.lc.el i j e).2
    have hlj := I.jb hj
    have hg := fun {d} {P} => C_get (X := X) (d := d) (P := P) (V := V) (q := j) h hal (I.gr I.lc (by omega) (by omega)) I.lc (show i < nC V by omega) e
    rw [show ek 2 j = CK.jb j from rfl] at hg
    have hsum : ∀ {d : Nat} {P : ZO → ZS → Prop}, AC X (d + 4) 20 [.ref (G.A (.ou (2 * j + 1)))] (cw st G V) P = P (.inl (some (.float (lnO V (2 * j + 1))))) (cw st G V) := fun {d} {P} => C_sum h (I.ou1 hj) (I.sk1 hj) b1 b2
    have hafc := fun {d} {P} => C_afc (X := X) (d := d) (st := cw st G V) (P := P) (n := c) (lnO_ok C e) (cln_ok C i (by omega)) (by omega)
    have es : cln V (i + 1) = ctl (lnO V (2 * j + 1)) (cln V i) c := by
      show ctl (lnO V (2 * ((V.e 2 i).getD 0) + 1)) (cln V i) (tN (V.i 4 ((V.e 2 i).getD 0))) = _
      rw [e]
      show ctl (lnO V (2 * j + 1)) (cln V i) (tN (V.i 4 j)) = _
      rw [b3, tN_nI (by omega)]
    rw [E_X5_cutAnew_4]
    simp only [E_X5_cutAnew_0, E_X5_cutAnew_1, E_X5_cutAnew_2, E_X5_cutAnew_3, E_X5_cutAnew_5, E_X5_cutAnew_5n, E_X5_cutAnew_6, E_X5_cutAnew_9, E_X5_cutAnew_12, E_X5_cutAnew_15, E_X5_cutAnew_15n, E_X5_cutAnew_16, E_X5_cutAnew_19, E_X5_cutAnew_20, E_X5_cutAnew_23, E_X5_cutAnew_23n, E_X5_cutAnew_26, E_X5_cutAnew_26n, E_X5_cutAnew_27, E_X5_cutAnew_28, E_X5_cutAnew_28n, E_X5_cutAnew_29, E_X5_cutAnew_32, E_X5_cutAnew_35, E_X5_cutAnew_35n, E_X5_cutAnew_36, E_X5_cutAnew_39, E_X5_cutAnew_42, E_X5_cutAnew_43, E_X5_cutAnew_46, E_X5_cutAnew_49, E_X5_cutAnew_50, zwith_some, zwith_none, zif_true, zaft_inl, Option.toList_some, Option.toList_none, List.cons_append, List.nil_append, zc1_int, zc1_ref, zc1_null, zc1_float, List.length_nil, List.length_cons, Nat.reduceAdd, Nat.reduceLeDiff, Nat.zero_add, z1and, z0and, zl00, zl01, zl02, zl03, ze00, ze10, ze20, ze30, if_true, if_false, cg_kx h I.kx, cis_al h hal, C_size h hal, I.lc.sz, hlt, hg, cis_jb h hlj, cg_jb h hlj, cis_ou h (I.ou1 hj), hsum, b3, hafc, nI_1]
    rw [← es]
    exact ih (i + 1) _ (by omega)
theorem C_cutAnew (h : cok st G) (I : CI G V) (L : REL V R) : AC X (d + 6) 63 [.ref (G.A .kx)] (cw st G V) P = P (.inl (some (.float R.2.2))) (cw st G V) := by
  rw [A_X5_cutAnew]
  simp only [E_X5_cutAnew_0, E_X5_cutAnew_1, E_X5_cutAnew_2, E_X5_cutAnew_3, E_X5_cutAnew_5, E_X5_cutAnew_5n, E_X5_cutAnew_6, E_X5_cutAnew_9, E_X5_cutAnew_12, E_X5_cutAnew_15, E_X5_cutAnew_15n, E_X5_cutAnew_16, E_X5_cutAnew_19, E_X5_cutAnew_20, E_X5_cutAnew_23, E_X5_cutAnew_23n, E_X5_cutAnew_26, E_X5_cutAnew_26n, E_X5_cutAnew_27, E_X5_cutAnew_28, E_X5_cutAnew_28n, E_X5_cutAnew_29, E_X5_cutAnew_32, E_X5_cutAnew_35, E_X5_cutAnew_35n, E_X5_cutAnew_36, E_X5_cutAnew_39, E_X5_cutAnew_42, E_X5_cutAnew_43, E_X5_cutAnew_46, E_X5_cutAnew_49, E_X5_cutAnew_50, zwith_some, zwith_none, zif_true, zaft_inl, Option.toList_some, Option.toList_none, List.cons_append, List.nil_append, zc1_int, zc1_ref, zc1_null, zc1_float, List.length_nil, List.length_cons, Nat.reduceAdd, Nat.reduceLeDiff, Nat.zero_add, z1and, z0and, zl00, zl01, zl02, zl03, ze00, ze10, ze20, ze30, if_true, if_false]
  have hl := C_anew_l (X := X) (d := d) (P := P) h I L.ct (nC V) 0 (.retAddr 0) (by omega)
  rw [← L.ct.2.1, L.nu.2.2.1] at hl
  exact hl
def vCut (V : CV) (j dd m c' : Nat) (y : Int32) (u : UInt32) : CV := vU (vI (vL (vI (vK V j dd) 5 j 2) 2 m j c') 14 2 y) u
theorem vCut_i {c' : Nat} : ∀ c k, ¬ (c < 2 ∧ k = 2) → ¬ (c = 14 ∧ k = 2) → ¬ (c = 7 ∧ k = 2 * j + 1) → (vCut V j dd m c' y u).i c k = (vI V 5 j 2).i c k := fun c k b1 b2 b3 => by
  unfold vCut
  rw [vU_i, vI_oo b2, vL_i' (by omega), vI_i, vI_i]
  by_cases z : c = 5 ∧ k = j
  · rw [if_pos z, if_pos z]
  · rw [if_neg z, if_neg z]
    exact vI_oo b3
theorem vCut_i2 {c' : Nat} : ∀ c k, ¬ (c < 2 ∧ k = 2) → ¬ (c = 14 ∧ k = 2) → ¬ (c = 7 ∧ k = 2 * j + 1) → ¬ (c = 5 ∧ k = j) → (vCut V j dd m c' y u).i c k = V.i c k := fun c k b1 b2 b3 b4 => (vCut_i c k b1 b2 b3).trans (vI_oo b4)
theorem vCut_12 {c' : Nat} : (vCut V j dd m c' y u).i 1 2 = nI (m + 1) := by
  unfold vCut
  rw [vU_i, vI_oo (by omega), vL_i, if_pos ⟨rfl, rfl⟩]
theorem vCut_142 {c' : Nat} : (vCut V j dd m c' y u).i 14 2 = y := by
  unfold vCut
  rw [vU_i]
  exact vI_ss
theorem pot_vU : pot (vU V u) = pot V := rfl
theorem vCut_7 {c' : Nat} : (vCut V j dd m c' y u).i 7 (2 * j + 1) = V.i 7 (2 * dd) := by
  unfold vCut
  rw [vU_i, vI_oo (by omega), vL_i' (by omega), vI_oo (by omega)]
  exact vI_ss
theorem vCut_s {c' : Nat} : ∀ k, k ≠ 2 * j + 1 → (vCut V j dd m c' y u).s k = V.s k := fun k hk => (show (if k = 2 * j + 1 then _ else V.s k) = V.s k from if_neg hk)
theorem vCut_ss {c' : Nat} : ∀ k, k < 24 → (vCut V j dd m c' y u).s (2 * j + 1) k = V.s (2 * dd) k := fun k hk => by
  show (if 2 * j + 1 = 2 * j + 1 then va_cpy (V.s (2 * dd)) (V.s (2 * j + 1)) 0 0 24 else V.s (2 * j + 1)) k = _
  rw [if_pos rfl]
  exact sb_cpy0 hk
theorem vCut_e {c' : Nat} : (vCut V j dd m c' y u).e 2 = fun i => if i = m then some j else V.e 2 i := by
  show (if 2 = 2 then (fun i => if i = m then some j else V.e 2 i) else V.e 2) = _
  rw [if_pos rfl]
theorem vCut_eo {c' : Nat} : ∀ k, k ≠ 2 → (vCut V j dd m c' y u).e k = V.e k := fun k hk => if_neg hk
theorem vCut_c {c' : Nat} : ∀ k, k ≠ 2 → (vCut V j dd m c' y u).c k = V.c k := fun k hk => if_neg hk
theorem vCut_pot {c' : Nat} (hs : V.i 1 2 = nI m) (hm : m < 600) : pot (vCut V j dd m c' y u) + 4 * V.c 2 = pot V + 4 * c' := by
  have hpt := pot_vL (V := vI (vK V j dd) 5 j 2) (n := 2) (m := m) (q := j) (c := c') (by decide) (by rw [vI_oo (by omega)]; exact (vI_oo (by omega)).trans hs) (by omega)
  rw [if_neg (by decide), if_neg (by decide), if_neg (by decide), pot_vI (by decide), show pot (vK V j dd) = pot V from pot_vI (by decide)] at hpt
  have hp2 : pot (vCut V j dd m c' y u) = pot (vL (vI (vK V j dd) 5 j 2) 2 m j c') := by
    unfold vCut
    rw [pot_vU, pot_vI (by decide)]
  rw [hp2]
  exact hpt
theorem CT_cut2 {c' : Nat} (I : CI G V) (L : REL V R) (hj : j < nJ V) (hs1 : R.1 15 j = 1) (e13 : tN (R.1 13 j) = dd) (hdd : dd < nD V) (hm : nC V = m) (hm4 : m < 600) : CT (vCut V j dd m c' y (ctl (lnF R dd) V.u (tN (R.1 14 j)))) :=
  CT_cut I L hj hs1 e13 hdd hm hm4 vCut_i2 ((vCut_i 5 j (by omega) (by omega) (by omega)).trans vI_ss) vCut_7 vCut_12 vCut_ss vCut_s vCut_e vCut_c rfl
theorem REL_cut2 {c' : Nat} (I : CI G V) (L : REL V R) (hj : j < nJ V) (hs1 : R.1 15 j = 1) (e13 : tN (R.1 13 j) = dd) (hdd : dd < nD V) (hm : nC V = m) (hm4 : m < 600) (hu : lnF R dd ≤ 2139095040) : REL (vCut V j dd m c' (R.2.1 23 + mns R j (lnF R dd) (tN (R.1 14 j))) (ctl (lnF R dd) V.u (tN (R.1 14 j)))) (cutF R j) := by
  refine REL_c (a := j) (REL_st L I hj (v := 2) (.inr ⟨hs1, rfl⟩)) vCut_i rfl vCut_eo vCut_s rfl (fun k b1 b2 => ?_) ?_ ?_ (ctl_ok hu L.nu.2.2.2 _) (CT_cut2 I L hj hs1 e13 hdd hm hm4)
  · show (mF (mC (mF R 25 0) _) 23 _).2.1 k = R.2.1 k
    rw [mF2, if_neg b1, mC2, mF2, if_neg b2]
  · rw [vCut_142]
    show _ = R.2.1 23 + mns R j (lnF R (tN (R.1 13 j))) (tN (R.1 14 j))
    rw [e13]
  · show ctl (lnF R dd) V.u (tN (R.1 14 j)) = ctl (lnF R (tN (R.1 13 j))) R.2.2 (tN (R.1 14 j))
    rw [e13, L.nu.2.2.1]
theorem CI_cut2 {c' : Nat} (I : CI G V) (hlv : ∀ k, G2.live k ↔ G.live k ∨ k = .ar 2) (hm4 : m < 600) (hlk : lok (vL (vI (vK V j dd) 5 j 2) 2 m j c') 2 (m + 1) (nJ V)) : CI G2 (vCut V j dd m c' y u) :=
  CI_cut (m := m) I hlv (fun c k b1 b2 => vCut_i2 c k (by omega) (by omega) (by omega) (by omega)) rfl vCut_eo vCut_c (lok_o hlk (Nat.le_refl _) (vCut_12.trans hlk.sz.symm) rfl rfl) hm4
theorem cut_ar {a b c d e f : Nat} (h1 : a + 4 * c ≤ b + 4 * d) (h2 : e + 4 * c = f + 4 * d) : a + f ≤ b + e := by omega
theorem C_cut (h : cok st G) (I : CI G V) (L : REL V R) (hC : nC V < 600) (K0 : cutW R x ≠ 0 → P (.inr (if cutW R x = 1 then sI else sS)) (cw (st.1 + 7, st.2) G V)) (K : cutW R x = 0 → ∀ st' G' V', Sta st G V st' G' V' → CI G' V' → REL V' (cutF R (tN x)) → nC V' = nC V + 1 → P (.inl (some (.int (cutN R (tN x))))) (cw st' G' V')) : AC X (d + 7) 57 [.ref (G.A .kx), .int x] (cw st G V) P := by
  have h30 := I.lj.2.1
  have h12 := I.ld.2.1
  have z5 : (5 ≤ d + 6) = True := eq_true (by omega)
  have n21 := L.n21
  rw [A_X5_cut]
  by_cases c : 0 ≤ x ∧ x ≤ nI (nJ V) - 1
  · obtain ⟨j, hj, rfl⟩ := nI_of_rng (by omega) c.1 c.2
    have ej : tN (nI j) = j := tN_nI (by omega)
    have hjd : ∀ {P : ZO → ZS → Prop}, AC X (d + 6) 65 [.ref (G.A .kx), .int (nI j)] (cw st G V) P = P (.inl (some (.ref (G.A (.jb j))))) (cw st G V) := fun {P} => by rw [C_jAt (d := d) h I, if_pos c, ej]
    have hjR : j < tN (R.2.1 21) := by rw [← L.nn.2]; exact hj
    obtain ⟨a1, a2, a3, a4, a5⟩ := L.jr j hj
    have hlj := I.jb hj
    have hcw : cutW R (nI j) = if R.1 15 j = 1 then 0 else 2 := by
      unfold cutW
      rw [if_neg (fun w => w (by rw [n21]; exact c)), ej]
    by_cases s : R.1 15 j = 1
    · rw [if_pos s] at hcw
      have K := K hcw
      rw [ej] at K
      have hjn := L.ir.jn j hjR
      obtain ⟨dd, e13⟩ : ∃ dd, tN (R.1 13 j) = dd := ⟨_, rfl⟩
      have hdd : dd < nD V := by rw [L.nn.1, ← e13]; exact (L.ir.jd j hjR).2
      rw [e13] at a3
      obtain ⟨d2, d3, dou⟩ := L.dr dd hdd
      have hpt := L.ir.pt dd (by omega)
      have hu := lnF_ok L.ir (Nat.lt_of_lt_of_le hdd h12)
      have hs1 : V.i 5 j = 1 := a2.trans s
      have hsum : ∀ {d : Nat} {P : ZO → ZS → Prop}, AC X (d + 4) 20 [.ref (G.A (.ou (2 * dd)))] (cw st G V) P = P (.inl (some (.float (lnF R dd)))) (cw st G V) := fun {d} {P} => C_sum h (I.ou0 hdd) (I.sk0 hdd) dou (fun k hk => (hpt k hk).1.2.2)
      have hmf := fun {d} {P} => C_mF (X := X) (d := d) (P := P) h I L hj (.inl s) hu
      have hkp := fun {d} {P} => C_keep (X := X) (d := d) (P := P) h I hj a3 hdd
      obtain ⟨m, hm⟩ : ∃ m, nC V = m := ⟨_, rfl⟩
      have hm6 : m < 600 := by rw [← hm]; exact hC
      have hlc := I.lc
      rw [hm] at hlc
      obtain ⟨c', hc'⟩ : ∃ c', c' = nwc (V.c 2) m := ⟨_, rfl⟩
      have hl2 : lok (vI (vK V j dd) 5 j 2) 2 m (nJ V) := lok_o hlc (Nat.le_refl _) ((vI_oo (by omega)).trans (vI_oo (by omega))) rfl rfl
      have hal := I.al (n := 2) (by omega)
      have hadd := fun P K => C_add (X := X) (d := d) (P := P) (V := vI (vK V j dd) 5 j 2) (n := 2) (m := m) (q := j) (b := nJ V) h hal (fun z => I.ar (by omega) z) hl2 (fun k hk => I.jb hk) hj (by omega) K
      rw [show ek 2 j = CK.jb j from rfl] at hadd
      simp only [E_X5_cut_0, E_X5_cut_0n, E_X5_cut_1, E_X5_cut_2, E_X5_cut_5, E_X5_cut_5n, E_X5_cut_6, E_X5_cut_6n, E_X5_cut_7, E_X5_cut_10, E_X5_cut_11, E_X5_cut_14, E_X5_cut_24, E_X5_cut_24n, E_X5_cut_25, E_X5_cut_28, E_X5_cut_31, E_X5_cut_34, E_X5_cut_35, E_X5_cut_35n, E_X5_cut_36, E_X5_cut_37, E_X5_cut_40, E_X5_cut_42, E_X5_cut_42n, E_X5_cut_43, E_X5_cut_46, E_X5_cut_46n, E_X5_cut_47, E_X5_cut_48, E_X5_cut_51, E_X5_cut_51n, E_X5_cut_52, E_X5_cut_55, E_X5_cut_55n, E_X5_cut_56, E_X5_cut_59, E_X5_cut_59n, E_X5_cut_59i, E_X5_cut_59f, E_X5_cut_60, E_X5_cut_60n, E_X5_cut_61, E_X5_cut_61n, E_X5_cut_61i, E_X5_cut_61f, E_X5_cut_62, E_X5_cut_65, E_X5_cut_67, E_X5_cut_68, E_X5_cut_71, E_X5_cut_71n, E_X5_cut_72, E_X5_cut_72n, E_X5_cut_73, E_X5_cut_76, E_X5_cut_77, E_X5_cut_77n, E_X5_cut_78, E_X5_cut_81, E_X5_cut_84, E_X5_cut_87, E_X5_cut_89, zwith_some, zwith_none, zif_true, zaft_inl, Option.toList_some, Option.toList_none, List.cons_append, List.nil_append, zc1_int, zc1_ref, zc1_null, zc1_float, List.length_nil, List.length_cons, Nat.reduceAdd, Nat.reduceLeDiff, Nat.zero_add, z1and, z0and, zl00, zl01, zl02, zl03, ze00, ze10, ze20, ze30, if_true, if_false, cis_kx h I.kx, hjd, cg_jb h hlj, hs1, if_true, a3, rfv_s, cg_dr h (I.dr hdd), cis_ou h (I.ou0 hdd), hsum, cis_jb h hlj, hmf, hkp, cp_jb h hlj, cg_kx h I.kx, cis_al h hal]
      refine hadd _ ?_
      intro st2 G2 E2 hlv hu2
      have hlk : lok (vL (vI (vK V j dd) 5 j 2) 2 m j c') 2 (m + 1) (nJ V) := by rw [hc']; exact lok_add hl2 hj (by omega)
      have eK : G2.A .kx = G.A .kx := E2.A .kx (by decide) I.kx
      have eJ : G2.A (.jb j) = G.A (.jb j) := E2.A (.jb j) (by show (7 : Nat) ≠ 3; decide) hlj
      have lkx : G2.live .kx := E2.lv _ I.kx
      have ljb : G2.live (.jb j) := E2.lv _ hlj
      have hc2 : nwc ((vI (vK V j dd) 5 j 2).c 2) m = c' := hc'.symm
      rw [hc2] at hu2 ⊢
      have e4 : ∀ y, (vI (vL (vI (vK V j dd) 5 j 2) 2 m j c') 14 2 y).i 4 j = nI (tN (R.1 14 j)) := fun y => by
        rw [vI_oo (by omega), vL_i' (by omega), vI_oo (by omega)]
        exact (vI_oo (by omega)).trans (a1.trans hjn.1)
      have eu : ∀ y, (vI (vL (vI (vK V j dd) 5 j 2) 2 m j c') 14 2 y).u = V.u := fun y => rfl
      have hafc := fun {d} {st} {P} => C_afc (X := X) (d := d) (st := st) (P := P) (n := tN (R.1 14 j)) hu L.nu.2.2.2 (by omega)
      simp only [E_X5_cut_0, E_X5_cut_0n, E_X5_cut_1, E_X5_cut_2, E_X5_cut_5, E_X5_cut_5n, E_X5_cut_6, E_X5_cut_6n, E_X5_cut_7, E_X5_cut_10, E_X5_cut_11, E_X5_cut_14, E_X5_cut_24, E_X5_cut_24n, E_X5_cut_25, E_X5_cut_28, E_X5_cut_31, E_X5_cut_34, E_X5_cut_35, E_X5_cut_35n, E_X5_cut_36, E_X5_cut_37, E_X5_cut_40, E_X5_cut_42, E_X5_cut_42n, E_X5_cut_43, E_X5_cut_46, E_X5_cut_46n, E_X5_cut_47, E_X5_cut_48, E_X5_cut_51, E_X5_cut_51n, E_X5_cut_52, E_X5_cut_55, E_X5_cut_55n, E_X5_cut_56, E_X5_cut_59, E_X5_cut_59n, E_X5_cut_59i, E_X5_cut_59f, E_X5_cut_60, E_X5_cut_60n, E_X5_cut_61, E_X5_cut_61n, E_X5_cut_61i, E_X5_cut_61f, E_X5_cut_62, E_X5_cut_65, E_X5_cut_67, E_X5_cut_68, E_X5_cut_71, E_X5_cut_71n, E_X5_cut_72, E_X5_cut_72n, E_X5_cut_73, E_X5_cut_76, E_X5_cut_77, E_X5_cut_77n, E_X5_cut_78, E_X5_cut_81, E_X5_cut_84, E_X5_cut_87, E_X5_cut_89, zwith_some, zwith_none, zif_true, zaft_inl, Option.toList_some, Option.toList_none, List.cons_append, List.nil_append, zc1_int, zc1_ref, zc1_null, zc1_float, List.length_nil, List.length_cons, Nat.reduceAdd, Nat.reduceLeDiff, Nat.zero_add, z1and, z0and, zl00, zl01, zl02, zl03, ze00, ze10, ze20, ze30, if_true, if_false]
      rw [← eK, ← eJ]
      simp only [E_X5_cut_0, E_X5_cut_0n, E_X5_cut_1, E_X5_cut_2, E_X5_cut_5, E_X5_cut_5n, E_X5_cut_6, E_X5_cut_6n, E_X5_cut_7, E_X5_cut_10, E_X5_cut_11, E_X5_cut_14, E_X5_cut_24, E_X5_cut_24n, E_X5_cut_25, E_X5_cut_28, E_X5_cut_31, E_X5_cut_34, E_X5_cut_35, E_X5_cut_35n, E_X5_cut_36, E_X5_cut_37, E_X5_cut_40, E_X5_cut_42, E_X5_cut_42n, E_X5_cut_43, E_X5_cut_46, E_X5_cut_46n, E_X5_cut_47, E_X5_cut_48, E_X5_cut_51, E_X5_cut_51n, E_X5_cut_52, E_X5_cut_55, E_X5_cut_55n, E_X5_cut_56, E_X5_cut_59, E_X5_cut_59n, E_X5_cut_59i, E_X5_cut_59f, E_X5_cut_60, E_X5_cut_60n, E_X5_cut_61, E_X5_cut_61n, E_X5_cut_61i, E_X5_cut_61f, E_X5_cut_62, E_X5_cut_65, E_X5_cut_67, E_X5_cut_68, E_X5_cut_71, E_X5_cut_71n, E_X5_cut_72, E_X5_cut_72n, E_X5_cut_73, E_X5_cut_76, E_X5_cut_77, E_X5_cut_77n, E_X5_cut_78, E_X5_cut_81, E_X5_cut_84, E_X5_cut_87, E_X5_cut_89, zwith_some, zwith_none, zif_true, zaft_inl, Option.toList_some, Option.toList_none, List.cons_append, List.nil_append, zc1_int, zc1_ref, zc1_null, zc1_float, List.length_nil, List.length_cons, Nat.reduceAdd, Nat.reduceLeDiff, Nat.zero_add, z1and, z0and, zl00, zl01, zl02, zl03, ze00, ze10, ze20, ze30, if_true, if_false, cg_kx E2.ok lkx, cp_kx E2.ok lkx, cg_jb E2.ok ljb, e4, eu, hafc]
      have e14 : (vL (vI (vK V j dd) 5 j 2) 2 m j c').i 14 2 = R.2.1 23 := by
        rw [vL_i' (by omega), vI_oo (by omega)]
        exact (vI_oo (by omega)).trans L.nu.2.1
      rw [e14]
      have hK := K st2 G2 (vCut V j dd m c' (R.2.1 23 + mns R j (lnF R dd) (tN (R.1 14 j))) (ctl (lnF R dd) V.u (tN (R.1 14 j)))) ⟨E2, ?_⟩ (CI_cut2 I hlv hm6 hlk) (REL_cut2 I L hj s e13 hdd hm hm6 hu) (by
        unfold nC
        rw [vCut_12, tN_nI (Nat.lt_trans (Nat.succ_lt_succ hm6) (by decide))]
        show m + 1 = nC V + 1
        rw [hm])
      · rw [show cutN R j = mns R j (lnF R dd) (tN (R.1 14 j)) by unfold cutN; rw [e13]] at hK
        exact hK
      · have hpt := vCut_pot (V := V) (j := j) (dd := dd) (c' := c') (y := R.2.1 23 + mns R j (lnF R dd) (tN (R.1 14 j))) (u := ctl (lnF R dd) V.u (tN (R.1 14 j))) hlc.sz hm6
        exact cut_ar hu2 hpt
    · rw [if_neg s] at hcw
      rw [hcw] at K0
      have hs : ¬ V.i 5 j = 1 := by rw [a2]; exact s
      simp only [E_X5_cut_0, E_X5_cut_0n, E_X5_cut_1, E_X5_cut_2, E_X5_cut_5, E_X5_cut_5n, E_X5_cut_6, E_X5_cut_6n, E_X5_cut_7, E_X5_cut_10, E_X5_cut_11, E_X5_cut_14, E_X5_cut_24, E_X5_cut_24n, E_X5_cut_25, E_X5_cut_28, E_X5_cut_31, E_X5_cut_34, E_X5_cut_35, E_X5_cut_35n, E_X5_cut_36, E_X5_cut_37, E_X5_cut_40, E_X5_cut_42, E_X5_cut_42n, E_X5_cut_43, E_X5_cut_46, E_X5_cut_46n, E_X5_cut_47, E_X5_cut_48, E_X5_cut_51, E_X5_cut_51n, E_X5_cut_52, E_X5_cut_55, E_X5_cut_55n, E_X5_cut_56, E_X5_cut_59, E_X5_cut_59n, E_X5_cut_59i, E_X5_cut_59f, E_X5_cut_60, E_X5_cut_60n, E_X5_cut_61, E_X5_cut_61n, E_X5_cut_61i, E_X5_cut_61f, E_X5_cut_62, E_X5_cut_65, E_X5_cut_67, E_X5_cut_68, E_X5_cut_71, E_X5_cut_71n, E_X5_cut_72, E_X5_cut_72n, E_X5_cut_73, E_X5_cut_76, E_X5_cut_77, E_X5_cut_77n, E_X5_cut_78, E_X5_cut_81, E_X5_cut_84, E_X5_cut_87, E_X5_cut_89, zwith_some, zwith_none, zif_true, zaft_inl, Option.toList_some, Option.toList_none, List.cons_append, List.nil_append, zc1_int, zc1_ref, zc1_null, zc1_float, List.length_nil, List.length_cons, Nat.reduceAdd, Nat.reduceLeDiff, Nat.zero_add, z1and, z0and, zl00, zl01, zl02, zl03, ze00, ze10, ze20, ze30, if_true, if_false, cis_kx h I.kx, hjd, cg_jb h hlj, hs, if_false, z5]
      exact K0 (by decide)
  · have hcw : cutW R x = 1 := by
      unfold cutW
      rw [n21, if_pos c]
    rw [hcw] at K0
    simp only [E_X5_cut_0, E_X5_cut_0n, E_X5_cut_1, E_X5_cut_2, E_X5_cut_5, E_X5_cut_5n, E_X5_cut_6, E_X5_cut_6n, E_X5_cut_7, E_X5_cut_10, E_X5_cut_11, E_X5_cut_14, E_X5_cut_24, E_X5_cut_24n, E_X5_cut_25, E_X5_cut_28, E_X5_cut_31, E_X5_cut_34, E_X5_cut_35, E_X5_cut_35n, E_X5_cut_36, E_X5_cut_37, E_X5_cut_40, E_X5_cut_42, E_X5_cut_42n, E_X5_cut_43, E_X5_cut_46, E_X5_cut_46n, E_X5_cut_47, E_X5_cut_48, E_X5_cut_51, E_X5_cut_51n, E_X5_cut_52, E_X5_cut_55, E_X5_cut_55n, E_X5_cut_56, E_X5_cut_59, E_X5_cut_59n, E_X5_cut_59i, E_X5_cut_59f, E_X5_cut_60, E_X5_cut_60n, E_X5_cut_61, E_X5_cut_61n, E_X5_cut_61i, E_X5_cut_61f, E_X5_cut_62, E_X5_cut_65, E_X5_cut_67, E_X5_cut_68, E_X5_cut_71, E_X5_cut_71n, E_X5_cut_72, E_X5_cut_72n, E_X5_cut_73, E_X5_cut_76, E_X5_cut_77, E_X5_cut_77n, E_X5_cut_78, E_X5_cut_81, E_X5_cut_84, E_X5_cut_87, E_X5_cut_89, zwith_some, zwith_none, zif_true, zaft_inl, Option.toList_some, Option.toList_none, List.cons_append, List.nil_append, zc1_int, zc1_ref, zc1_null, zc1_float, List.length_nil, List.length_cons, Nat.reduceAdd, Nat.reduceLeDiff, Nat.zero_add, z1and, z0and, zl00, zl01, zl02, zl03, ze00, ze10, ze20, ze30, if_true, if_false, cis_kx h I.kx, C_jAt h I, if_neg c, zaft_inr zh_X5_cut]
    exact K0 (by decide)
end CT3
