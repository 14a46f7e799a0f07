/-! redraw -/
section RW
variable {X : ZX} {d : Nat} {st st0 S : ZS} {G G0 G2 : CG} {V V' V0 : CV} {P : ZO → ZS → Prop} {x y z : Int32} {n m p q r j k a i dd c b t : Nat} {R R0 R' : MR} {f g f' g' : Nat → Nat} {u w : UInt32} {o : Nat → Bool}
def vOA (V : CV) (dd : Nat) : CV := vI (vI (vI V 7 (2 * dd) 0) 2 dd 0) 3 dd (V.i 3 dd + 1)
theorem C_open (h : cok st G) (I : CI G V) (hdd : dd < nD V) : AC X (d + 2) 1 [.ref (G.A (.dr dd))] (cw st G V) P = P (.inl none) (cw st G (vOA V dd)) := by
  have hld := I.dr hdd
  have hlo := I.ou0 hdd
  have e3 : (vI (vI V 7 (2 * dd) 0) 2 dd 0).i 3 dd = V.i 3 dd := (vI_oo (by omega)).trans (vI_oo (by omega))
  rw [A_X0_openAgain]
  simp only [E_X0_openAgain_0, E_X0_openAgain_0n, E_X0_openAgain_1, E_X0_openAgain_4, E_X0_openAgain_7, E_X0_openAgain_7n, E_X0_openAgain_8, E_X0_openAgain_9, E_X0_openAgain_12, E_X0_openAgain_12n, E_X0_openAgain_13, E_X0_openAgain_13n, E_X0_openAgain_13i, E_X0_openAgain_13f, E_X0_openAgain_14, E_X0_openAgain_17, E_X0_openAgain_18, E_X0_openAgain_19, E_X0_openAgain_22, zwith_some, zwith_none, zif_true, zaft_inl, Option.toList_some, Option.toList_none, List.cons_append, List.nil_append, zc1_int, zc1_ref, zc1_null, zc1_float, List.length_nil, List.length_cons, Nat.reduceAdd, Nat.reduceLeDiff, Nat.zero_add, z1and, z0and, zl00, zl01, zl02, zl03, ze00, ze10, ze20, ze30, if_true, if_false, cg_dr h hld, cis_ou h hlo, C_oclear h hlo, cp_dr h hld, e3]
  rfl
theorem vOA_i (h1 : ¬ (c = 7 ∧ k = 2 * dd)) (h2 : ¬ ((c = 2 ∨ c = 3) ∧ k = dd)) : (vOA V dd).i c k = V.i c k := by
  unfold vOA
  rw [vI_oo (by omega), vI_oo (by omega), vI_oo h1]
theorem CI_open (I : CI G V) : CI G (vOA V dd) := CI.vi (CI.vi (CI.vi I (by decide)) (by decide)) (by decide)
theorem pot_open : pot (vOA V dd) = pot V := (pot_vI (by decide)).trans ((pot_vI (by decide)).trans (pot_vI (by decide)))
theorem redN_1 (h : 2 < k) : (redN R i).1 k = R.1 k := by
  unfold redN
  rw [mA1, if_neg (by omega), mA1, if_neg (by omega), mA1, if_neg (by omega)]
theorem REL_open (L : REL V R) (hdd : dd < nD V) : REL (vOA V dd) (redN R dd) := by
  obtain ⟨d2, d3, dou⟩ := L.dr dd hdd
  have t0 : tN ((redN R dd).1 1 dd) = 0 := by
    show tN (upd (R.1 1) dd 0 dd) = 0
    rw [pk_us]
    rfl
  refine REL_d (i := dd) L (fun c k h1 h2 => vOA_i h1 h2) rfl rfl rfl rfl (fun _ _ => rfl) (fun k hk => redN_1 (by omega)) (fun _ _ => rfl) rfl (fun q hq => ⟨⟨pk_un (f := R.1 0) hq, pk_un (f := R.1 1) hq, pk_un (f := R.1 2) hq⟩, fun k _ => ⟨rfl, rfl⟩⟩) ⟨?_, ?_, ?_⟩ (IR_redN L.ir (by rw [← L.nn.1]; exact hdd))
  · show _ = upd (R.1 0) dd 0 dd
    rw [pk_us]
    exact (vI_oo (by omega)).trans vI_ss
  · show _ = upd (R.1 2) dd (R.1 2 dd + 1) dd
    rw [pk_us, ← d3]
    exact vI_ss
  · rw [t0]
    refine ⟨?_, Nat.zero_le _, fun k hk => absurd hk (Nat.not_lt_zero k)⟩
    exact (vI_oo (by omega)).trans ((vI_oo (by omega)).trans vI_ss)
theorem REL_18 {f : Nat → Int32} (L : REL V R) : REL V (mA R 18 f) := ⟨L.nn, L.nu, L.dr, L.jr, PT_R L.pt (fun k _ _ => by rw [mA1, if_neg (by omega)]), IR_18 L.ir, L.jt, L.sh, L.ct⟩
theorem tkF_redN : tkF (redN R i) j = redN (tkF R j) i := by
  refine Prod.ext (funext fun k => ?_) rfl
  by_cases h0 : k = 0
  · subst h0; rfl
  · by_cases h1 : k = 1
    · subst h1; rfl
    · by_cases h2 : k = 2
      · subst h2; rfl
      · by_cases h11 : k = 11
        · subst h11; rfl
        · by_cases h15 : k = 15
          · subst h15; rfl
          · rw [tkF_1 h11 h15, redN_1 (by omega), redN_1 (by omega), tkF_1 h11 h15]
theorem rdl_redN : ∀ (j : Nat) (R : MR), rdl o j (redN R i) = redN (rdl o j R) i
  | 0, _ => rfl
  | j + 1, R => by
    show rdl o j (if o j = true then tkF (redN R i) j else redN R i) = redN (rdl o j (if o j = true then tkF R j else R)) i
    split
    · rw [tkF_redN, rdl_redN j]
    · rw [rdl_redN j]
theorem msk_c (h6 : R'.1 6 = R.1 6) (h17 : R'.1 17 = R.1 17) : ∀ n, msk R' j n = msk R j n
  | 0 => rfl
  | n + 1 => by
    show msk R' j n ||| ((1 : Int32) <<< (R'.1 6 (jf R' j n) &&& 31)) = msk R j n ||| ((1 : Int32) <<< (R.1 6 (jf R j n) &&& 31))
    unfold jf
    rw [msk_c h6 h17 n, h6, h17]
theorem mkJ_c (h6 : R'.1 6 = R.1 6) (h17 : R'.1 17 = R.1 17) (h14 : R'.1 14 = R.1 14) : mkJ R' j = mkJ R j := by
  unfold mkJ
  rw [h14]
  exact msk_c h6 h17 _
theorem C_clr_l (h : cok st G) {sh : Int32} (ht : t ≤ 30) (K : ∀ V', CI G V' → pot V' = pot V0 → REL V' R' → nC V' = nC V0 → nJ V' = nJ V0 → P (.inl (some (.int (nI t)))) (cw st G V')) : ∀ (j : Nat) (V : CV) (R : MR) (s : Nat) (l4 : Value), CI G V → pot V = pot V0 → REL V R → nC V = nC V0 → nJ V = nJ V0 → j ≤ nJ V → (∀ q, q < j → o q = (decide (R.1 15 q = 1) && decide (mkJ R q &&& sh ≠ 0))) → s + rdc o j = t → rdl o j R = R' → AW X (d + 4) 71 12 [.ref (G.A .kx), .int sh, .int (nI s), .int (nI j - 1), l4] [] (cw st G V) P := by
  intro j
  induction j with
  | zero =>
    intro V R s l4 I hp L hC hJ hj ho hs hr
    have e : s = t := by simp only [rdc] at hs; omega
    subst e
    rw [E_X5_clearSheets_12]
    simp only [E_X5_clearSheets_0, E_X5_clearSheets_1, E_X5_clearSheets_2, E_X5_clearSheets_2n, E_X5_clearSheets_3, E_X5_clearSheets_6, E_X5_clearSheets_9, E_X5_clearSheets_10, E_X5_clearSheets_11, E_X5_clearSheets_13, E_X5_clearSheets_16, E_X5_clearSheets_16n, E_X5_clearSheets_17, E_X5_clearSheets_20, E_X5_clearSheets_21, E_X5_clearSheets_24, E_X5_clearSheets_24n, E_X5_clearSheets_27, E_X5_clearSheets_27n, E_X5_clearSheets_29, E_X5_clearSheets_29n, E_X5_clearSheets_31, E_X5_clearSheets_34, E_X5_clearSheets_35, E_X5_clearSheets_38, E_X5_clearSheets_38n, E_X5_clearSheets_40, E_X5_clearSheets_43, E_X5_clearSheets_44, E_X5_clearSheets_45, E_X5_clearSheets_48, E_X5_clearSheets_48n, E_X5_clearSheets_50, E_X5_clearSheets_53, E_X5_clearSheets_56, E_X5_clearSheets_59, E_X5_clearSheets_62, E_X5_clearSheets_63, zwith_some, zwith_none, zif_true, zaft_inl, Option.toList_some, Option.toList_none, List.cons_append, List.nil_append, zc1_int, zc1_ref, zc1_null, zc1_float, List.length_nil, List.length_cons, Nat.reduceAdd, Nat.reduceLeDiff, Nat.zero_add, z1and, z0and, zl00, zl01, zl02, zl03, ze00, ze10, ze20, ze30, if_true, if_false, show nI 0 - 1 = -1 from rfl, lm1]
    exact K V I hp (by rw [← hr]; exact L) hC hJ
  | succ j ih =>
    intro V R s l4 I hp L hC hJ hj ho hs hr
    have h30 := I.lj.2.1
    have hjV : j < nJ V := by omega
    have hnn : ¬ nI j < 0 := nI_pos (by omega)
    have hal := I.al (n := 1) (by omega)
    have hg := fun {d} {P} => C_get (X := X) (d := d) (P := P) (V := V) (q := j) h hal (I.gr I.lj.1 (by omega) (show 0 < nJ V by omega)) I.lj.1 hjV (I.lj.2.2 j hjV)
    rw [show ek 1 j = CK.jb j from rfl] at hg
    have hlj := I.jb hjV
    obtain ⟨a1, a2, _, _, _⟩ := L.jr j hjV
    have e : nI j + (-1) = nI j - 1 := by rw [Int32.sub_eq_add_neg]
    have ho1 := ho j (by omega)
    unfold rdl at hr
    unfold rdc at hs
    rw [E_X5_clearSheets_12]
    by_cases c1 : R.1 15 j = 1
    · have s1 : V.i 5 j = 1 := a2.trans c1
      have hu := fun {d} {P} => C_used (X := X) (d := d) (P := P) h I L hjV (.inl c1)
      by_cases c2 : mkJ R j &&& sh = 0
      · have ho2 : o j = false := by
          rw [ho1]
          simp only [c2, ne_eq, not_true, decide_false, Bool.and_false]
        rw [if_neg (by rw [ho2]; decide)] at hr hs
        simp only [E_X5_clearSheets_0, E_X5_clearSheets_1, E_X5_clearSheets_2, E_X5_clearSheets_2n, E_X5_clearSheets_3, E_X5_clearSheets_6, E_X5_clearSheets_9, E_X5_clearSheets_10, E_X5_clearSheets_11, E_X5_clearSheets_13, E_X5_clearSheets_16, E_X5_clearSheets_16n, E_X5_clearSheets_17, E_X5_clearSheets_20, E_X5_clearSheets_21, E_X5_clearSheets_24, E_X5_clearSheets_24n, E_X5_clearSheets_27, E_X5_clearSheets_27n, E_X5_clearSheets_29, E_X5_clearSheets_29n, E_X5_clearSheets_31, E_X5_clearSheets_34, E_X5_clearSheets_35, E_X5_clearSheets_38, E_X5_clearSheets_38n, E_X5_clearSheets_40, E_X5_clearSheets_43, E_X5_clearSheets_44, E_X5_clearSheets_45, E_X5_clearSheets_48, E_X5_clearSheets_48n, E_X5_clearSheets_50, E_X5_clearSheets_53, E_X5_clearSheets_56, E_X5_clearSheets_59, E_X5_clearSheets_62, E_X5_clearSheets_63, zwith_some, zwith_none, zif_true, zaft_inl, Option.toList_some, Option.toList_none, List.cons_append, List.nil_append, zc1_int, zc1_ref, zc1_null, zc1_float, List.length_nil, List.length_cons, Nat.reduceAdd, Nat.reduceLeDiff, Nat.zero_add, z1and, z0and, zl00, zl01, zl02, zl03, ze00, ze10, ze20, ze30, if_true, if_false, nI_p1, hnn, cg_kx h I.kx, cis_al h hal, hg, cis_jb h hlj, cg_jb h hlj, s1, not_true, hu, c2, e]
        exact ih V R s _ I hp L hC hJ (by omega) (fun q hq => ho q (by omega)) (by omega) hr
      · have ho2 : o j = true := by
          rw [ho1]
          simp only [c1, c2, ne_eq, not_false_iff, decide_true, Bool.and_self]
        rw [if_pos ho2] at hr hs
        simp only [E_X5_clearSheets_0, E_X5_clearSheets_1, E_X5_clearSheets_2, E_X5_clearSheets_2n, E_X5_clearSheets_3, E_X5_clearSheets_6, E_X5_clearSheets_9, E_X5_clearSheets_10, E_X5_clearSheets_11, E_X5_clearSheets_13, E_X5_clearSheets_16, E_X5_clearSheets_16n, E_X5_clearSheets_17, E_X5_clearSheets_20, E_X5_clearSheets_21, E_X5_clearSheets_24, E_X5_clearSheets_24n, E_X5_clearSheets_27, E_X5_clearSheets_27n, E_X5_clearSheets_29, E_X5_clearSheets_29n, E_X5_clearSheets_31, E_X5_clearSheets_34, E_X5_clearSheets_35, E_X5_clearSheets_38, E_X5_clearSheets_38n, E_X5_clearSheets_40, E_X5_clearSheets_43, E_X5_clearSheets_44, E_X5_clearSheets_45, E_X5_clearSheets_48, E_X5_clearSheets_48n, E_X5_clearSheets_50, E_X5_clearSheets_53, E_X5_clearSheets_56, E_X5_clearSheets_59, E_X5_clearSheets_62, E_X5_clearSheets_63, zwith_some, zwith_none, zif_true, zaft_inl, Option.toList_some, Option.toList_none, List.cons_append, List.nil_append, zc1_int, zc1_ref, zc1_null, zc1_float, List.length_nil, List.length_cons, Nat.reduceAdd, Nat.reduceLeDiff, Nat.zero_add, z1and, z0and, zl00, zl01, zl02, zl03, ze00, ze10, ze20, ze30, if_true, if_false, nI_p1, hnn, cg_kx h I.kx, cis_al h hal, hg, cis_jb h hlj, cg_jb h hlj, s1, not_true, hu, c2]
        refine C_tk h I L hjV c1 ?_
        intro V1 F1 I1 hp1 L1
        have q1 : nJ V1 = nJ V := congrArg tN (F1.i 1 1 (by decide) (by omega) (by omega))
        have q2 : nC V1 = nC V := congrArg tN (F1.i 1 2 (by decide) (by omega) (by omega))
        simp only [E_X5_clearSheets_0, E_X5_clearSheets_1, E_X5_clearSheets_2, E_X5_clearSheets_2n, E_X5_clearSheets_3, E_X5_clearSheets_6, E_X5_clearSheets_9, E_X5_clearSheets_10, E_X5_clearSheets_11, E_X5_clearSheets_13, E_X5_clearSheets_16, E_X5_clearSheets_16n, E_X5_clearSheets_17, E_X5_clearSheets_20, E_X5_clearSheets_21, E_X5_clearSheets_24, E_X5_clearSheets_24n, E_X5_clearSheets_27, E_X5_clearSheets_27n, E_X5_clearSheets_29, E_X5_clearSheets_29n, E_X5_clearSheets_31, E_X5_clearSheets_34, E_X5_clearSheets_35, E_X5_clearSheets_38, E_X5_clearSheets_38n, E_X5_clearSheets_40, E_X5_clearSheets_43, E_X5_clearSheets_44, E_X5_clearSheets_45, E_X5_clearSheets_48, E_X5_clearSheets_48n, E_X5_clearSheets_50, E_X5_clearSheets_53, E_X5_clearSheets_56, E_X5_clearSheets_59, E_X5_clearSheets_62, E_X5_clearSheets_63, zwith_some, zwith_none, zif_true, zaft_inl, Option.toList_some, Option.toList_none, List.cons_append, List.nil_append, zc1_int, zc1_ref, zc1_null, zc1_float, List.length_nil, List.length_cons, Nat.reduceAdd, Nat.reduceLeDiff, Nat.zero_add, z1and, z0and, zl00, zl01, zl02, zl03, ze00, ze10, ze20, ze30, if_true, if_false, nI_1, e]
        refine ih V1 (tkF R j) (s + 1) _ I1 (hp1.trans hp) L1 (q2.trans hC) (q1.trans hJ) (by omega) (fun q hq => ?_) (by omega) hr
        rw [ho q (by omega), mkJ_c (R' := tkF R j) (R := R) (tkF_1 (by decide) (by decide)) (tkF_1 (by decide) (by decide)) (tkF_1 (by decide) (by decide)), tkF_15, pk_un (by omega)]
    · have s1 : ¬ V.i 5 j = 1 := by rw [a2]; exact c1
      have ho2 : o j = false := by
        rw [ho1]
        simp only [c1, decide_false, Bool.false_and]
      rw [if_neg (by rw [ho2]; decide)] at hr hs
      simp only [E_X5_clearSheets_0, E_X5_clearSheets_1, E_X5_clearSheets_2, E_X5_clearSheets_2n, E_X5_clearSheets_3, E_X5_clearSheets_6, E_X5_clearSheets_9, E_X5_clearSheets_10, E_X5_clearSheets_11, E_X5_clearSheets_13, E_X5_clearSheets_16, E_X5_clearSheets_16n, E_X5_clearSheets_17, E_X5_clearSheets_20, E_X5_clearSheets_21, E_X5_clearSheets_24, E_X5_clearSheets_24n, E_X5_clearSheets_27, E_X5_clearSheets_27n, E_X5_clearSheets_29, E_X5_clearSheets_29n, E_X5_clearSheets_31, E_X5_clearSheets_34, E_X5_clearSheets_35, E_X5_clearSheets_38, E_X5_clearSheets_38n, E_X5_clearSheets_40, E_X5_clearSheets_43, E_X5_clearSheets_44, E_X5_clearSheets_45, E_X5_clearSheets_48, E_X5_clearSheets_48n, E_X5_clearSheets_50, E_X5_clearSheets_53, E_X5_clearSheets_56, E_X5_clearSheets_59, E_X5_clearSheets_62, E_X5_clearSheets_63, zwith_some, zwith_none, zif_true, zaft_inl, Option.toList_some, Option.toList_none, List.cons_append, List.nil_append, zc1_int, zc1_ref, zc1_null, zc1_float, List.length_nil, List.length_cons, Nat.reduceAdd, Nat.reduceLeDiff, Nat.zero_add, z1and, z0and, zl00, zl01, zl02, zl03, ze00, ze10, ze20, ze30, if_true, if_false, nI_p1, hnn, cg_kx h I.kx, cis_al h hal, hg, cis_jb h hlj, cg_jb h hlj, s1, not_false_iff, e]
      exact ih V R s _ I hp L hC hJ (by omega) (fun q hq => ho q (by omega)) (by omega) hr
theorem C_clr (h : cok st G) (I : CI G V) (L : REL V R) {sh : Int32} (ho : ∀ q, q < nJ V → o q = (decide (R.1 15 q = 1) && decide (mkJ R q &&& sh ≠ 0))) (K : ∀ V', CI G V' → pot V' = pot V → REL V' (rdl o (nJ V) R) → nC V' = nC V → nJ V' = nJ V → P (.inl (some (.int (nI (rdc o (nJ V)))))) (cw st G V')) : AC X (d + 5) 71 [.ref (G.A .kx), .int sh] (cw st G V) P := by
  have h30 := I.lj.2.1
  have hal := I.al (n := 1) (by omega)
  rw [A_X5_clearSheets]
  simp only [E_X5_clearSheets_0, E_X5_clearSheets_1, E_X5_clearSheets_2, E_X5_clearSheets_2n, E_X5_clearSheets_3, E_X5_clearSheets_6, E_X5_clearSheets_9, E_X5_clearSheets_10, E_X5_clearSheets_11, E_X5_clearSheets_13, E_X5_clearSheets_16, E_X5_clearSheets_16n, E_X5_clearSheets_17, E_X5_clearSheets_20, E_X5_clearSheets_21, E_X5_clearSheets_24, E_X5_clearSheets_24n, E_X5_clearSheets_27, E_X5_clearSheets_27n, E_X5_clearSheets_29, E_X5_clearSheets_29n, E_X5_clearSheets_31, E_X5_clearSheets_34, E_X5_clearSheets_35, E_X5_clearSheets_38, E_X5_clearSheets_38n, E_X5_clearSheets_40, E_X5_clearSheets_43, E_X5_clearSheets_44, E_X5_clearSheets_45, E_X5_clearSheets_48, E_X5_clearSheets_48n, E_X5_clearSheets_50, E_X5_clearSheets_53, E_X5_clearSheets_56, E_X5_clearSheets_59, E_X5_clearSheets_62, E_X5_clearSheets_63, zwith_some, zwith_none, zif_true, zaft_inl, Option.toList_some, Option.toList_none, List.cons_append, List.nil_append, zc1_int, zc1_ref, zc1_null, zc1_float, List.length_nil, List.length_cons, Nat.reduceAdd, Nat.reduceLeDiff, Nat.zero_add, z1and, z0and, zl00, zl01, zl02, zl03, ze00, ze10, ze20, ze30, if_true, if_false, cg_kx h I.kx, cis_al h hal, C_size h hal, I.lj.1.sz]
  exact C_clr_l h (Nat.le_trans (rdc_le _) h30) K (nJ V) V R 0 _ I rfl L rfl rfl (Nat.le_refl _) ho (Nat.zero_add _) rfl
theorem C_redraw (h : cok st G) (I : CI G V) (L : REL V R) (K0 : redW R x ≠ 0 → P (.inr (if redW R x = 1 then sI else sS)) (cw (st.1 + 7, st.2) G V)) (K : redW R x = 0 → ∀ st' G' V', Sta st G V st' G' V' → CI G' V' → REL V' (redF R x) → nC V' = nC V → P (.inl (some (.int (nI (rdc (redO R x) (tN (R.2.1 21))))))) (cw st' G' V')) : AC X (d + 12) 51 [.ref (G.A .kx), .int x] (cw st G V) P := by
  have h12 := I.ld.2.1
  have z5 : (5 ≤ d + 11) = True := eq_true (by omega)
  have n5 := L.n5
  rw [A_X5_redraw]
  by_cases c : 0 ≤ x ∧ x ≤ nI (nD V) - 1
  · obtain ⟨dd, hdd, rfl⟩ := nI_of_rng (by omega) c.1 c.2
    have ei : tN (nI dd) = dd := tN_nI (by omega)
    have hid : ∀ {P : ZO → ZS → Prop}, AC X (d + 11) 64 [.ref (G.A .kx), .int (nI dd)] (cw st G V) P = P (.inl (some (.ref (G.A (.dr dd))))) (cw st G V) := fun {P} => by rw [C_dAt (d := d + 5) h I, if_pos c, ei]
    obtain ⟨d2, d3, dou⟩ := L.dr dd hdd
    have hdf := L.ir.df dd (by omega)
    have hld := I.dr hdd
    have hrw : redW R (nI dd) = if R.1 0 dd = 0 then 2 else 0 := by
      unfold redW
      rw [if_neg (fun w => w (by rw [n5]; exact c)), ei]
    by_cases c3 : R.1 0 dd = 0
    · rw [if_pos c3] at hrw
      rw [hrw] at K0
      have hs : ¬ V.i 2 dd = 1 := by rw [d2, c3]; decide
      simp only [E_X5_redraw_0, E_X5_redraw_0n, E_X5_redraw_1, E_X5_redraw_2, E_X5_redraw_5, E_X5_redraw_5n, E_X5_redraw_6, E_X5_redraw_6n, E_X5_redraw_7, E_X5_redraw_10, E_X5_redraw_11, E_X5_redraw_14, E_X5_redraw_24, E_X5_redraw_24n, E_X5_redraw_25, E_X5_redraw_25n, E_X5_redraw_26, E_X5_redraw_29, E_X5_redraw_30, E_X5_redraw_30n, E_X5_redraw_31, E_X5_redraw_34, E_X5_redraw_34n, E_X5_redraw_35, E_X5_redraw_36, E_X5_redraw_39, E_X5_redraw_41, E_X5_redraw_41n, E_X5_redraw_42, E_X5_redraw_45, E_X5_redraw_47, zwith_some, zwith_none, zif_true, zaft_inl, Option.toList_some, Option.toList_none, List.cons_append, List.nil_append, zc1_int, zc1_ref, zc1_null, zc1_float, List.length_nil, List.length_cons, Nat.reduceAdd, Nat.reduceLeDiff, Nat.zero_add, z1and, z0and, zl00, zl01, zl02, zl03, ze00, ze10, ze20, ze30, if_true, if_false, cis_kx h I.kx, hid, cg_dr h hld, hs, if_false, z5]
      exact K0 (by decide)
    · rw [if_neg c3] at hrw
      have K := K hrw
      have hs : V.i 2 dd = 1 := d2.trans (hdf.resolve_left c3)
      have hun := fun {d} {P} => C_under (X := X) (d := d) (P := P) h I L hdd
      have hop := fun {d} {P} => C_open (X := X) (d := d) (P := P) h I hdd
      have I1 : CI G (vOA V dd) := CI_open I
      have L1 : REL (vOA V dd) (redN (mA (mF R 25 0) 18 (ofj (mF R 25 0) (nI dd) (tN (R.2.1 21)))) dd) := REL_open (REL_18 (REL_25 L)) hdd
      simp only [E_X5_redraw_0, E_X5_redraw_0n, E_X5_redraw_1, E_X5_redraw_2, E_X5_redraw_5, E_X5_redraw_5n, E_X5_redraw_6, E_X5_redraw_6n, E_X5_redraw_7, E_X5_redraw_10, E_X5_redraw_11, E_X5_redraw_14, E_X5_redraw_24, E_X5_redraw_24n, E_X5_redraw_25, E_X5_redraw_25n, E_X5_redraw_26, E_X5_redraw_29, E_X5_redraw_30, E_X5_redraw_30n, E_X5_redraw_31, E_X5_redraw_34, E_X5_redraw_34n, E_X5_redraw_35, E_X5_redraw_36, E_X5_redraw_39, E_X5_redraw_41, E_X5_redraw_41n, E_X5_redraw_42, E_X5_redraw_45, E_X5_redraw_47, zwith_some, zwith_none, zif_true, zaft_inl, Option.toList_some, Option.toList_none, List.cons_append, List.nil_append, zc1_int, zc1_ref, zc1_null, zc1_float, List.length_nil, List.length_cons, Nat.reduceAdd, Nat.reduceLeDiff, Nat.zero_add, z1and, z0and, zl00, zl01, zl02, zl03, ze00, ze10, ze20, ze30, if_true, if_false, cis_kx h I.kx, hid, cg_dr h hld, hs, if_true, hun, cis_dr h hld, hop, cis_kx h I1.kx]
      have eJ : nJ (vOA V dd) = nJ V := congrArg tN (vOA_i (by omega) (by omega))
      have eC : nC (vOA V dd) = nC V := congrArg tN (vOA_i (by omega) (by omega))
      refine C_clr (o := redO R (nI dd)) h I1 L1 (fun q hq => ?_) ?_
      · rw [eJ] at hq
        rw [redO_eq L hq hdd, mkJ_c (R' := redN (mA (mF R 25 0) 18 (ofj (mF R 25 0) (nI dd) (tN (R.2.1 21)))) dd) (R := R) rfl rfl rfl]
        rfl
      · intro V2 I2 hp2 L2 hC2 hJ2
        rw [eJ, rdl_redN] at L2
        simp only [E_X5_redraw_0, E_X5_redraw_0n, E_X5_redraw_1, E_X5_redraw_2, E_X5_redraw_5, E_X5_redraw_5n, E_X5_redraw_6, E_X5_redraw_6n, E_X5_redraw_7, E_X5_redraw_10, E_X5_redraw_11, E_X5_redraw_14, E_X5_redraw_24, E_X5_redraw_24n, E_X5_redraw_25, E_X5_redraw_25n, E_X5_redraw_26, E_X5_redraw_29, E_X5_redraw_30, E_X5_redraw_30n, E_X5_redraw_31, E_X5_redraw_34, E_X5_redraw_34n, E_X5_redraw_35, E_X5_redraw_36, E_X5_redraw_39, E_X5_redraw_41, E_X5_redraw_41n, E_X5_redraw_42, E_X5_redraw_45, E_X5_redraw_47, zwith_some, zwith_none, zif_true, zaft_inl, Option.toList_some, Option.toList_none, List.cons_append, List.nil_append, zc1_int, zc1_ref, zc1_null, zc1_float, List.length_nil, List.length_cons, Nat.reduceAdd, Nat.reduceLeDiff, Nat.zero_add, z1and, z0and, zl00, zl01, zl02, zl03, ze00, ze10, ze20, ze30, if_true, if_false, cis_kx h I2.kx]
        have eM : rdl (redO R (nI dd)) (nJ V) (mA (mF R 25 0) 18 (ofj (mF R 25 0) (nI dd) (tN (R.2.1 21)))) = redM R (nI dd) := by
          unfold redM
          rw [L.nn.2]
        rw [eM] at L2
        refine C_try h I2 L2 ?_
        intro st3 G3 V3 S3 I3 L3 hC3 _
        simp only [E_X5_redraw_0, E_X5_redraw_0n, E_X5_redraw_1, E_X5_redraw_2, E_X5_redraw_5, E_X5_redraw_5n, E_X5_redraw_6, E_X5_redraw_6n, E_X5_redraw_7, E_X5_redraw_10, E_X5_redraw_11, E_X5_redraw_14, E_X5_redraw_24, E_X5_redraw_24n, E_X5_redraw_25, E_X5_redraw_25n, E_X5_redraw_26, E_X5_redraw_29, E_X5_redraw_30, E_X5_redraw_30n, E_X5_redraw_31, E_X5_redraw_34, E_X5_redraw_34n, E_X5_redraw_35, E_X5_redraw_36, E_X5_redraw_39, E_X5_redraw_41, E_X5_redraw_41n, E_X5_redraw_42, E_X5_redraw_45, E_X5_redraw_47, zwith_some, zwith_none, zif_true, zaft_inl, Option.toList_some, Option.toList_none, List.cons_append, List.nil_append, zc1_int, zc1_ref, zc1_null, zc1_float, List.length_nil, List.length_cons, Nat.reduceAdd, Nat.reduceLeDiff, Nat.zero_add, z1and, z0and, zl00, zl01, zl02, zl03, ze00, ze10, ze20, ze30, if_true, if_false]
        have hK := K st3 G3 V3 ⟨S3.ex, by
          have := S3.pt
          rw [hp2, pot_open] at this
          exact this⟩ I3 (by unfold redF; rw [ei]; exact L3) (hC3.trans (hC2.trans eC))
        rw [← L.nn.2] at hK
        rw [eJ]
        exact hK
  · have hrw : redW R x = 1 := by
      unfold redW
      rw [n5, if_pos c]
    rw [hrw] at K0
    simp only [E_X5_redraw_0, E_X5_redraw_0n, E_X5_redraw_1, E_X5_redraw_2, E_X5_redraw_5, E_X5_redraw_5n, E_X5_redraw_6, E_X5_redraw_6n, E_X5_redraw_7, E_X5_redraw_10, E_X5_redraw_11, E_X5_redraw_14, E_X5_redraw_24, E_X5_redraw_24n, E_X5_redraw_25, E_X5_redraw_25n, E_X5_redraw_26, E_X5_redraw_29, E_X5_redraw_30, E_X5_redraw_30n, E_X5_redraw_31, E_X5_redraw_34, E_X5_redraw_34n, E_X5_redraw_35, E_X5_redraw_36, E_X5_redraw_39, E_X5_redraw_41, E_X5_redraw_41n, E_X5_redraw_42, E_X5_redraw_45, E_X5_redraw_47, zwith_some, zwith_none, zif_true, zaft_inl, Option.toList_some, Option.toList_none, List.cons_append, List.nil_append, zc1_int, zc1_ref, zc1_null, zc1_float, List.length_nil, List.length_cons, Nat.reduceAdd, Nat.reduceLeDiff, Nat.zero_add, z1and, z0and, zl00, zl01, zl02, zl03, ze00, ze10, ze20, ze30, if_true, if_false, cis_kx h I.kx, C_dAt h I, if_neg c, zaft_inr zh_X5_redraw]
    exact K0 (by decide)
end RW
