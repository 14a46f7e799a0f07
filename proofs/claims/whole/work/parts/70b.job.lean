section CJ2
variable {X : ZX} {d : Nat} {st st0 S : ZS} {G G0 : CG} {V V' V0 : CV} {P : ZO → ZS → Prop} {x y z : Int32} {n m p q r j k a i dd : Nat} {R R0 R' : MR} {f g : Nat → Nat} {cp : Int32}
theorem PI_r (J : PI V R n) (h : ∀ c q, 8 ≤ c → c ≤ 13 → V'.i c q = V.i c q) (h14 : V'.i 14 0 = V.i 14 0) (hQ : V'.i 1 3 = V.i 1 3) (hr : ∀ a q, a ≠ 0 → V'.r a q = V.r a q) : PI V' R n := by
  have e3 : nQ V' = nQ V := congrArg tN hQ
  refine ⟨h14.trans J.n0, by rw [e3]; exact J.le, fun q hq => ?_⟩
  have hJ := J.pp q hq
  have hr0 : ∀ a q, a = 2 ∨ a = 3 ∨ a = 4 → V'.r a q = V.r a q := fun a q h => hr a q (by omega)
  refine ⟨fun c h8 h13 => (h c q h8 h13).trans (hJ.v c h8 h13), ?_, ?_, ?_, ?_⟩
  · rw [hr 1 q (by decide)]; exact hJ.w
  · rw [hr 2 q (by decide), hr 3 q (by decide), hr 4 q (by decide)]; exact hJ.ch
  · exact fun h a b ha hb => hJ.lt h a b ha (by rw [← hr0 a q ha]; exact hb)
  · exact fun h a ha => (hr0 a q ha).trans (hJ.no h a ha)
theorem jobM_1 (hk : k ≠ 13) (hk2 : k ≠ 14) : (jobM R x y).1 k = R.1 k := by
  show (mA (mA (mF R 25 0) 13 _) 14 _).1 k = _
  rw [mA1, if_neg (by omega), mA1, if_neg (by omega)]
  rfl
theorem jobM_2 (hk : k ≠ 21) (hk2 : k ≠ 25) : (jobM R x y).2.1 k = R.2.1 k := by
  show (mF (mA (mA (mF R 25 0) 13 _) 14 _) 21 _).2.1 k = _
  rw [mF2, if_neg (by omega)]
  show (mF R 25 0).2.1 k = _
  rw [mF2, if_neg (by omega)]
theorem jobM_13 : (jobM R x y).1 13 = upd (R.1 13) (tN (R.2.1 21)) x := rfl
theorem jobM_14 : (jobM R x y).1 14 = upd (R.1 14) (tN (R.2.1 21)) y := rfl
theorem REL_jb {c' : Nat} (L : REL V R) (I : CI G V) (hn : n = nJ V) (h30 : n < 30) (hdd : dd < nD V) (hc : 1 ≤ q ∧ q ≤ 6) (hlk : lok (vL (vJn V n dd (nI q)) 1 n n c') 1 (n + 1) (n + 1)) : REL (vL (vJn V n dd (nI q)) 1 n n c') (jobM R (nI dd) (nI q)) := by
  have hn' : tN (R.2.1 21) = n := by rw [hn]; exact L.nn.2.symm
  have hdr : dd < tN (R.2.1 5) := by rw [← L.nn.1]; exact hdd
  have h12 := L.ir.d5.2
  have hIR := IR_job (c := q) L.ir hdr hc (by omega)
  have hi : ∀ c k, ¬ (c = 7 ∧ k = 2 * n + 1) → ¬ (c < 2 ∧ k = n + 4) → ¬ ((c = 4 ∨ c = 5 ∨ c = 6) ∧ k = n) → ¬ (c < 2 ∧ k = 1) → (vL (vJn V n dd (nI q)) 1 n n c').i c k = V.i c k := fun c k a b e f => by
    rw [vL_i' (by omega), vJn_i a b e]
  have q0 : nD (vL (vJn V n dd (nI q)) 1 n n c') = nD V := congrArg tN (hi 1 0 (by omega) (by omega) (by omega) (by omega))
  have q1 : nJ (vL (vJn V n dd (nI q)) 1 n n c') = n + 1 := by
    unfold nJ
    rw [hlk.sz]
    exact tN_nI (by omega)
  have he : ∀ k, k ≠ 1 → k ≠ n + 4 → (vL (vJn V n dd (nI q)) 1 n n c').e k = V.e k := fun k hk hk2 => by
    rw [vL_e, if_neg hk, vJn_e, if_neg hk2]
  have hr : ∀ a k, ¬ (a = 0 ∧ k = n) → (vL (vJn V n dd (nI q)) 1 n n c').r a k = V.r a k := fun a k h => by
    show (vJn V n dd (nI q)).r a k = V.r a k
    unfold vJn
    rw [vR_oo h]
    rfl
  have hs : ∀ k, k ≠ 2 * n + 1 → (vL (vJn V n dd (nI q)) 1 n n c').s k = V.s k := fun k h => by
    show (if k = 2 * n + 1 then _ else V.s k) = V.s k
    rw [if_neg h]
  have h15 : R.1 15 n = 0 := L.ir.jz n h30 (by omega)
  have o14 : ∀ j, j ≠ n → (jobM R (nI dd) (nI q)).1 14 j = R.1 14 j := fun j hj => by
    rw [jobM_14, hn', pk_un hj]
  have o13 : ∀ j, j ≠ n → (jobM R (nI dd) (nI q)).1 13 j = R.1 13 j := fun j hj => by
    rw [jobM_13, hn', pk_un hj]
  have hpl : ∀ j, plc (jobM R (nI dd) (nI q)) j → plc R j ∧ j ≠ n := fun j z => by
    obtain ⟨z1, z2⟩ := z
    rw [hIR.2, hn'] at z1
    rw [jobM_1 (by decide) (by decide)] at z2
    have : j ≠ n := fun w => by
      rw [w, h15] at z2
      exact absurd z2 (by decide)
    exact ⟨⟨by omega, z2⟩, this⟩
  have ej : ∀ j b, jf (jobM R (nI dd) (nI q)) j b = jf R j b := fun j b => by unfold jf; rw [jobM_1 (by decide) (by decide)]
  have eN : nP (jobM R (nI dd) (nI q)) = nP R := by
    show tN ((jobM R (nI dd) (nI q)).2.1 14) = tN (R.2.1 14)
    rw [jobM_2 (by decide) (by decide)]
  refine ⟨⟨?_, ?_⟩, ⟨?_, ?_, ?_, ?_⟩, ?_, ?_, ?_, hIR.1, ?_, ?_, ?_⟩
  · rw [q0, jobM_2 (by decide) (by decide)]; exact L.nn.1
  · rw [q1, hIR.2, hn']
  · rw [hi 14 1 (by omega) (by omega) (by omega) (by omega), jobM_2 (by decide) (by decide)]; exact L.nu.1
  · rw [hi 14 2 (by omega) (by omega) (by omega) (by omega), jobM_2 (by decide) (by decide)]; exact L.nu.2.1
  · exact L.nu.2.2.1
  · exact L.nu.2.2.2
  · intro i hi'
    rw [q0] at hi'
    exact DR_o (L.dr i hi') (hi 2 i (by omega) (by omega) (by omega) (by omega)) (hi 3 i (by omega) (by omega) (by omega) (by omega)) (hi 7 (2 * i) (by omega) (by omega) (by omega) (by omega)) (hs _ (by omega)) (fun k hk => jobM_1 (by omega) (by omega))
  · intro j hj
    rw [q1] at hj
    by_cases e : j = n
    · subst e
      have v0 : (vL (vJn V j dd (nI q)) 1 j j c').r 0 j = some dd := by
        show (vJn V j dd (nI q)).r 0 j = some dd
        unfold vJn
        rw [vR_ss]
      have v4 : (vL (vJn V j dd (nI q)) 1 j j c').i 4 j = nI q := by
        rw [vL_i' (by omega)]
        unfold vJn
        rw [vR_i, vI_oo (by omega), vI_oo (by omega), vI_ss]
      have v5 : (vL (vJn V j dd (nI q)) 1 j j c').i 5 j = 0 := by
        rw [vL_i' (by omega)]
        unfold vJn
        rw [vR_i, vI_oo (by omega), vI_ss]
      have v6 : (vL (vJn V j dd (nI q)) 1 j j c').i 6 j = -1 := by
        rw [vL_i' (by omega)]
        unfold vJn
        rw [vR_i, vI_ss]
      have v1 : (vL (vJn V j dd (nI q)) 1 j j c').i 1 (j + 4) = 0 := by
        rw [vL_i' (by omega)]
        unfold vJn
        rw [vR_i, vI_oo (by omega), vI_oo (by omega), vI_oo (by omega), vE_i]
        unfold vJ0
        rw [vI_ss]
      refine ⟨?_, ?_, ?_, ?_, ?_⟩
      · rw [v4, jobM_14, hn', pk_us]
      · rw [v5, jobM_1 (by decide) (by decide), h15]
      · rw [v0, jobM_13, hn', pk_us, tN_nI (by omega)]
      · rw [jobM_1 (by decide) (by decide), h15]
        exact fun z => absurd z (by decide)
      · exact fun _ => ⟨v6, v1⟩
    · have hj' : j < nJ V := by omega
      obtain ⟨a1, a2, a3, a4, a5⟩ := L.jr j hj'
      refine ⟨?_, ?_, ?_, ?_, ?_⟩
      · rw [hi 4 j (by omega) (by omega) (by omega) (by omega), o14 j e]; exact a1
      · rw [hi 5 j (by omega) (by omega) (by omega) (by omega), jobM_1 (by decide) (by decide)]; exact a2
      · rw [hr 0 j (by omega), o13 j e]; exact a3
      · rw [jobM_1 (k := 15) (by decide) (by decide), jobM_1 (k := 16) (by decide) (by decide), o14 j e, hi 6 j (by omega) (by omega) (by omega) (by omega), hi 1 (j + 4) (by omega) (by omega) (by omega) (by omega), he (j + 4) (by omega) (by omega)]
        intro z
        obtain ⟨b1, b2, b3⟩ := a4 z
        exact ⟨b1, b2, fun b hb => by rw [ej]; exact b3 b hb⟩
      · rw [jobM_1 (k := 15) (by decide) (by decide), hi 6 j (by omega) (by omega) (by omega) (by omega), hi 1 (j + 4) (by omega) (by omega) (by omega) (by omega)]
        exact a5
  · rw [eN]
    refine PT_R (R := R) ⟨PI_r L.pt.1 (fun c q a b => hi c q (by omega) (by omega) (by omega) (by omega)) (hi 14 0 (by omega) (by omega) (by omega) (by omega)) (hi 1 3 (by omega) (by omega) (by omega) (by omega)) (fun a q h => hr a q (fun z => h z.1)), L.pt.2⟩ (fun k a b => jobM_1 (by omega) (by omega))
  · refine ⟨fun j b hj hb => ?_, fun j b j' b' hj hj' hb hb' he' => ?_⟩
    · obtain ⟨w1, w2⟩ := hpl j hj
      rw [o14 j w2] at hb
      rw [ej, jobM_1 (by decide) (by decide), eN]
      exact L.jt.1 j b w1 hb
    · obtain ⟨w1, w2⟩ := hpl j hj
      obtain ⟨w3, w4⟩ := hpl j' hj'
      rw [o14 j w2] at hb
      rw [o14 j' w4] at hb'
      rw [ej, ej] at he'
      exact L.jt.2 j b j' b' w1 w3 hb hb' he'
  · intro p hp
    rw [eN] at hp
    rw [jobM_1 (by decide) (by decide)]
    exact L.sh p hp
  · have hcl : ∀ i j, V.e 2 i = some j → j < n := fun i j e => by
      rw [hn]
      exact (I.lc.el i j e).2
    refine CT_o L.ct (fun m hm => ?_) (he 2 (by decide) (by omega)) rfl (hi 1 2 (by omega) (by omega) (by omega) (by omega)) (fun i j e => ?_) (fun i j e => hi 5 j (by omega) (by omega) (by have := hcl i j e; omega) (by omega))
    · rw [q1] at hm
      rw [vL_c, if_neg (by omega)]
      exact L.ct.1 m (by omega)
    · have := hcl i j e
      exact ⟨hi 4 j (by omega) (by omega) (by omega) (by omega), hi 7 (2 * j + 1) (by omega) (by omega) (by omega) (by omega), hs _ (by omega)⟩
theorem C_job (h : cok st G) (I : CI G V) (L : REL V R) (K0 : jobW R x y ≠ 0 → P (.inr (if jobW R x y = 1 then sI else if jobW R x y = 2 then sA else sS)) (cw (st.1 + 7, st.2) G V)) (K : jobW R x y = 0 → ∀ st' G' V', Sta st G V st' G' V' → CI G' V' → REL V' (jobF R x y) → nC V' = nC V → P (.inl (some (.int ((jobF R x y).2.1 21 - 1)))) (cw st' G' V')) : AC X (d + 11) 55 [.ref (G.A .kx), .int x, .int y] (cw st G V) P := by
  have h12 := I.ld.2.1
  have z5 : (5 ≤ d + 10) = True := eq_true (by omega)
  have n5 := L.n5
  have n21 := L.n21
  have hal := I.al (n := 1) (by omega)
  have h30 := I.lj.2.1
  rw [A_X5_job]
  by_cases c : 0 ≤ x ∧ x ≤ nI (nD V) - 1
  · have c' := c
    obtain ⟨i, hi, rfl⟩ := nI_of_rng (by omega) c.1 c.2
    have ei : tN (nI i) = i := tN_nI (by omega)
    have hid : ∀ {P : ZO → ZS → Prop}, AC X (d + 10) 64 [.ref (G.A .kx), .int (nI i)] (cw st G V) P = P (.inl (some (.ref (G.A (.dr i))))) (cw st G V) := fun {P} => by rw [C_dAt (d := d + 4) h I, if_pos c, ei]
    obtain ⟨d2, d3, dou⟩ := L.dr i hi
    have hdf := L.ir.df i (by omega)
    have hld := I.dr hi
    have hjw : jobW R (nI i) y = if ¬ (1 ≤ y ∧ y ≤ 6) then 2 else if R.1 0 i = 0 ∨ R.2.1 21 = 30 then 3 else 0 := by
      unfold jobW
      rw [if_neg (fun w => w (by rw [n5]; exact c)), ei]
    by_cases c2 : 1 ≤ y ∧ y ≤ 6
    · rw [if_neg (fun w => w c2)] at hjw
      have c21 : ¬ y < 1 := Int32.not_lt.mpr c2.1
      by_cases c3 : R.1 0 i = 0
      · rw [if_pos (.inl c3)] at hjw
        rw [hjw] at K0
        have hs0 : V.i 2 i = 0 := d2.trans c3
        simp only [E_X5_job_0, E_X5_job_0n, E_X5_job_1, E_X5_job_2, E_X5_job_5, E_X5_job_5n, E_X5_job_6, E_X5_job_7, E_X5_job_8, E_X5_job_11, E_X5_job_12, E_X5_job_14, E_X5_job_17, E_X5_job_27, E_X5_job_27n, E_X5_job_28, E_X5_job_31, E_X5_job_32, E_X5_job_35, E_X5_job_35n, E_X5_job_36, E_X5_job_39, E_X5_job_42, E_X5_job_44, E_X5_job_47, E_X5_job_57, E_X5_job_57n, E_X5_job_58, E_X5_job_61, E_X5_job_64, E_X5_job_66, E_X5_job_69, E_X5_job_69n, E_X5_job_69i, E_X5_job_69f, E_X5_job_70, E_X5_job_70n, E_X5_job_71, E_X5_job_72, E_X5_job_75, E_X5_job_75n, E_X5_job_77, E_X5_job_77n, E_X5_job_78, E_X5_job_81, E_X5_job_81n, E_X5_job_83, E_X5_job_86, E_X5_job_86n, E_X5_job_86i, E_X5_job_86f, E_X5_job_87, E_X5_job_87n, E_X5_job_89, E_X5_job_89n, E_X5_job_90, E_X5_job_93, E_X5_job_96, E_X5_job_98, zwith_some, zwith_none, zif_true, zaft_inl, Option.toList_some, Option.toList_none, List.cons_append, List.nil_append, zc1_int, zc1_ref, zc1_null, zc1_float, List.length_nil, List.length_cons, Nat.reduceAdd, Nat.reduceLeDiff, Nat.zero_add, z1and, z0and, zl00, zl01, zl02, zl03, ze00, ze10, ze20, ze30, if_true, if_false, cis_kx h I.kx, hid, c21, c2.2, if_false, if_true, cg_dr h hld, hs0, show ¬ (0 : Int32) = 1 from by decide, not_false_iff, z5]
        exact K0 (by decide)
      · have hs1 : V.i 2 i = 1 := d2.trans (hdf.resolve_left c3)
        by_cases c4 : nJ V = 30
        · rw [if_pos (.inr (by rw [n21, c4]; rfl))] at hjw
          rw [hjw] at K0
          have hlt : ¬ nI (nJ V) < 30 := by rw [c4]; decide
          simp only [E_X5_job_0, E_X5_job_0n, E_X5_job_1, E_X5_job_2, E_X5_job_5, E_X5_job_5n, E_X5_job_6, E_X5_job_7, E_X5_job_8, E_X5_job_11, E_X5_job_12, E_X5_job_14, E_X5_job_17, E_X5_job_27, E_X5_job_27n, E_X5_job_28, E_X5_job_31, E_X5_job_32, E_X5_job_35, E_X5_job_35n, E_X5_job_36, E_X5_job_39, E_X5_job_42, E_X5_job_44, E_X5_job_47, E_X5_job_57, E_X5_job_57n, E_X5_job_58, E_X5_job_61, E_X5_job_64, E_X5_job_66, E_X5_job_69, E_X5_job_69n, E_X5_job_69i, E_X5_job_69f, E_X5_job_70, E_X5_job_70n, E_X5_job_71, E_X5_job_72, E_X5_job_75, E_X5_job_75n, E_X5_job_77, E_X5_job_77n, E_X5_job_78, E_X5_job_81, E_X5_job_81n, E_X5_job_83, E_X5_job_86, E_X5_job_86n, E_X5_job_86i, E_X5_job_86f, E_X5_job_87, E_X5_job_87n, E_X5_job_89, E_X5_job_89n, E_X5_job_90, E_X5_job_93, E_X5_job_96, E_X5_job_98, zwith_some, zwith_none, zif_true, zaft_inl, Option.toList_some, Option.toList_none, List.cons_append, List.nil_append, zc1_int, zc1_ref, zc1_null, zc1_float, List.length_nil, List.length_cons, Nat.reduceAdd, Nat.reduceLeDiff, Nat.zero_add, z1and, z0and, zl00, zl01, zl02, zl03, ze00, ze10, ze20, ze30, if_true, if_false, cis_kx h I.kx, hid, c21, c2.2, if_false, if_true, cg_dr h hld, hs1, not_true, cg_kx h I.kx, cis_al h hal, C_size h hal, I.lj.1.sz, hlt, z5]
          exact K0 (by decide)
        · have hne : ¬ (R.1 0 i = 0 ∨ R.2.1 21 = 30) := fun w => w.elim c3 fun w => c4 (by
            rw [n21] at w
            exact (nI_eq (b := 30) (by omega) (by decide)).mp w)
          rw [if_neg hne] at hjw
          have hlt : nI (nJ V) < 30 := nI_lt (b := 30) (by omega) (by decide)
          obtain ⟨q, hq, eq⟩ := nI_of2 (x := y) (M := 6) (n := 6) rfl (fun z => by have := Int32.lt_of_le_of_lt c2.1 z; exact absurd this (by decide)) c2.2
          subst eq
          have hq1 : 1 ≤ q := by
            rcases Nat.eq_zero_or_pos q with w | w
            · subst w; exact absurd c2.1 (by decide)
            · exact w
          obtain ⟨n, hn⟩ : ∃ n, n = nJ V := ⟨_, rfl⟩
          have hc0 : V.c (n + 4) = 0 := L.ct.1 (n + 4) (by omega)
          obtain ⟨T, G1, hT, E, e1, eA, hl⟩ := new_jb (cp := nI q) h I hn hc0 hi
          have hT1 : T.1 = st.1 + 39 := by rw [hT]; rfl
          have hnp := fun {d} {P} => S_newJ (X := X) (d := d) (P := P) (S := cw st G V) (dr := G.A (.dr i)) (c := nI q)
          rw [cw_len, ← hT] at hnp
          rw [← hn] at hlt
          have hsz := I.lj.1.sz
          rw [← hn] at hsz
          simp only [E_X5_job_0, E_X5_job_0n, E_X5_job_1, E_X5_job_2, E_X5_job_5, E_X5_job_5n, E_X5_job_6, E_X5_job_7, E_X5_job_8, E_X5_job_11, E_X5_job_12, E_X5_job_14, E_X5_job_17, E_X5_job_27, E_X5_job_27n, E_X5_job_28, E_X5_job_31, E_X5_job_32, E_X5_job_35, E_X5_job_35n, E_X5_job_36, E_X5_job_39, E_X5_job_42, E_X5_job_44, E_X5_job_47, E_X5_job_57, E_X5_job_57n, E_X5_job_58, E_X5_job_61, E_X5_job_64, E_X5_job_66, E_X5_job_69, E_X5_job_69n, E_X5_job_69i, E_X5_job_69f, E_X5_job_70, E_X5_job_70n, E_X5_job_71, E_X5_job_72, E_X5_job_75, E_X5_job_75n, E_X5_job_77, E_X5_job_77n, E_X5_job_78, E_X5_job_81, E_X5_job_81n, E_X5_job_83, E_X5_job_86, E_X5_job_86n, E_X5_job_86i, E_X5_job_86f, E_X5_job_87, E_X5_job_87n, E_X5_job_89, E_X5_job_89n, E_X5_job_90, E_X5_job_93, E_X5_job_96, E_X5_job_98, zwith_some, zwith_none, zif_true, zaft_inl, Option.toList_some, Option.toList_none, List.cons_append, List.nil_append, zc1_int, zc1_ref, zc1_null, zc1_float, List.length_nil, List.length_cons, Nat.reduceAdd, Nat.reduceLeDiff, Nat.zero_add, z1and, z0and, zl00, zl01, zl02, zl03, ze00, ze10, ze20, ze30, if_true, if_false, cis_kx h I.kx, hid, c21, c2.2, if_false, if_true, cg_dr h hld, hs1, not_true, cg_kx h I.kx, cis_al h hal, C_size h hal, hsz, hlt, cw_len, hnp]
          rw [e1, ← eA, ← E.A .kx (by decide) I.kx]
          have hl3 : lok (vJn V n i (nI q)) 1 n (n + 1) := by
            have := I.lj.1
            rw [← hn] at this
            exact lok_o this (Nat.le_succ n) (vJn_i (by omega) (by omega) (by omega)) rfl (by rw [vJn_e, if_neg (by omega)])
          have lv0 : ∀ k, G.live k → G1.live k := fun k z => (hl k).mpr (.inl (.inl (.inl (.inl z))))
          have hadd := fun K => C_add (X := X) (d := d + 4) (P := zaft X (d + 10) 55 83 [.ref (G1.A .kx), .int (nI i), .int (nI q), .ref (G.A (.dr i)), .int (nI n), .ref (G1.A (.jb n))] [] P) (V := vJn V n i (nI q)) (n := 1) (m := n) (q := n) (b := n + 1) E.ok (lv0 _ hal) (fun z => lv0 _ (I.ar (by omega) z)) hl3 (fun k hk => (hl _).mpr (by
            by_cases z : k = n
            · subst z; exact .inr rfl
            · exact .inl (.inl (.inl (.inl (I.jb (show k < nJ V by omega))))))) (Nat.lt_succ_self n) (by omega) K
          rw [show ek 1 n = CK.jb n from rfl] at hadd
          simp only [E_X5_job_0, E_X5_job_0n, E_X5_job_1, E_X5_job_2, E_X5_job_5, E_X5_job_5n, E_X5_job_6, E_X5_job_7, E_X5_job_8, E_X5_job_11, E_X5_job_12, E_X5_job_14, E_X5_job_17, E_X5_job_27, E_X5_job_27n, E_X5_job_28, E_X5_job_31, E_X5_job_32, E_X5_job_35, E_X5_job_35n, E_X5_job_36, E_X5_job_39, E_X5_job_42, E_X5_job_44, E_X5_job_47, E_X5_job_57, E_X5_job_57n, E_X5_job_58, E_X5_job_61, E_X5_job_64, E_X5_job_66, E_X5_job_69, E_X5_job_69n, E_X5_job_69i, E_X5_job_69f, E_X5_job_70, E_X5_job_70n, E_X5_job_71, E_X5_job_72, E_X5_job_75, E_X5_job_75n, E_X5_job_77, E_X5_job_77n, E_X5_job_78, E_X5_job_81, E_X5_job_81n, E_X5_job_83, E_X5_job_86, E_X5_job_86n, E_X5_job_86i, E_X5_job_86f, E_X5_job_87, E_X5_job_87n, E_X5_job_89, E_X5_job_89n, E_X5_job_90, E_X5_job_93, E_X5_job_96, E_X5_job_98, zwith_some, zwith_none, zif_true, zaft_inl, Option.toList_some, Option.toList_none, List.cons_append, List.nil_append, zc1_int, zc1_ref, zc1_null, zc1_float, List.length_nil, List.length_cons, Nat.reduceAdd, Nat.reduceLeDiff, Nat.zero_add, z1and, z0and, zl00, zl01, zl02, zl03, ze00, ze10, ze20, ze30, if_true, if_false, cg_kx E.ok (lv0 _ I.kx), cis_al E.ok (lv0 _ hal)]
          refine hadd ?_
          intro st2 G2 E2 hl2 hu
          have hlk : lok (vL (vJn V n i (nI q)) 1 n n (nwc (V.c 1) n)) 1 (n + 1) (n + 1) := lok_add hl3 (Nat.lt_succ_self n) (show n < 600 by omega)
          have hpt := pot_vL (V := vJn V n i (nI q)) (n := 1) (m := n) (q := n) (c := nwc (V.c 1) n) (by decide) ((vJn_i (by omega) (by omega) (by omega)).trans hsz) (by omega)
          rw [if_neg (by decide), if_neg (by decide), if_pos rfl] at hpt
          have hp0 : pot (vJn V n i (nI q)) = pot V := by
            show 4 * sm (vJn V n i (nI q)).c 34 + (12 * tN ((vJn V n i (nI q)).i 1 3) + (33 * tN ((vJn V n i (nI q)).i 1 0) + 39 * tN ((vJn V n i (nI q)).i 1 1))) = 4 * sm V.c 34 + (12 * tN (V.i 1 3) + (33 * tN (V.i 1 0) + 39 * tN (V.i 1 1)))
            rw [vJn_i (by omega) (by omega) (by omega), vJn_i (by omega) (by omega) (by omega), vJn_i (by omega) (by omega) (by omega)]
            rfl
          rw [hp0] at hpt
          have hl4 : ∀ k, G2.live k ↔ (((((G.live k ∨ k = .sk (2 * n + 1)) ∨ k = .ou (2 * n + 1)) ∨ k = .al (n + 4)) ∨ k = .jb n) ∨ k = .ar 1) := fun k => by rw [hl2, hl]
          obtain ⟨I2, q0, q1, q2, q3⟩ := CI_jb (cp := nI q) I hn (by omega) hc0 hi hl4 hlk
          have L2 := REL_jb (q := q) L I hn (by omega) hi ⟨hq1, hq⟩ hlk
          have eK : G2.A .kx = G1.A .kx := E2.A .kx (by decide) (lv0 _ I.kx)
          have eJ : G2.A (.jb n) = G1.A (.jb n) := E2.A (.jb n) (by show (7 : Nat) ≠ 3; decide) ((hl _).mpr (.inr rfl))
          simp only [E_X5_job_0, E_X5_job_0n, E_X5_job_1, E_X5_job_2, E_X5_job_5, E_X5_job_5n, E_X5_job_6, E_X5_job_7, E_X5_job_8, E_X5_job_11, E_X5_job_12, E_X5_job_14, E_X5_job_17, E_X5_job_27, E_X5_job_27n, E_X5_job_28, E_X5_job_31, E_X5_job_32, E_X5_job_35, E_X5_job_35n, E_X5_job_36, E_X5_job_39, E_X5_job_42, E_X5_job_44, E_X5_job_47, E_X5_job_57, E_X5_job_57n, E_X5_job_58, E_X5_job_61, E_X5_job_64, E_X5_job_66, E_X5_job_69, E_X5_job_69n, E_X5_job_69i, E_X5_job_69f, E_X5_job_70, E_X5_job_70n, E_X5_job_71, E_X5_job_72, E_X5_job_75, E_X5_job_75n, E_X5_job_77, E_X5_job_77n, E_X5_job_78, E_X5_job_81, E_X5_job_81n, E_X5_job_83, E_X5_job_86, E_X5_job_86n, E_X5_job_86i, E_X5_job_86f, E_X5_job_87, E_X5_job_87n, E_X5_job_89, E_X5_job_89n, E_X5_job_90, E_X5_job_93, E_X5_job_96, E_X5_job_98, zwith_some, zwith_none, zif_true, zaft_inl, Option.toList_some, Option.toList_none, List.cons_append, List.nil_append, zc1_int, zc1_ref, zc1_null, zc1_float, List.length_nil, List.length_cons, Nat.reduceAdd, Nat.reduceLeDiff, Nat.zero_add, z1and, z0and, zl00, zl01, zl02, zl03, ze00, ze10, ze20, ze30, if_true, if_false]
          rw [← eK, ← eJ]
          simp only [E_X5_job_0, E_X5_job_0n, E_X5_job_1, E_X5_job_2, E_X5_job_5, E_X5_job_5n, E_X5_job_6, E_X5_job_7, E_X5_job_8, E_X5_job_11, E_X5_job_12, E_X5_job_14, E_X5_job_17, E_X5_job_27, E_X5_job_27n, E_X5_job_28, E_X5_job_31, E_X5_job_32, E_X5_job_35, E_X5_job_35n, E_X5_job_36, E_X5_job_39, E_X5_job_42, E_X5_job_44, E_X5_job_47, E_X5_job_57, E_X5_job_57n, E_X5_job_58, E_X5_job_61, E_X5_job_64, E_X5_job_66, E_X5_job_69, E_X5_job_69n, E_X5_job_69i, E_X5_job_69f, E_X5_job_70, E_X5_job_70n, E_X5_job_71, E_X5_job_72, E_X5_job_75, E_X5_job_75n, E_X5_job_77, E_X5_job_77n, E_X5_job_78, E_X5_job_81, E_X5_job_81n, E_X5_job_83, E_X5_job_86, E_X5_job_86n, E_X5_job_86i, E_X5_job_86f, E_X5_job_87, E_X5_job_87n, E_X5_job_89, E_X5_job_89n, E_X5_job_90, E_X5_job_93, E_X5_job_96, E_X5_job_98, zwith_some, zwith_none, zif_true, zaft_inl, Option.toList_some, Option.toList_none, List.cons_append, List.nil_append, zc1_int, zc1_ref, zc1_null, zc1_float, List.length_nil, List.length_cons, Nat.reduceAdd, Nat.reduceLeDiff, Nat.zero_add, z1and, z0and, zl00, zl01, zl02, zl03, ze00, ze10, ze20, ze30, if_true, if_false, cg_kx E2.ok I2.kx, cis_jb E2.ok (I2.jb (show n < nJ _ by rw [q1]; omega))]
          have hn' : tN (R.2.1 21) = n := by rw [hn]; exact L.nn.2.symm
          have h15 : (jobM R (nI i) (nI q)).1 15 n = 0 := by
            rw [jobM_1 (by decide) (by decide)]
            exact L.ir.jz n (by omega) (by omega)
          have hlt2 : n < nJ (vL (vJn V n i (nI q)) 1 n n (nwc (V.c 1) n)) := by rw [q1]; omega
          refine C_nestOn E2.ok I2 L2 hlt2 h15 ?_
          intro st3 G3 V3 S3 I3 F3 PT3 J3
          have L3 := REL_nsF L2 I2 hlt2 h15 F3 PT3 J3
          simp only [E_X5_job_0, E_X5_job_0n, E_X5_job_1, E_X5_job_2, E_X5_job_5, E_X5_job_5n, E_X5_job_6, E_X5_job_7, E_X5_job_8, E_X5_job_11, E_X5_job_12, E_X5_job_14, E_X5_job_17, E_X5_job_27, E_X5_job_27n, E_X5_job_28, E_X5_job_31, E_X5_job_32, E_X5_job_35, E_X5_job_35n, E_X5_job_36, E_X5_job_39, E_X5_job_42, E_X5_job_44, E_X5_job_47, E_X5_job_57, E_X5_job_57n, E_X5_job_58, E_X5_job_61, E_X5_job_64, E_X5_job_66, E_X5_job_69, E_X5_job_69n, E_X5_job_69i, E_X5_job_69f, E_X5_job_70, E_X5_job_70n, E_X5_job_71, E_X5_job_72, E_X5_job_75, E_X5_job_75n, E_X5_job_77, E_X5_job_77n, E_X5_job_78, E_X5_job_81, E_X5_job_81n, E_X5_job_83, E_X5_job_86, E_X5_job_86n, E_X5_job_86i, E_X5_job_86f, E_X5_job_87, E_X5_job_87n, E_X5_job_89, E_X5_job_89n, E_X5_job_90, E_X5_job_93, E_X5_job_96, E_X5_job_98, zwith_some, zwith_none, zif_true, zaft_inl, Option.toList_some, Option.toList_none, List.cons_append, List.nil_append, zc1_int, zc1_ref, zc1_null, zc1_float, List.length_nil, List.length_cons, Nat.reduceAdd, Nat.reduceLeDiff, Nat.zero_add, z1and, z0and, zl00, zl01, zl02, zl03, ze00, ze10, ze20, ze30, if_true, if_false]
          have hjF : jobF R (nI i) (nI q) = nsF (jobM R (nI i) (nI q)) n := by
            unfold jobF
            rw [hn']
          have hans : (jobF R (nI i) (nI q)).2.1 21 - 1 = nI n := by
            rw [hjF, nsF_2 L2.ir (by rw [← L2.nn.2, q1]; omega) (by decide)]
            show R.2.1 21 + 1 - 1 = _
            rw [n21, nI_1, nI_p1, ← hn]
          have hK := K hjw st3 G3 V3 ⟨(E.trans E2).trans S3.ex, ?_⟩ I3 (by rw [hjF]; exact L3) ?_
          · rw [hans] at hK
            exact hK
          · have a2 : st3.1 + pot (vL (vJn V n i (nI q)) 1 n n (nwc (V.c 1) n)) ≤ st2.1 + pot V3 := S3.pt
            have hu' : st2.1 + 4 * V.c 1 ≤ T.1 + 4 * nwc (V.c 1) n := hu
            have hpt' : pot (vL (vJn V n i (nI q)) 1 n n (nwc (V.c 1) n)) + 4 * V.c 1 = pot V + 4 * nwc (V.c 1) n + 39 := hpt
            show st3.1 + pot V ≤ st.1 + pot V3
            omega
          · rw [← q2]
            exact congrArg tN (F3.i 1 2 (by omega) (by omega) (by omega))
    · rw [if_pos c2] at hjw
      rw [hjw] at K0
      by_cases c3 : y < 1
      · simp only [E_X5_job_0, E_X5_job_0n, E_X5_job_1, E_X5_job_2, E_X5_job_5, E_X5_job_5n, E_X5_job_6, E_X5_job_7, E_X5_job_8, E_X5_job_11, E_X5_job_12, E_X5_job_14, E_X5_job_17, E_X5_job_27, E_X5_job_27n, E_X5_job_28, E_X5_job_31, E_X5_job_32, E_X5_job_35, E_X5_job_35n, E_X5_job_36, E_X5_job_39, E_X5_job_42, E_X5_job_44, E_X5_job_47, E_X5_job_57, E_X5_job_57n, E_X5_job_58, E_X5_job_61, E_X5_job_64, E_X5_job_66, E_X5_job_69, E_X5_job_69n, E_X5_job_69i, E_X5_job_69f, E_X5_job_70, E_X5_job_70n, E_X5_job_71, E_X5_job_72, E_X5_job_75, E_X5_job_75n, E_X5_job_77, E_X5_job_77n, E_X5_job_78, E_X5_job_81, E_X5_job_81n, E_X5_job_83, E_X5_job_86, E_X5_job_86n, E_X5_job_86i, E_X5_job_86f, E_X5_job_87, E_X5_job_87n, E_X5_job_89, E_X5_job_89n, E_X5_job_90, E_X5_job_93, E_X5_job_96, E_X5_job_98, zwith_some, zwith_none, zif_true, zaft_inl, Option.toList_some, Option.toList_none, List.cons_append, List.nil_append, zc1_int, zc1_ref, zc1_null, zc1_float, List.length_nil, List.length_cons, Nat.reduceAdd, Nat.reduceLeDiff, Nat.zero_add, z1and, z0and, zl00, zl01, zl02, zl03, ze00, ze10, ze20, ze30, if_true, if_false, cis_kx h I.kx, hid, c3, if_true, z5]
        exact K0 (by decide)
      · have c4 : ¬ y ≤ 6 := fun w => c2 ⟨Int32.not_lt.mp c3, w⟩
        simp only [E_X5_job_0, E_X5_job_0n, E_X5_job_1, E_X5_job_2, E_X5_job_5, E_X5_job_5n, E_X5_job_6, E_X5_job_7, E_X5_job_8, E_X5_job_11, E_X5_job_12, E_X5_job_14, E_X5_job_17, E_X5_job_27, E_X5_job_27n, E_X5_job_28, E_X5_job_31, E_X5_job_32, E_X5_job_35, E_X5_job_35n, E_X5_job_36, E_X5_job_39, E_X5_job_42, E_X5_job_44, E_X5_job_47, E_X5_job_57, E_X5_job_57n, E_X5_job_58, E_X5_job_61, E_X5_job_64, E_X5_job_66, E_X5_job_69, E_X5_job_69n, E_X5_job_69i, E_X5_job_69f, E_X5_job_70, E_X5_job_70n, E_X5_job_71, E_X5_job_72, E_X5_job_75, E_X5_job_75n, E_X5_job_77, E_X5_job_77n, E_X5_job_78, E_X5_job_81, E_X5_job_81n, E_X5_job_83, E_X5_job_86, E_X5_job_86n, E_X5_job_86i, E_X5_job_86f, E_X5_job_87, E_X5_job_87n, E_X5_job_89, E_X5_job_89n, E_X5_job_90, E_X5_job_93, E_X5_job_96, E_X5_job_98, zwith_some, zwith_none, zif_true, zaft_inl, Option.toList_some, Option.toList_none, List.cons_append, List.nil_append, zc1_int, zc1_ref, zc1_null, zc1_float, List.length_nil, List.length_cons, Nat.reduceAdd, Nat.reduceLeDiff, Nat.zero_add, z1and, z0and, zl00, zl01, zl02, zl03, ze00, ze10, ze20, ze30, if_true, if_false, cis_kx h I.kx, hid, c3, c4, if_false, z5]
        exact K0 (by decide)
  · have hjw : jobW R x y = 1 := by
      unfold jobW
      rw [n5, if_pos c]
    rw [hjw] at K0
    simp only [E_X5_job_0, E_X5_job_0n, E_X5_job_1, E_X5_job_2, E_X5_job_5, E_X5_job_5n, E_X5_job_6, E_X5_job_7, E_X5_job_8, E_X5_job_11, E_X5_job_12, E_X5_job_14, E_X5_job_17, E_X5_job_27, E_X5_job_27n, E_X5_job_28, E_X5_job_31, E_X5_job_32, E_X5_job_35, E_X5_job_35n, E_X5_job_36, E_X5_job_39, E_X5_job_42, E_X5_job_44, E_X5_job_47, E_X5_job_57, E_X5_job_57n, E_X5_job_58, E_X5_job_61, E_X5_job_64, E_X5_job_66, E_X5_job_69, E_X5_job_69n, E_X5_job_69i, E_X5_job_69f, E_X5_job_70, E_X5_job_70n, E_X5_job_71, E_X5_job_72, E_X5_job_75, E_X5_job_75n, E_X5_job_77, E_X5_job_77n, E_X5_job_78, E_X5_job_81, E_X5_job_81n, E_X5_job_83, E_X5_job_86, E_X5_job_86n, E_X5_job_86i, E_X5_job_86f, E_X5_job_87, E_X5_job_87n, E_X5_job_89, E_X5_job_89n, E_X5_job_90, E_X5_job_93, E_X5_job_96, E_X5_job_98, zwith_some, zwith_none, zif_true, zaft_inl, Option.toList_some, Option.toList_none, List.cons_append, List.nil_append, zc1_int, zc1_ref, zc1_null, zc1_float, List.length_nil, List.length_cons, Nat.reduceAdd, Nat.reduceLeDiff, Nat.zero_add, z1and, z0and, zl00, zl01, zl02, zl03, ze00, ze10, ze20, ze30, if_true, if_false, cis_kx h I.kx, C_dAt h I, if_neg c, zaft_inr zh_X5_job]
    exact K0 (by decide)
end CJ2
