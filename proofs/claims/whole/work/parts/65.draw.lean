/-! drawing, stroke -/
section DW
variable {X : ZX} {d : Nat} {st st0 S : ZS} {G G0 : CG} {V V' V0 : CV} {P : ZO → ZS → Prop} {x y z : Int32} {n m p q r j k a : Nat} {R R0 R' : MR} {f g : Nat → Nat}
theorem Ext0 (h : cok S G) : Ext (0, []) G S G := ⟨h, Nat.zero_le _, fun a ha => absurd ha (Nat.not_lt_zero a), fun _ h => h, fun _ _ _ => rfl⟩
theorem S_newD {n : Int32} : AC X (d + 2) 0 [.ref S.2.length, .int n] (znew S 1) P = P (.inl none) (zap S [.inr (1, [.int n, .ref (S.2.length + 1), .int 0, .int 0]), .inr (3, [.ref (S.2.length + 2), .int 0]), .inl (24, .inl fun _ => 0)] 33) := by
  have hO := fun {d} {P} {y} => S_newO (X := X) (d := d) (P := P) (S := S) (L := [.inr (1, [.int 0, .null, .int 0, .int 0])]) (j := 1) (y := y) rfl
  simp only [zf_3, List.cons_append, List.nil_append, Nat.reduceAdd] at hO
  rw [A_X0_init, zap_new0, zf_1]
  simp only [E_X0_init_0, E_X0_init_0n, E_X0_init_1, E_X0_init_4, E_X0_init_4n, E_X0_init_5, E_X0_init_8, E_X0_init_8n, E_X0_init_8i, E_X0_init_8f, E_X0_init_9, E_X0_init_12, E_X0_init_12n, E_X0_init_15, E_X0_init_15n, E_X0_init_16, E_X0_init_17, E_X0_init_20, E_X0_init_20n, E_X0_init_21, E_X0_init_22, E_X0_init_25, zwith_some, zwith_none, zif_true, zaft_inl, Option.toList_some, Option.toList_none, List.cons_append, List.nil_append, zc1_int, zc1_ref, zc1_null, zc1_float, List.length_nil, List.length_cons, Nat.reduceAdd, Nat.reduceLeDiff, Nat.zero_add, z1and, z0and, zl00, zl01, zl02, zl03, ze00, ze10, ze20, ze30, if_true, if_false, zap_new, zf_3, zap_len, List.cons_append, List.nil_append, hO, zap_get0 (L := _ :: _) (Nat.zero_lt_succ _), zap_put0 (L := _ :: _) (Nat.zero_lt_succ _), List.getElem?_cons_zero, List.getElem?_cons_succ, zgL, zpL, List.set_cons_zero, List.set_cons_succ]
/-- the values of a new drawing -/
def vDn (V : CV) (n : Nat) : CV := vI (vI (vI (vS V (2 * n) fun _ => 0) 7 (2 * n) 0) 2 n 0) 3 n 0
theorem vDn_i {c : Nat} (h1 : ¬ (c = 7 ∧ k = 2 * n)) (h2 : ¬ ((c = 2 ∨ c = 3) ∧ k = n)) : (vDn V n).i c k = V.i c k := by
  unfold vDn
  rw [vI_oo (fun z => h2 ⟨.inr z.1, z.2⟩), vI_oo (fun z => h2 ⟨.inl z.1, z.2⟩), vI_oo h1]
  rfl
theorem new_dr (h : cok st G) (I : CI G V) (hn : n = nD V) : ∃ G', Ext st G (zap (cw st G V) [.inr (1, [.int (nI n), .ref (st.2.length + 1), .int 0, .int 0]), .inr (3, [.ref (st.2.length + 2), .int 0]), .inl (24, .inl fun _ => 0)] 33) G' ∧ zap (cw st G V) [.inr (1, [.int (nI n), .ref (st.2.length + 1), .int 0, .int 0]), .inr (3, [.ref (st.2.length + 2), .int 0]), .inl (24, .inl fun _ => 0)] 33 = cw (zap (cw st G V) [.inr (1, [.int (nI n), .ref (st.2.length + 1), .int 0, .int 0]), .inr (3, [.ref (st.2.length + 2), .int 0]), .inl (24, .inl fun _ => 0)] 33) G' (vDn V n) ∧ G'.A (.dr n) = st.2.length ∧ ∀ k, G'.live k ↔ ((G.live k ∨ k = .sk (2 * n)) ∨ k = .ou (2 * n)) ∨ k = .dr n := by
  have h3 : 3 ≤ st.2.length := by have := h.ka _ _ I.kx; omega
  have hkd : ¬ G.live (.dr n) := fun z => by
    have : n < nD V := (I.gi _).mp z
    omega
  have hko : ¬ G.live (.ou (2 * n)) := fun z => by
    have : 2 * n / 2 < (if 2 * n % 2 = 0 then nD V else nJ V) := (I.gi _).mp z
    rw [if_pos (by omega)] at this
    omega
  have hks : ¬ G.live (.sk (2 * n)) := fun z => by
    have : 2 * n / 2 < (if 2 * n % 2 = 0 then nD V else nJ V) := (I.gi _).mp z
    rw [if_pos (by omega)] at this
    omega
  generalize hT : zap (cw st G V) [.inr (1, [.int (nI n), .ref (st.2.length + 1), .int 0, .int 0]), .inr (3, [.ref (st.2.length + 2), .int 0]), .inl (24, .inl fun _ => 0)] 33 = T
  have hlen : T.2.length = st.2.length + 3 := by rw [← hT, zap_len, cw_len]; rfl
  have a0 : T.2[st.2.length]? = some (.inr (1, [.int (nI n), .ref (st.2.length + 1), .int 0, .int 0])) := by
    have := zap_at (st := cw st G V) (L := [.inr (1, [.int (nI n), .ref (st.2.length + 1), .int 0, .int 0]), .inr (3, [.ref (st.2.length + 2), .int 0]), .inl (24, .inl fun _ => 0)]) (x := 33) (j := 0) (show 0 < 3 by decide)
    rw [cw_len, Nat.add_zero, hT] at this
    exact this
  have a1 : T.2[st.2.length + 1]? = some (.inr (3, [.ref (st.2.length + 2), .int 0])) := by
    have := zap_at (st := cw st G V) (L := [.inr (1, [.int (nI n), .ref (st.2.length + 1), .int 0, .int 0]), .inr (3, [.ref (st.2.length + 2), .int 0]), .inl (24, .inl fun _ => 0)]) (x := 33) (j := 1) (show 1 < 3 by decide)
    rw [cw_len, hT] at this
    exact this
  have a2 : T.2[st.2.length + 2]? = some (.inl (24, .inl fun _ => 0)) := by
    have := zap_at (st := cw st G V) (L := [.inr (1, [.int (nI n), .ref (st.2.length + 1), .int 0, .int 0]), .inr (3, [.ref (st.2.length + 2), .int 0]), .inl (24, .inl fun _ => 0)]) (x := 33) (j := 2) (show 2 < 3 by decide)
    rw [cw_len, hT] at this
    exact this
  have hraw : cw T G V = T := by rw [← hT]; exact zap_raw h
  have E0 : Ext st G T G := by rw [← hT]; exact zap_Ext h
  have K0 : ∀ b, st.2.length ≤ b → G.K b = none := fun b hb => Kfree h hb
  have c1 : cw T G V = cw T (gset G (.sk (2 * n)) (st.2.length + 2)) (vS V (2 * n) fun _ => 0) := adr (Ext0 E0.ok) (by omega) (Nat.zero_le _) (by omega) hks (fun k' hl hc => hks (I.cl k' _ hl hc)) (fun A k' hne => cell_vS hne) (by rw [a2, cell_sk, vS_s, if_pos rfl]) (K0 _ (by omega))
  have E1 := adr_Ext (k := .sk (2 * n)) E0 (show 3 ≤ st.2.length + 2 by omega) (by omega) (by omega) hks (K0 _ (by omega))
  have L1 := fun k' => gset_live (k' := k') hks (K0 (st.2.length + 2) (by omega))
  have K1 : ∀ b, st.2.length ≤ b → b ≠ st.2.length + 2 → (gset G (.sk (2 * n)) (st.2.length + 2)).K b = none := fun b hb hne => by
    rw [gset_K' hne, K0 b hb, if_neg (fun z => by cases z)]
  have hko1 : ¬ (gset G (.sk (2 * n)) (st.2.length + 2)).live (.ou (2 * n)) := fun z => ((L1 _).mp z).elim hko fun w => absurd (congrArg Prod.fst w) (show (5 : Nat) ≠ 6 by decide)
  have c2 : cw T (gset G (.sk (2 * n)) (st.2.length + 2)) (vS V (2 * n) fun _ => 0) = cw T (gset (gset G (.sk (2 * n)) (st.2.length + 2)) (.ou (2 * n)) (st.2.length + 1)) (vI (vS V (2 * n) fun _ => 0) 7 (2 * n) 0) := by
    refine adr (Ext0 E1.ok) (by omega) (Nat.zero_le _) (by omega) hko1 (fun k' hl hc => ?_) (fun A k' hne => cell_vI hne) ?_ (K1 _ (by omega) (by omega))
    · rcases (L1 k').mp hl with w | w
      · exact hko (I.cl k' _ w hc)
      · subst w
        exact hc
    · rw [a1, cell_ou, vI_ss, gset_A' (fun z => absurd (congrArg Prod.fst z) (show (6 : Nat) ≠ 5 by decide)), gset_A]
  have E2 := adr_Ext (k := .ou (2 * n)) E1 (show 3 ≤ st.2.length + 1 by omega) (by omega) (by omega) hko1 (K1 _ (by omega) (by omega))
  have L2 := fun k' => gset_live (k' := k') hko1 (K1 (st.2.length + 1) (by omega) (by omega))
  have K2 : ∀ b, st.2.length ≤ b → b ≠ st.2.length + 2 → b ≠ st.2.length + 1 → (gset (gset G (.sk (2 * n)) (st.2.length + 2)) (.ou (2 * n)) (st.2.length + 1)).K b = none := fun b hb hne hne2 => by
    rw [gset_K' hne2, K1 b hb hne, if_neg (fun z => by cases z)]
  have hkd2 : ¬ (gset (gset G (.sk (2 * n)) (st.2.length + 2)) (.ou (2 * n)) (st.2.length + 1)).live (.dr n) := fun z => ((L2 _).mp z).elim (fun z => ((L1 _).mp z).elim hkd fun w => absurd (congrArg Prod.fst w) (show (4 : Nat) ≠ 6 by decide)) fun w => absurd (congrArg Prod.fst w) (show (4 : Nat) ≠ 5 by decide)
  have c3 : cw T (gset (gset G (.sk (2 * n)) (st.2.length + 2)) (.ou (2 * n)) (st.2.length + 1)) (vI (vS V (2 * n) fun _ => 0) 7 (2 * n) 0) = cw T (gset (gset (gset G (.sk (2 * n)) (st.2.length + 2)) (.ou (2 * n)) (st.2.length + 1)) (.dr n) st.2.length) (vDn V n) := by
    refine adr (Ext0 E2.ok) (by omega) (Nat.zero_le _) (by omega) hkd2 (fun k' hl hc => ?_) (fun A k' hne => (cell_vI hne).trans (cell_vI hne)) ?_ (K2 _ (by omega) (by omega) (by omega))
    · rcases (L2 k').mp hl with w | w
      · rcases (L1 k').mp w with w | w
        · refine hkd (I.cl k' _ w ?_)
          obtain ⟨a, b⟩ := k'
          exact hc
        · subst w
          exact hc
      · subst w
        exact absurd (congrArg Prod.fst (show CK.dr n = CK.sk (2 * n) from hc)) (show (4 : Nat) ≠ 6 by decide)
    · unfold vDn
      rw [a0, cell_dr, vI_ss, vI_oo (by omega), vI_ss, gset_A' (fun z => absurd (congrArg Prod.fst z) (show (5 : Nat) ≠ 4 by decide)), gset_A]
  refine ⟨gset (gset (gset G (.sk (2 * n)) (st.2.length + 2)) (.ou (2 * n)) (st.2.length + 1)) (.dr n) st.2.length, adr_Ext E2 h3 (Nat.le_refl _) (by omega) hkd2 (K2 _ (by omega) (by omega) (by omega)), ?_, gset_A, fun k => ?_⟩
  · rw [← c3, ← c2, ← c1, hraw]
  · rw [gset_live hkd2 (K2 _ (by omega) (by omega) (by omega)), L2, L1]
theorem kn_dr {c c' : Nat → Nat} {nd nj np : Nat} (h1 : ∀ n, n ≠ 0 → c' n = c n) (h3 : c' 0 ≠ 0) (k : CK) : (((((kn c nd nj np k ∨ k = .sk (2 * nd)) ∨ k = .ou (2 * nd)) ∨ k = .dr nd)) ∨ k = .ar 0) ↔ kn c' (nd + 1) nj np k := by
  obtain ⟨b, e⟩ := k
  unfold kn CK.ar CK.sk CK.ou CK.dr
  simp only [Prod.mk.injEq]
  rcases b with _ | _ | _ | _ | _ | _ | _ | _ | _ | b
  · rcases e with _ | e
    · simp
    · simp
  · rcases e with _ | e
    · simp
    · simp
  · simp
  · show (((((e < nj + 4 ∧ c e ≠ 0) ∨ (3 = 6 ∧ e = 2 * nd)) ∨ (3 = 5 ∧ e = 2 * nd)) ∨ (3 = 4 ∧ e = nd)) ∨ (3 = 3 ∧ e = 0)) ↔ (e < nj + 4 ∧ c' e ≠ 0)
    by_cases z : e = 0
    · rw [z]
      exact ⟨fun _ => ⟨by omega, h3⟩, fun _ => .inr ⟨rfl, rfl⟩⟩
    · rw [h1 e z]
      refine ⟨fun w => ?_, fun w => .inl (.inl (.inl (.inl w)))⟩
      rcases w with (((w | w) | w) | w) | w
      · exact w
      · exact absurd w.1 (by decide)
      · exact absurd w.1 (by decide)
      · exact absurd w.1 (by decide)
      · exact absurd w.2 z
  · show ((((e < nd ∨ (4 = 6 ∧ e = 2 * nd)) ∨ (4 = 5 ∧ e = 2 * nd)) ∨ (4 = 4 ∧ e = nd)) ∨ (4 = 3 ∧ e = 0)) ↔ e < nd + 1
    omega
  · show ((((e / 2 < (if e % 2 = 0 then nd else nj) ∨ (5 = 6 ∧ e = 2 * nd)) ∨ (5 = 5 ∧ e = 2 * nd)) ∨ (5 = 4 ∧ e = nd)) ∨ (5 = 3 ∧ e = 0)) ↔ e / 2 < (if e % 2 = 0 then nd + 1 else nj)
    split <;> omega
  · show ((((e / 2 < (if e % 2 = 0 then nd else nj) ∨ (6 = 6 ∧ e = 2 * nd)) ∨ (6 = 5 ∧ e = 2 * nd)) ∨ (6 = 4 ∧ e = nd)) ∨ (6 = 3 ∧ e = 0)) ↔ e / 2 < (if e % 2 = 0 then nd + 1 else nj)
    split <;> omega
  · simp
  · simp
  · simp
def draR (R : MR) : MR := mF (mF R 25 0) 5 (R.2.1 5 + 1)
theorem IR_dr (I : IR R) (h : tN (R.2.1 5) < 12) : IR (draR R) := by
  have e5 : (draR R).2.1 5 = nI (tN (R.2.1 5) + 1) := by
    show R.2.1 5 + 1 = _
    rw [← nI_1, ← I.d5.1]
  have e5' : tN ((draR R).2.1 5) = tN (R.2.1 5) + 1 := by rw [e5]; exact tN_nI (by omega)
  refine ⟨?_, I.p14, I.s15, I.j21, I.dn, ?_, I.df, I.pt, I.fr, ?_, I.jn, I.jk, I.jz, I.jp⟩
  · rw [e5']; exact ⟨e5, by omega⟩
  · rw [e5']
    intro i hi hi2
    exact I.dz i hi (by omega)
  · rw [e5']
    intro j hj
    exact ⟨(I.jd j hj).1, Nat.lt_succ_of_lt (I.jd j hj).2⟩
theorem C_drawing (h : cok st G) (I : CI G V) (L : REL V R) (K0 : R.2.1 5 = 12 → P (.inr sS) (cw (st.1 + 7, st.2) G V)) (K : R.2.1 5 ≠ 12 → ∀ st' G' V', Sta st G V st' G' V' → CI G' V' → REL V' (draR R) → nC V' = nC V → P (.inl (some (.int (R.2.1 5)))) (cw st' G' V')) : AC X (d + 8) 48 [.ref (G.A .kx)] (cw st G V) P := by
  have h12 := I.ld.2.1
  have hal := I.al (n := 0) (by omega)
  have z5 : (5 ≤ d + 7) = True := eq_true (by omega)
  have e5 := L.n5
  rw [A_X5_drawing]
  by_cases c : nD V = 12
  · have hc : R.2.1 5 = 12 := by rw [e5, c]; rfl
    have hlt : ¬ nI (nD V) < 12 := by rw [c]; decide
    simp only [E_X5_drawing_0, E_X5_drawing_0n, E_X5_drawing_1, E_X5_drawing_4, E_X5_drawing_7, E_X5_drawing_9, E_X5_drawing_12, E_X5_drawing_22, E_X5_drawing_22n, E_X5_drawing_23, E_X5_drawing_26, E_X5_drawing_29, E_X5_drawing_30, E_X5_drawing_30n, E_X5_drawing_31, E_X5_drawing_34, E_X5_drawing_37, E_X5_drawing_37n, E_X5_drawing_37i, E_X5_drawing_37f, E_X5_drawing_38, E_X5_drawing_39, E_X5_drawing_42, E_X5_drawing_45, E_X5_drawing_45n, E_X5_drawing_45i, E_X5_drawing_45f, E_X5_drawing_46, E_X5_drawing_47, zwith_some, zwith_none, zif_true, zaft_inl, Option.toList_some, Option.toList_none, List.cons_append, List.nil_append, zc1_int, zc1_ref, zc1_null, zc1_float, List.length_nil, List.length_cons, Nat.reduceAdd, Nat.reduceLeDiff, Nat.zero_add, z1and, z0and, zl00, zl01, zl02, zl03, ze00, ze10, ze20, ze30, if_true, if_false, cg_kx h I.kx, cis_al h hal, C_size h hal, I.ld.1.sz, hlt, z5, if_false]
    exact K0 hc
  · have hc : R.2.1 5 ≠ 12 := by
      rw [e5]
      exact fun z => c ((nI_eq (b := 12) (by omega) (by decide)).mp z)
    have hlt : nI (nD V) < 12 := nI_lt (b := 12) (by omega) (by decide)
    obtain ⟨n, hn⟩ : ∃ n, n = nD V := ⟨_, rfl⟩
    obtain ⟨G', E, e1, eA, hl⟩ := new_dr h I hn
    obtain ⟨T, hT⟩ : ∃ T, T = zap (cw st G V) [.inr (1, [.int (nI n), .ref (st.2.length + 1), .int 0, .int 0]), .inr (3, [.ref (st.2.length + 2), .int 0]), .inl (24, .inl fun _ => 0)] 33 := ⟨_, rfl⟩
    rw [← hT] at E e1
    have hT1 : T.1 = st.1 + 33 := by rw [hT]; rfl
    have hnp := fun {d} {P} => S_newD (X := X) (d := d) (P := P) (S := cw st G V) (n := nI n)
    rw [cw_len] at hnp
    rw [← hn] at hlt
    have hsz := I.ld.1.sz
    rw [← hn] at hsz
    simp only [E_X5_drawing_0, E_X5_drawing_0n, E_X5_drawing_1, E_X5_drawing_4, E_X5_drawing_7, E_X5_drawing_9, E_X5_drawing_12, E_X5_drawing_22, E_X5_drawing_22n, E_X5_drawing_23, E_X5_drawing_26, E_X5_drawing_29, E_X5_drawing_30, E_X5_drawing_30n, E_X5_drawing_31, E_X5_drawing_34, E_X5_drawing_37, E_X5_drawing_37n, E_X5_drawing_37i, E_X5_drawing_37f, E_X5_drawing_38, E_X5_drawing_39, E_X5_drawing_42, E_X5_drawing_45, E_X5_drawing_45n, E_X5_drawing_45i, E_X5_drawing_45f, E_X5_drawing_46, E_X5_drawing_47, zwith_some, zwith_none, zif_true, zaft_inl, Option.toList_some, Option.toList_none, List.cons_append, List.nil_append, zc1_int, zc1_ref, zc1_null, zc1_float, List.length_nil, List.length_cons, Nat.reduceAdd, Nat.reduceLeDiff, Nat.zero_add, z1and, z0and, zl00, zl01, zl02, zl03, ze00, ze10, ze20, ze30, if_true, if_false, cg_kx h I.kx, cis_al h hal, C_size h hal, hsz, hlt, cw_len, hnp, if_true]
    rw [← hT, e1, ← eA, ← E.A (.al 0) (by decide) hal, ← E.A .kx (by decide) I.kx]
    have hl3 : lok (vDn V n) 0 n (n + 1) := by
      have := I.ld.1
      rw [← hn] at this
      exact lok_o this (Nat.le_succ n) (vDn_i (by omega) (by omega)) rfl rfl
    have hadd := fun K => C_add (X := X) (d := d + 1) (P := zaft X (d + 7) 48 42 [.ref (G'.A .kx), .int (nI n)] [] P) (V := vDn V n) (n := 0) (m := n) (q := n) (b := n + 1) E.ok ((hl _).mpr (.inl (.inl (.inl hal)))) (fun z => (hl _).mpr (.inl (.inl (.inl (I.ar (by omega) z))))) hl3 (fun k hk => (hl _).mpr (by
      by_cases z : k = n
      · subst z; exact .inr rfl
      · exact .inl (.inl (.inl (I.dr (show k < nD V by omega)))))) (Nat.lt_succ_self n) (by omega) K
    rw [show ek 0 n = CK.dr n from rfl] at hadd
    simp only [E_X5_drawing_0, E_X5_drawing_0n, E_X5_drawing_1, E_X5_drawing_4, E_X5_drawing_7, E_X5_drawing_9, E_X5_drawing_12, E_X5_drawing_22, E_X5_drawing_22n, E_X5_drawing_23, E_X5_drawing_26, E_X5_drawing_29, E_X5_drawing_30, E_X5_drawing_30n, E_X5_drawing_31, E_X5_drawing_34, E_X5_drawing_37, E_X5_drawing_37n, E_X5_drawing_37i, E_X5_drawing_37f, E_X5_drawing_38, E_X5_drawing_39, E_X5_drawing_42, E_X5_drawing_45, E_X5_drawing_45n, E_X5_drawing_45i, E_X5_drawing_45f, E_X5_drawing_46, E_X5_drawing_47, zwith_some, zwith_none, zif_true, zaft_inl, Option.toList_some, Option.toList_none, List.cons_append, List.nil_append, zc1_int, zc1_ref, zc1_null, zc1_float, List.length_nil, List.length_cons, Nat.reduceAdd, Nat.reduceLeDiff, Nat.zero_add, z1and, z0and, zl00, zl01, zl02, zl03, ze00, ze10, ze20, ze30, if_true, if_false, cis_al E.ok ((hl _).mpr (.inl (.inl (.inl hal))))]
    refine hadd ?_
    intro st2 G2 E2 hl2 hu
    simp only [E_X5_drawing_0, E_X5_drawing_0n, E_X5_drawing_1, E_X5_drawing_4, E_X5_drawing_7, E_X5_drawing_9, E_X5_drawing_12, E_X5_drawing_22, E_X5_drawing_22n, E_X5_drawing_23, E_X5_drawing_26, E_X5_drawing_29, E_X5_drawing_30, E_X5_drawing_30n, E_X5_drawing_31, E_X5_drawing_34, E_X5_drawing_37, E_X5_drawing_37n, E_X5_drawing_37i, E_X5_drawing_37f, E_X5_drawing_38, E_X5_drawing_39, E_X5_drawing_42, E_X5_drawing_45, E_X5_drawing_45n, E_X5_drawing_45i, E_X5_drawing_45f, E_X5_drawing_46, E_X5_drawing_47, zwith_some, zwith_none, zif_true, zaft_inl, Option.toList_some, Option.toList_none, List.cons_append, List.nil_append, zc1_int, zc1_ref, zc1_null, zc1_float, List.length_nil, List.length_cons, Nat.reduceAdd, Nat.reduceLeDiff, Nat.zero_add, z1and, z0and, zl00, zl01, zl02, zl03, ze00, ze10, ze20, ze30, if_true, if_false]
    have hlk : lok (vL (vDn V n) 0 n n (nwc (V.c 0) n)) 0 (n + 1) (n + 1) := lok_add hl3 (Nat.lt_succ_self n) (show n < 600 by omega)
    have hpt := pot_vL (V := vDn V n) (n := 0) (m := n) (q := n) (c := nwc (V.c 0) n) (by decide) ((vDn_i (by omega) (by omega)).trans hsz) (by omega)
    rw [if_neg (by decide), if_pos rfl] at hpt
    have hp0 : pot (vDn V n) = pot V := by
      show 4 * sm (vDn V n).c 34 + (12 * tN ((vDn V n).i 1 3) + (33 * tN ((vDn V n).i 1 0) + 39 * tN ((vDn V n).i 1 1))) = 4 * sm V.c 34 + (12 * tN (V.i 1 3) + (33 * tN (V.i 1 0) + 39 * tN (V.i 1 1)))
      rw [vDn_i (by omega) (by omega), vDn_i (by omega) (by omega), vDn_i (by omega) (by omega)]
      rfl
    rw [hp0] at hpt
    have hi : ∀ c k, ¬ (c = 7 ∧ k = 2 * n) → ¬ ((c = 2 ∨ c = 3) ∧ k = n) → ¬ (c < 2 ∧ k = 0) → (vL (vDn V n) 0 n n (nwc (V.c 0) n)).i c k = V.i c k := fun c k a b e => by
      rw [vL_i' (by omega), vDn_i a b]
    have q0 : nD (vL (vDn V n) 0 n n (nwc (V.c 0) n)) = n + 1 := by
      unfold nD
      rw [hlk.sz]
      exact tN_nI (by omega)
    have q1 : nJ (vL (vDn V n) 0 n n (nwc (V.c 0) n)) = nJ V := congrArg tN (hi 1 1 (by omega) (by omega) (by omega))
    have q2 : nC (vL (vDn V n) 0 n n (nwc (V.c 0) n)) = nC V := congrArg tN (hi 1 2 (by omega) (by omega) (by omega))
    have q3 : nQ (vL (vDn V n) 0 n n (nwc (V.c 0) n)) = nQ V := congrArg tN (hi 1 3 (by omega) (by omega) (by omega))
    have q4 : ∀ j, nA (vL (vDn V n) 0 n n (nwc (V.c 0) n)) j = nA V j := fun j => congrArg tN (hi 1 (j + 4) (by omega) (by omega) (by omega))
    have hol : ∀ {k m b b' : Nat}, k ≠ 0 → b ≤ b' → lok V k m b → lok (vL (vDn V n) 0 n n (nwc (V.c 0) n)) k m b' := fun {k m b b'} hk hb hl => lok_o hl hb (hi 1 k (by omega) (by omega) (by omega)) (by rw [vL_c, if_neg hk]; rfl) (by rw [vL_e, if_neg hk]; rfl)
    have he : ∀ k, k ≠ 0 → (vL (vDn V n) 0 n n (nwc (V.c 0) n)).e k = V.e k := fun k hk => by rw [vL_e, if_neg hk]; rfl
    have I2 : CI G2 (vL (vDn V n) 0 n n (nwc (V.c 0) n)) := by
      refine ⟨?_, ?_, ?_, ?_, ?_, ?_, ?_, ?_, ?_⟩
      · intro k
        rw [hl2, hl, I.gi, q0, q1, q3, ← hn]
        exact kn_dr (fun m hm => by rw [vL_c, if_neg hm]; rfl) (by have := hlk.le; exact fun z => by omega) k
      · rw [q0]
        refine ⟨hlk, by omega, fun i hi => ?_⟩
        rw [vL_e, if_pos rfl]
        by_cases z : i = n
        · rw [if_pos z, z]
        · rw [if_neg z]
          exact I.ld.2.2 i (by omega)
      · rw [q1, he 1 (by decide)]
        exact ⟨hol (by decide) (Nat.le_refl _) I.lj.1, I.lj.2⟩
      · rw [q1, q2]
        exact hol (by decide) (Nat.le_refl _) I.lc
      · rw [q3, he 3 (by decide)]
        exact ⟨hol (by decide) (Nat.le_refl _) I.lq.1, I.lq.2⟩
      · intro j hj
        rw [q1] at hj
        rw [q3, q4]
        exact ⟨hol (by omega) (Nat.le_refl _) (I.la j hj).1, (I.la j hj).2⟩
      · intro j hj
        rw [q1] at hj
        rw [q0]
        obtain ⟨i, e, hi⟩ := I.de j hj
        exact ⟨i, e, by omega⟩
      · rw [q3]; exact I.pr
      · rw [q3]; exact I.pw
    have hR5 : tN (R.2.1 5) < 12 := by rw [← L.nn.1]; omega
    have hR5' : tN ((draR R).2.1 5) = n + 1 := by
      show tN (R.2.1 5 + 1) = n + 1
      rw [e5, nI_1, ← hn]
      exact tN_nI (by omega)
    rw [← hn] at e5
    rw [e5] at K
    refine K (by rw [← e5]; exact hc) st2 G2 (vL (vDn V n) 0 n n (nwc (V.c 0) n)) ⟨E.trans E2, ?_⟩ I2 ⟨⟨?_, ?_⟩, ⟨?_, ?_, L.nu.2.2⟩, ?_, ?_, ?_, IR_dr L.ir hR5, L.jt, L.sh, ?_⟩ q2
    · have hu' : st2.1 + 4 * V.c 0 ≤ T.1 + 4 * nwc (V.c 0) n := hu
      have hpt' : pot (vL (vDn V n) 0 n n (nwc (V.c 0) n)) + 4 * V.c 0 = pot V + 4 * nwc (V.c 0) n + 33 := hpt
      show st2.1 + pot V ≤ st.1 + pot (vL (vDn V n) 0 n n (nwc (V.c 0) n))
      omega
    · rw [q0, hR5']
    · rw [q1]; exact L.nn.2
    · rw [hi 14 1 (by omega) (by omega) (by omega)]; exact L.nu.1
    · rw [hi 14 2 (by omega) (by omega) (by omega)]; exact L.nu.2.1
    · intro i hi2
      rw [q0] at hi2
      by_cases z : i = n
      · subst z
        obtain ⟨z0, z1, z2⟩ := L.ir.dz i (by omega) (by rw [← L.nn.1]; omega)
        have t0 : tN ((draR R).1 1 i) = 0 := by
          show tN (R.1 1 i) = 0
          rw [z1]; rfl
        refine ⟨?_, ?_, ?_⟩
        · rw [vL_i' (by omega)]
          show (vDn V i).i 2 i = R.1 0 i
          rw [z0]
          unfold vDn
          rw [vI_oo (by omega), vI_ss]
        · rw [vL_i' (by omega)]
          show (vDn V i).i 3 i = R.1 2 i
          rw [z2]
          unfold vDn
          rw [vI_ss]
        · rw [t0]
          refine ⟨?_, Nat.zero_le _, fun k hk => absurd hk (Nat.not_lt_zero k)⟩
          rw [vL_i' (by omega)]
          unfold vDn
          rw [vI_oo (by omega), vI_oo (by omega), vI_ss]
          rfl
      · refine DR_o (R := R) (R' := draR R) (L.dr i (by omega)) (hi 2 i (by omega) (by omega) (by omega)) (hi 3 i (by omega) (by omega) (by omega)) (hi 7 (2 * i) (by omega) (by omega) (by omega)) ?_ (fun k _ => rfl)
        show (if 2 * i = 2 * n then _ else V.s (2 * i)) = _
        rw [if_neg (by omega)]
    · intro j hj
      rw [q1] at hj
      obtain ⟨a1, a2, a3, a4, a5⟩ := L.jr j hj
      refine ⟨?_, ?_, a3, ?_, ?_⟩
      · rw [hi 4 j (by omega) (by omega) (by omega)]; exact a1
      · rw [hi 5 j (by omega) (by omega) (by omega)]; exact a2
      · rw [hi 6 j (by omega) (by omega) (by omega), hi 1 (j + 4) (by omega) (by omega) (by omega), he (j + 4) (by omega)]
        exact a4
      · rw [hi 6 j (by omega) (by omega) (by omega), hi 1 (j + 4) (by omega) (by omega) (by omega)]
        exact a5
    · exact ⟨PI_R (R' := draR R) (PI_o L.pt.1 (fun c q a b => hi c q (by omega) (by omega) (by omega)) (hi 14 0 (by omega) (by omega) (by omega)) (hi 1 3 (by omega) (by omega) (by omega)) rfl) (fun _ _ _ => rfl), L.pt.2⟩
    · refine CT_o L.ct (fun m hm => ?_) (he 2 (by decide)) rfl (hi 1 2 (by omega) (by omega) (by omega)) (fun i j e => ⟨hi 4 j (by omega) (by omega) (by omega), hi 7 (2 * j + 1) (by omega) (by omega) (by omega), ?_⟩) (fun i j e => hi 5 j (by omega) (by omega) (by omega))
      · rw [q1] at hm
        rw [vL_c, if_neg (by omega)]
        exact L.ct.1 m hm
      · show (if 2 * j + 1 = 2 * n then _ else V.s (2 * j + 1)) = _
        rw [if_neg (by omega)]
end DW
