/-! a new job -/
section NJ
variable {X : ZX} {d : Nat} {st st0 S : ZS} {G G0 : CG} {V V' V0 : CV} {P : ZO → ZS → Prop} {x y z : Int32} {n m p q r j k a i dd : Nat} {R R0 R' : MR} {f g : Nat → Nat} {cp : Int32}
theorem S_newJ {dr : Nat} {c : Int32} : AC X (d + 4) 2 [.ref S.2.length, .ref dr, .int c] (znew S 2) P = P (.inl none) (zap S [.inr (2, [.ref dr, .int c, .int 0, .int (-1), .ref (S.2.length + 1), .ref (S.2.length + 2)]), .inr (0, [.int 0, .ref 0, .int 0]), .inr (3, [.ref (S.2.length + 3), .int 0]), .inl (24, .inl fun _ => 0)] 39) := by
  have hL : ∀ {d : Nat} {P : ZO → ZS → Prop} {c : ZC} {y : Nat}, AC X (d + 3) 112 [.ref (S.2.length + 1)] (zap S [c, .inr (0, znewf 0)] y) P = P (.inl none) (zap S [c, .inr (0, [.int 0, .ref 0, .int 0])] y) := fun {d} {P} {c} {y} => S_newL (L := [c]) (j := 1) rfl
  have hO : ∀ {d : Nat} {P : ZO → ZS → Prop} {c c2 : ZC} {y : Nat}, AC X (d + 1) 9 [.ref (S.2.length + 2)] (zap S [c, c2, .inr (3, znewf 3)] y) P = P (.inl none) (zap S [c, c2, .inr (3, [.ref (S.2.length + 3), .int 0]), .inl (24, .inl fun _ => 0)] (y + 25)) := fun {d} {P} {c} {c2} {y} => S_newO (L := [c, c2]) (j := 2) rfl
  simp only [zf_0] at hL
  simp only [zf_3] at hO
  rw [A_X1_init rfl, zap_new0, zf_2]
  simp only [E_X1_init_0, E_X1_init_0n, E_X1_init_1, E_X1_init_4, E_X1_init_4n, E_X1_init_5, E_X1_init_6, E_X1_init_9, E_X1_init_9n, E_X1_init_10, E_X1_init_11, E_X1_init_14, E_X1_init_14n, E_X1_init_15, E_X1_init_18, E_X1_init_18n, E_X1_init_18i, E_X1_init_18f, E_X1_init_19, E_X1_init_22, E_X1_init_22n, E_X1_init_25, E_X1_init_25n, E_X1_init_26, E_X1_init_29, E_X1_init_29n, E_X1_init_29i, E_X1_init_29f, E_X1_init_30, E_X1_init_33, E_X1_init_33n, E_X1_init_36, E_X1_init_36n, E_X1_init_37, E_X1_init_37n, E_X1_init_38, E_X1_init_38n, E_X1_init_41, E_X1_init_41n, E_X1_init_42, E_X1_init_43, E_X1_init_46, zwith_some, zwith_none, zif_true, zaft_inl, Option.toList_some, Option.toList_none, List.cons_append, List.nil_append, zc1_int, zc1_ref, zc1_null, zc1_float, List.length_nil, List.length_cons, Nat.reduceAdd, Nat.reduceLeDiff, Nat.zero_add, z1and, z0and, zl00, zl01, zl02, zl03, ze00, ze10, ze20, ze30, if_true, if_false, zap_new, zf_3, zf_0, zap_len, List.cons_append, List.nil_append, hL, hO, zap_get0 (L := _ :: _) (Nat.zero_lt_succ _), zap_put0 (L := _ :: _) (Nat.zero_lt_succ _), List.getElem?_cons_zero, List.getElem?_cons_succ, zgL, zpL, List.set_cons_zero, List.set_cons_succ]
/-- the values of a new job -/
def vJ0 (V : CV) (j : Nat) : CV := vI (vI (vI (vS V (2 * j + 1) fun _ => 0) 7 (2 * j + 1) 0) 0 (j + 4) 0) 1 (j + 4) 0
def vJn (V : CV) (j dd : Nat) (cp : Int32) : CV := vR (vI (vI (vI (vE (vJ0 V j) (j + 4) fun _ => none) 4 j cp) 5 j 0) 6 j (-1)) 0 j (some dd)
theorem vJn_i {c : Nat} (h1 : ¬ (c = 7 ∧ k = 2 * j + 1)) (h2 : ¬ (c < 2 ∧ k = j + 4)) (h3 : ¬ ((c = 4 ∨ c = 5 ∨ c = 6) ∧ k = j)) : (vJn V j dd cp).i c k = V.i c k := by
  unfold vJn vJ0
  rw [vR_i, vI_oo (by omega), vI_oo (by omega), vI_oo (by omega), vE_i, vI_oo (by omega), vI_oo (by omega), vI_oo (by omega)]
  rfl
theorem cw_vE {T : ZS} {f : Nat → Option Nat} (h : cok T G) (hn : ¬ G.live (.ar n)) : cw T G (vE V n f) = cw T G V := by
  refine Prod.ext rfl (List.ext_getElem? fun b => ?_)
  unfold cw
  dsimp only
  rw [List.getElem?_mapIdx, List.getElem?_mapIdx]
  cases hK : G.K b with
  | none => rfl
  | some k' =>
    dsimp only
    have hb := h.ka b k' hK
    have hl : G.live k' := by
      show G.K (G.A k') = some k'
      rw [hb.1]; exact hK
    rw [cell_vE fun z => hn (by rw [← z]; exact hl)]
theorem cref_vE {k k2 : CK} {f : Nat → Option Nat} (hk : k ≠ .ar n) (h : cref (vE V n f) k k2) : cref V k k2 := by
  have h3 : ∀ b, CK.ar n ≠ (3, b) → cref (vE V n f) (3, b) k2 → cref V (3, b) k2 := fun b hk h => by
    obtain ⟨u, v, e1, e2⟩ := h
    rw [vE_e, if_neg (fun z => hk (by rw [z]; rfl))] at e1
    exact ⟨u, v, e1, e2⟩
  obtain ⟨a, b⟩ := k
  rcases a with _ | _ | _ | _ | _ | _ | _ | _ | _ | a
  · rcases b with _ | b <;> exact h
  · rcases b with _ | b <;> exact h
  · exact h
  · exact h3 b (fun z => hk z.symm) h
  · exact h
  · exact h
  · exact h
  · exact h
  · exact h
  · exact h
theorem new_jb (h : cok st G) (I : CI G V) (hn : j = nJ V) (hc0 : V.c (j + 4) = 0) (hdd : dd < nD V) : ∃ T G', T = zap (cw st G V) [.inr (2, [.ref (G.A (.dr dd)), .int cp, .int 0, .int (-1), .ref (st.2.length + 1), .ref (st.2.length + 2)]), .inr (0, [.int 0, .ref 0, .int 0]), .inr (3, [.ref (st.2.length + 3), .int 0]), .inl (24, .inl fun _ => 0)] 39 ∧ Ext st G T G' ∧ T = cw T G' (vJn V j dd cp) ∧ G'.A (.jb j) = st.2.length ∧ ∀ k, G'.live k ↔ (((G.live k ∨ k = .sk (2 * j + 1)) ∨ k = .ou (2 * j + 1)) ∨ k = .al (j + 4)) ∨ k = .jb j := by
  have h3 : 3 ≤ st.2.length := by have := h.ka _ _ I.kx; omega
  have hkj : ¬ G.live (.jb j) := fun z => by
    have : j < nJ V := (I.gi _).mp z
    omega
  have hko : ¬ G.live (.ou (2 * j + 1)) := fun z => by
    have : (2 * j + 1) / 2 < (if (2 * j + 1) % 2 = 0 then nD V else nJ V) := (I.gi _).mp z
    rw [if_neg (by omega)] at this
    omega
  have hks : ¬ G.live (.sk (2 * j + 1)) := fun z => by
    have : (2 * j + 1) / 2 < (if (2 * j + 1) % 2 = 0 then nD V else nJ V) := (I.gi _).mp z
    rw [if_neg (by omega)] at this
    omega
  have hka : ¬ G.live (.al (j + 4)) := fun z => by
    have : j + 4 < nJ V + 4 := (I.gi _).mp z
    omega
  have hkr : ¬ G.live (.ar (j + 4)) := fun z => by
    have : j + 4 < nJ V + 4 ∧ V.c (j + 4) ≠ 0 := (I.gi _).mp z
    omega
  obtain ⟨T, hT⟩ : ∃ T, T = zap (cw st G V) [.inr (2, [.ref (G.A (.dr dd)), .int cp, .int 0, .int (-1), .ref (st.2.length + 1), .ref (st.2.length + 2)]), .inr (0, [.int 0, .ref 0, .int 0]), .inr (3, [.ref (st.2.length + 3), .int 0]), .inl (24, .inl fun _ => 0)] 39 := ⟨_, rfl⟩
  have hlen : T.2.length = st.2.length + 4 := by rw [hT, zap_len, cw_len]; rfl
  have hat : ∀ b, b < 4 → T.2[st.2.length + b]? = ([.inr (2, [.ref (G.A (.dr dd)), .int cp, .int 0, .int (-1), .ref (st.2.length + 1), .ref (st.2.length + 2)]), .inr (0, [.int 0, .ref 0, .int 0]), .inr (3, [.ref (st.2.length + 3), .int 0]), .inl (24, .inl fun _ => 0)] : List ZC)[b]? := by
    intro b hb
    have := zap_at (st := cw st G V) (L := [.inr (2, [.ref (G.A (.dr dd)), .int cp, .int 0, .int (-1), .ref (st.2.length + 1), .ref (st.2.length + 2)]), .inr (0, [.int 0, .ref 0, .int 0]), .inr (3, [.ref (st.2.length + 3), .int 0]), .inl (24, .inl fun _ => 0)]) (x := 39) (j := b) hb
    rw [cw_len, ← hT] at this
    exact this
  have a0 : T.2[st.2.length]? = some (.inr (2, [.ref (G.A (.dr dd)), .int cp, .int 0, .int (-1), .ref (st.2.length + 1), .ref (st.2.length + 2)])) := hat 0 (by decide)
  have a1 : T.2[st.2.length + 1]? = some (.inr (0, [.int 0, .ref 0, .int 0])) := hat 1 (by decide)
  have a2 : T.2[st.2.length + 2]? = some (.inr (3, [.ref (st.2.length + 3), .int 0])) := hat 2 (by decide)
  have a3 : T.2[st.2.length + 3]? = some (.inl (24, .inl fun _ => 0)) := hat 3 (by decide)
  have hraw : cw T G V = T := by rw [hT]; exact zap_raw h
  have E0 : Ext st G T G := by rw [hT]; exact zap_Ext h
  have K0 : ∀ b, st.2.length ≤ b → G.K b = none := fun b hb => Kfree h hb
  -- strokes
  obtain ⟨G1, hG1⟩ : ∃ G1, G1 = gset G (.sk (2 * j + 1)) (st.2.length + 3) := ⟨_, rfl⟩
  have c1 : cw T G V = cw T G1 (vS V (2 * j + 1) fun _ => 0) := by
    rw [hG1]
    exact adr (Ext0 E0.ok) (by omega) (Nat.zero_le _) (by omega) hks (fun k' hl hc => hks (I.cl k' _ hl hc)) (fun A k' hne => cell_vS hne) (by rw [a3, cell_sk, vS_s, if_pos rfl]) (K0 _ (by omega))
  have E1 : Ext st G T G1 := by
    rw [hG1]
    exact adr_Ext (k := .sk (2 * j + 1)) E0 (show 3 ≤ st.2.length + 3 by omega) (by omega) (by omega) hks (K0 _ (by omega))
  have L1 : ∀ k', G1.live k' ↔ G.live k' ∨ k' = .sk (2 * j + 1) := fun k' => by
    rw [hG1]
    exact gset_live hks (K0 _ (by omega))
  have K1 : ∀ b, st.2.length ≤ b → b ≠ st.2.length + 3 → G1.K b = none := fun b hb hne => by
    rw [hG1, gset_K' hne, K0 b hb, if_neg (fun z => by cases z)]
  have A1 : G1.A (.sk (2 * j + 1)) = st.2.length + 3 := by rw [hG1]; exact gset_A
  -- outline
  have hko1 : ¬ G1.live (.ou (2 * j + 1)) := fun z => ((L1 _).mp z).elim hko fun w => absurd (congrArg Prod.fst w) (show (5 : Nat) ≠ 6 by decide)
  obtain ⟨G2, hG2⟩ : ∃ G2, G2 = gset G1 (.ou (2 * j + 1)) (st.2.length + 2) := ⟨_, rfl⟩
  have c2 : cw T G1 (vS V (2 * j + 1) fun _ => 0) = cw T G2 (vI (vS V (2 * j + 1) fun _ => 0) 7 (2 * j + 1) 0) := by
    rw [hG2]
    refine adr (Ext0 E1.ok) (by omega) (Nat.zero_le _) (by omega) hko1 (fun k' hl hc => ?_) (fun A k' hne => cell_vI hne) ?_ (K1 _ (by omega) (by omega))
    · rcases (L1 k').mp hl with w | w
      · exact hko (I.cl k' _ w hc)
      · subst w
        exact hc
    · rw [a2, cell_ou, vI_ss, gset_A' (fun z => absurd (congrArg Prod.fst z) (show (6 : Nat) ≠ 5 by decide)), A1]
  have E2 : Ext st G T G2 := by
    rw [hG2]
    exact adr_Ext (k := .ou (2 * j + 1)) E1 (show 3 ≤ st.2.length + 2 by omega) (by omega) (by omega) hko1 (K1 _ (by omega) (by omega))
  have L2 : ∀ k', G2.live k' ↔ (G.live k' ∨ k' = .sk (2 * j + 1)) ∨ k' = .ou (2 * j + 1) := fun k' => by
    rw [hG2, gset_live hko1 (K1 _ (by omega) (by omega)), L1]
  have K2 : ∀ b, st.2.length ≤ b → b ≠ st.2.length + 3 → b ≠ st.2.length + 2 → G2.K b = none := fun b hb hne hne2 => by
    rw [hG2, gset_K' hne2, K1 b hb hne, if_neg (fun z => by cases z)]
  have A2 : G2.A (.ou (2 * j + 1)) = st.2.length + 2 := by rw [hG2]; exact gset_A
  -- list
  have hka2 : ¬ G2.live (.al (j + 4)) := fun z => by
    rcases (L2 _).mp z with (w | w) | w
    · exact hka w
    · exact absurd (congrArg Prod.fst w) (show (2 : Nat) ≠ 6 by decide)
    · exact absurd (congrArg Prod.fst w) (show (2 : Nat) ≠ 5 by decide)
  obtain ⟨G3, hG3⟩ : ∃ G3, G3 = gset G2 (.al (j + 4)) (st.2.length + 1) := ⟨_, rfl⟩
  have hcr : ∀ k' k2 : CK, G2.live k' → cref V k' k2 → ¬ G.live k2 → k2.1 ≠ 6 → False := by
    intro k' k2 hl hc hn2 h6
    rcases (L2 k').mp hl with (w | w) | w
    · exact hn2 (I.cl k' _ w hc)
    · subst w
      exact hc
    · subst w
      have hc : k2 = CK.sk (2 * j + 1) := hc
      exact h6 (by rw [hc]; rfl)
  have c3 : cw T G2 (vI (vS V (2 * j + 1) fun _ => 0) 7 (2 * j + 1) 0) = cw T G3 (vJ0 V j) := by
    rw [hG3]
    refine adr (Ext0 E2.ok) (by omega) (Nat.zero_le _) (by omega) hka2 (fun k' hl hc => ?_) (fun A k' hne => (cell_vI hne).trans (cell_vI hne)) ?_ (K2 _ (by omega) (by omega) (by omega))
    · exact hcr k' _ hl (by obtain ⟨a, b⟩ := k'; exact hc) hka (by show (2 : Nat) ≠ 6; decide)
    · unfold vJ0
      rw [a1, cell_al, vI_ss, vI_oo (by omega), vI_ss]
      show _ = some (Sum.inr (0, [_, Value.ref (eld (V.c (j + 4)) _), _]))
      rw [hc0]
      rfl
  have E3 : Ext st G T G3 := by
    rw [hG3]
    exact adr_Ext (k := .al (j + 4)) E2 (show 3 ≤ st.2.length + 1 by omega) (by omega) (by omega) hka2 (K2 _ (by omega) (by omega) (by omega))
  have L3 : ∀ k', G3.live k' ↔ ((G.live k' ∨ k' = .sk (2 * j + 1)) ∨ k' = .ou (2 * j + 1)) ∨ k' = .al (j + 4) := fun k' => by
    rw [hG3, gset_live hka2 (K2 _ (by omega) (by omega) (by omega)), L2]
  have K3 : G3.K st.2.length = none := by
    rw [hG3, gset_K' (by omega), K2 _ (Nat.le_refl _) (by omega) (by omega), if_neg (fun z => by cases z)]
  have A3 : G3.A (.al (j + 4)) = st.2.length + 1 := by rw [hG3]; exact gset_A
  have hkr3 : ¬ G3.live (.ar (j + 4)) := fun z => by
    rcases (L3 _).mp z with ((w | w) | w) | w
    · exact hkr w
    · exact absurd (congrArg Prod.fst w) (show (3 : Nat) ≠ 6 by decide)
    · exact absurd (congrArg Prod.fst w) (show (3 : Nat) ≠ 5 by decide)
    · exact absurd (congrArg Prod.fst w) (show (3 : Nat) ≠ 2 by decide)
  have c4 : cw T G3 (vE (vJ0 V j) (j + 4) fun _ => none) = cw T G3 (vJ0 V j) := cw_vE E3.ok hkr3
  -- the job
  have hkj3 : ¬ G3.live (.jb j) := fun z => by
    rcases (L3 _).mp z with ((w | w) | w) | w
    · exact hkj w
    · exact absurd (congrArg Prod.fst w) (show (7 : Nat) ≠ 6 by decide)
    · exact absurd (congrArg Prod.fst w) (show (7 : Nat) ≠ 5 by decide)
    · exact absurd (congrArg Prod.fst w) (show (7 : Nat) ≠ 2 by decide)
  have hld := I.dr hdd
  have c5 : cw T G3 (vE (vJ0 V j) (j + 4) fun _ => none) = cw T (gset G3 (.jb j) st.2.length) (vJn V j dd cp) := by
    refine adr (Ext0 E3.ok) (by omega) (Nat.zero_le _) (by omega) hkj3 (fun k' hl hc => ?_) (fun A k' hne => (cell_vR (by decide) hne).trans ((cell_vI hne).trans ((cell_vI hne).trans (cell_vI hne)))) ?_ K3
    · rcases (L3 k').mp hl with w | w
      · by_cases e : k' = .ar (j + 4)
        · subst e
          obtain ⟨b, q, hq, _⟩ := hc
          have : (vE (vJ0 V j) (j + 4) fun _ => none).e (j + 4) b = none := by rw [vE_e, if_pos rfl]
          rw [this] at hq
          cases hq
        · refine hcr k' (.jb j) ((L2 k').mpr w) ?_ hkj (by show (7 : Nat) ≠ 6; decide)
          exact cref_vE (n := j + 4) (f := fun _ => none) e hc
      · subst w
        exact absurd (congrArg Prod.fst hc.2) (show (7 : Nat) ≠ 3 by decide)
    · unfold vJn
      rw [a0, cell_jb, vR_ss, vR_i, vI_oo (by omega), vI_oo (by omega), vI_ss, vI_oo (by omega), vI_ss, vI_ss, rfv_s, gset_A' (fun z => absurd (congrArg Prod.fst z) (show (4 : Nat) ≠ 7 by decide)), gset_A' (fun z => absurd (congrArg Prod.fst z) (show (2 : Nat) ≠ 7 by decide)), gset_A' (fun z => absurd (congrArg Prod.fst z) (show (5 : Nat) ≠ 7 by decide)), A3, E3.A (.dr dd) (by show (4 : Nat) ≠ 3; decide) hld]
      have : G3.A (.ou (2 * j + 1)) = st.2.length + 2 := by rw [hG3, gset_A' (fun z => absurd (congrArg Prod.fst z) (show (5 : Nat) ≠ 2 by decide))]; exact A2
      rw [this]
  refine ⟨T, gset G3 (.jb j) st.2.length, hT, adr_Ext E3 h3 (Nat.le_refl _) (by omega) hkj3 K3, ?_, gset_A, fun k => ?_⟩
  · rw [← c5, c4, ← c3, ← c2, ← c1, hraw]
  · rw [gset_live hkj3 K3, L3]
theorem kn_jb {c c' : Nat → Nat} {nd nj np : Nat} (h1 : ∀ n, n ≠ 1 → c' n = c n) (h3 : c' 1 ≠ 0) (h0 : c (nj + 4) = 0) (k : CK) : ((((((kn c nd nj np k ∨ k = .sk (2 * nj + 1)) ∨ k = .ou (2 * nj + 1)) ∨ k = .al (nj + 4)) ∨ k = .jb nj)) ∨ k = .ar 1) ↔ kn c' nd (nj + 1) np k := by
  obtain ⟨b, e⟩ := k
  unfold kn CK.ar CK.sk CK.ou CK.al CK.jb
  simp only [Prod.mk.injEq]
  rcases b with _ | _ | _ | _ | _ | _ | _ | _ | _ | b
  · rcases e with _ | e
    · simp
    · simp
  · rcases e with _ | e
    · simp
    · simp
  · show (((((e < nj + 4 ∨ (2 = 6 ∧ e = 2 * nj + 1)) ∨ (2 = 5 ∧ e = 2 * nj + 1)) ∨ (2 = 2 ∧ e = nj + 4)) ∨ (2 = 7 ∧ e = nj)) ∨ (2 = 3 ∧ e = 1)) ↔ e < nj + 1 + 4
    omega
  · show ((((((e < nj + 4 ∧ c e ≠ 0) ∨ (3 = 6 ∧ e = 2 * nj + 1)) ∨ (3 = 5 ∧ e = 2 * nj + 1)) ∨ (3 = 2 ∧ e = nj + 4)) ∨ (3 = 7 ∧ e = nj)) ∨ (3 = 3 ∧ e = 1)) ↔ (e < nj + 1 + 4 ∧ c' e ≠ 0)
    by_cases z : e = 1
    · rw [z]
      exact ⟨fun _ => ⟨by omega, h3⟩, fun _ => .inr ⟨rfl, rfl⟩⟩
    · rw [h1 e z]
      refine ⟨fun w => ?_, fun w => .inl (.inl (.inl (.inl (.inl ⟨?_, w.2⟩))))⟩
      · rcases w with ((((w | w) | w) | w) | w) | w
        · exact ⟨by omega, w.2⟩
        · exact absurd w.1 (by decide)
        · exact absurd w.1 (by decide)
        · exact absurd w.1 (by decide)
        · exact absurd w.1 (by decide)
        · exact absurd w.2 z
      · by_cases y : e = nj + 4
        · rw [y, h0] at w
          exact absurd rfl w.2
        · omega
  · simp
  · show (((((e / 2 < (if e % 2 = 0 then nd else nj) ∨ (5 = 6 ∧ e = 2 * nj + 1)) ∨ (5 = 5 ∧ e = 2 * nj + 1)) ∨ (5 = 2 ∧ e = nj + 4)) ∨ (5 = 7 ∧ e = nj)) ∨ (5 = 3 ∧ e = 1)) ↔ e / 2 < (if e % 2 = 0 then nd else nj + 1)
    split <;> omega
  · show (((((e / 2 < (if e % 2 = 0 then nd else nj) ∨ (6 = 6 ∧ e = 2 * nj + 1)) ∨ (6 = 5 ∧ e = 2 * nj + 1)) ∨ (6 = 2 ∧ e = nj + 4)) ∨ (6 = 7 ∧ e = nj)) ∨ (6 = 3 ∧ e = 1)) ↔ e / 2 < (if e % 2 = 0 then nd else nj + 1)
    split <;> omega
  · show (((((e < nj ∨ (7 = 6 ∧ e = 2 * nj + 1)) ∨ (7 = 5 ∧ e = 2 * nj + 1)) ∨ (7 = 2 ∧ e = nj + 4)) ∨ (7 = 7 ∧ e = nj)) ∨ (7 = 3 ∧ e = 1)) ↔ e < nj + 1
    omega
  · simp
  · simp
end NJ
