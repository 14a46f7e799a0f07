/-! NEW OBJECTS: raw cells are made and then taken into the class's world -/
section AD
variable {X : ZX} {d : Nat} {st S : ZS} {G : CG} {V V' : CV} {P : ZO → ZS → Prop} {x : Nat} {L : List ZC} {k : CK} {a : Nat}
theorem zap_new0 {ci : Nat} : znew S ci = zap S [.inr (ci, znewf ci)] ((znewf ci).length + 1) := rfl
theorem zap_nwa0 {n : Nat} {y : ZA} : znwa S n y = zap S [.inl (n, y)] (n + 1) := rfl
theorem zap_get0 {ci f : Nat} (hj : 0 < L.length) : zget (zap S L x) S.2.length ci f = zgL L[0]? ci f := zap_get (j := 0) hj
theorem zap_put0 {f : Nat} {v : Value} (hj : 0 < L.length) : zput (zap S L x) S.2.length f v = zap S (zpL L 0 f v) x := zap_put (j := 0) hj
theorem zap_raw (h : cok st G) : cw (zap (cw st G V) L x) G V = zap (cw st G V) L x := by
  refine cw_self fun a k hK => ?_
  have hb := h.ka a k hK
  rw [zap_old (by rw [cw_len]; exact hb.2.2)]
  have hl : G.live k := by
    show G.K (G.A k) = some k
    rw [hb.1]; exact hK
  have := cw_at (V := V) h hl
  rw [hb.1] at this
  exact this
theorem zap_Ext (h : cok st G) : Ext st G (zap (cw st G V) L x) G := by
  refine ⟨?_, ?_, ?_, fun _ h => h, fun _ _ _ => rfl⟩
  · intro a k hK
    have := h.ka a k hK
    refine ⟨this.1, this.2.1, ?_⟩
    rw [zap_len, cw_len]
    omega
  · rw [zap_len, cw_len]
    omega
  · intro a ha hK
    refine ⟨hK, ?_⟩
    rw [zap_old (by rw [cw_len]; exact ha)]
    exact cw_raw hK
/-- a raw cell is taken in under a new key -/
theorem adr (E : Ext st G S G) (h3 : 3 ≤ a) (ha : st.2.length ≤ a) (ha2 : a < S.2.length) (hk : ¬ G.live k) (hn : ∀ k', G.live k' → ¬ cref V k' k) (hv : ∀ A k', k' ≠ k → cell A V' k' = cell A V k') (hc : S.2[a]? = some (cell (gset G k a).A V' k)) (hKa : G.K a = none) : cw S G V = cw S (gset G k a) V' := by
  refine Prod.ext rfl (List.ext_getElem? fun b => ?_)
  unfold cw
  dsimp only
  rw [List.getElem?_mapIdx, List.getElem?_mapIdx]
  by_cases e : b = a
  · subst e
    rw [hKa, gset_K, hc]
    rfl
  · rw [gset_K' e]
    cases hK : G.K b with
    | none =>
      rw [if_neg (by intro z; cases z)]
    | some k' =>
      have hb := E.ok.ka b k' hK
      have hl : G.live k' := by
        show G.K (G.A k') = some k'
        rw [hb.1]; exact hK
      have hne : k' ≠ k := fun z => hk (by rw [← z]; exact hl)
      rw [if_neg (fun z => hne (Option.some.inj z))]
      dsimp only
      rw [hv _ k' hne, cell_c (A := G.A) (A' := (gset G k a).A) fun k2 h2 => gset_A' fun z => hn k' hl (by rw [← z]; exact h2)]
theorem adr_Ext {G0 : CG} (E : Ext st G0 S G) (h3 : 3 ≤ a) (ha : st.2.length ≤ a) (ha2 : a < S.2.length) (hk : ¬ G.live k) (hKa : G.K a = none) : Ext st G0 S (gset G k a) := by
  have hne : ∀ k', G.live k' → G.A k' ≠ a := fun k' hl z => by
    have hl : G.K (G.A k') = some k' := hl
    rw [z, hKa] at hl
    cases hl
  have hlv : ∀ k', G.live k' → (gset G k a).live k' := by
    intro k' hl
    have e : k' ≠ k := fun z => hk (by rw [← z]; exact hl)
    show (gset G k a).K ((gset G k a).A k') = some k'
    rw [gset_A' e, gset_K' (hne k' hl), if_neg (by rw [show G.K (G.A k') = some k' from hl]; exact fun z => e (Option.some.inj z))]
    exact hl
  refine ⟨?_, E.len, ?_, fun k' hl => hlv k' (E.lv k' hl), ?_⟩
  · intro b k' hb
    by_cases e : b = a
    · subst e
      rw [gset_K] at hb
      cases hb
      exact ⟨gset_A, h3, ha2⟩
    · rw [gset_K' e] at hb
      by_cases e2 : G.K b = some k
      · rw [if_pos e2] at hb; cases hb
      · rw [if_neg e2] at hb
        have := E.ok.ka b k' hb
        refine ⟨?_, this.2⟩
        rw [gset_A' (fun z => e2 (by rw [← z]; exact hb))]
        exact this.1
  · intro b hb hK
    obtain ⟨e1, e2⟩ := E.raw b hb hK
    refine ⟨?_, e2⟩
    rw [gset_K' (by omega), if_neg (by rw [e1]; exact fun z => by cases z), e1]
  · intro k' hk' hl
    rw [gset_A' fun z => hk (by rw [← z]; exact E.lv k' hl)]
    exact E.A k' hk' hl
theorem gset_live (hk : ¬ G.live k) (hKa : G.K a = none) {k' : CK} : (gset G k a).live k' ↔ G.live k' ∨ k' = k := by
  refine ⟨fun h => ?_, fun h => ?_⟩
  · by_cases e : k' = k
    · exact .inr e
    · refine .inl ?_
      have h : (gset G k a).K ((gset G k a).A k') = some k' := h
      rw [gset_A' e] at h
      by_cases e2 : G.A k' = a
      · rw [e2, gset_K] at h
        exact absurd (Option.some.inj h).symm e
      · rw [gset_K' e2] at h
        by_cases e3 : G.K (G.A k') = some k
        · rw [if_pos e3] at h; cases h
        · rw [if_neg e3] at h; exact h
  · rcases h with h | h
    · have e : k' ≠ k := fun z => hk (by rw [← z]; exact h)
      have hne : G.A k' ≠ a := fun z => by
        have h : G.K (G.A k') = some k' := h
        rw [z, hKa] at h
        cases h
      show (gset G k a).K ((gset G k a).A k') = some k'
      rw [gset_A' e, gset_K' hne, if_neg (by rw [show G.K (G.A k') = some k' from h]; exact fun z => e (Option.some.inj z))]
      exact h
    · rw [h]; exact gset_l
theorem Kfree (h : cok st G) (ha : st.2.length ≤ a) : G.K a = none := by
  cases e : G.K a with
  | none => rfl
  | some k =>
    have := h.ka a k e
    omega
/-! the constructors -/
theorem zf_0 : znewf 0 = [.int 0, .null, .int 0] := rfl
theorem zf_1 : znewf 1 = [.int 0, .null, .int 0, .int 0] := rfl
theorem zf_2 : znewf 2 = [.null, .int 0, .int 0, .int 0, .null, .null] := rfl
theorem zf_3 : znewf 3 = [.null, .int 0] := rfl
theorem zf_4 : znewf 4 = [.int 0, .int 0, .int 0, .int 0, .int 0, .int 0, .int 0, .null, .null, .null, .null] := rfl
theorem zf_5 : znewf 5 = [.null, .int 0, .int 0] := rfl
theorem zf_6 : znewf 6 = [.null, .null, .null, .null, .int 0, .float 0] := rfl
theorem S_newP {n : Int32} : AC X (d + 1) 27 [.ref S.2.length, .int n] (znew S 4) P = P (.inl none) (zap S [.inr (4, [.int n, .int 0, .int 0, .int 0, .int 0, .int 0, .int 0, .null, .null, .null, .null])] 12) := by
  rw [A_X3_init, zap_new0, zf_4]
  simp only [E_X3_init_0, E_X3_init_0n, E_X3_init_1, E_X3_init_4, E_X3_init_4n, E_X3_init_5, E_X3_init_6, E_X3_init_9, zwith_some, zwith_none, zif_true, zaft_inl, Option.toList_some, Option.toList_none, List.cons_append, List.nil_append, zc1_int, zc1_ref, zc1_null, zc1_float, List.length_nil, List.length_cons, Nat.reduceAdd, Nat.reduceLeDiff, Nat.zero_add, z1and, z0and, zl00, zl01, zl02, zl03, ze00, ze10, ze20, ze30, if_true, if_false, zap_get0 (L := [_]) (Nat.zero_lt_one), zap_put0 (L := [_]) (Nat.zero_lt_one), List.getElem?_cons_zero, zgL, zpL, List.set_cons_zero, if_true]
theorem S_newL {j y : Nat} (hj : L.length = j) : AC X (d + 3) 112 [.ref (S.2.length + j)] (zap S (L ++ [.inr (0, znewf 0)]) y) P = P (.inl none) (zap S (L ++ [.inr (0, [.int 0, .ref 0, .int 0])]) y) := by
  subst hj
  have hg : ∀ {c : List Value} {ci f : Nat}, zget (zap S (L ++ [(.inr (ci, c) : ZC)]) y) (S.2.length + L.length) ci f = c[f]? := by
    intro c ci f
    rw [zap_get (by rw [List.length_append]; exact Nat.lt_succ_self _), List.getElem?_append_right (Nat.le_refl _), Nat.sub_self]
    exact if_pos rfl
  have hp : ∀ {c : List Value} {ci f : Nat} {v : Value}, zput (zap S (L ++ [(.inr (ci, c) : ZC)]) y) (S.2.length + L.length) f v = zap S (L ++ [(.inr (ci, c.set f v) : ZC)]) y := by
    intro c ci f v
    rw [zap_put (by rw [List.length_append]; exact Nat.lt_succ_self _)]
    unfold zpL
    rw [List.getElem?_append_right (Nat.le_refl _), Nat.sub_self]
    dsimp only [List.getElem?_cons_zero]
    rw [List.set_append_right _ _ (Nat.le_refl _), Nat.sub_self]
    rfl
  rw [zf_0, A_Jx4a65c_init_da8c8]
  simp only [E_Jx4a65c_init_da8c8_0, E_Jx4a65c_init_da8c8_0n, E_Jx4a65c_init_da8c8_1, E_Jx4a65c_init_da8c8_4, E_Jx4a65c_init_da8c8_4n, E_Jx4a65c_init_da8c8_5, E_Jx4a65c_init_da8c8_8, E_Jx4a65c_init_da8c8_8n, E_Jx4a65c_init_da8c8_11, zwith_some, zwith_none, zif_true, zaft_inl, Option.toList_some, Option.toList_none, List.cons_append, List.nil_append, zc1_int, zc1_ref, zc1_null, zc1_float, List.length_nil, List.length_cons, Nat.reduceAdd, Nat.reduceLeDiff, Nat.zero_add, z1and, z0and, zl00, zl01, zl02, zl03, ze00, ze10, ze20, ze30, if_true, if_false]
  rw [A_Jxc12de_init_da8c8]
  simp only [E_Jxc12de_init_da8c8_0, E_Jxc12de_init_da8c8_0n, E_Jxc12de_init_da8c8_1, E_Jxc12de_init_da8c8_4, E_Jxc12de_init_da8c8_4n, E_Jxc12de_init_da8c8_5, E_Jxc12de_init_da8c8_6, E_Jxc12de_init_da8c8_9, zwith_some, zwith_none, zif_true, zaft_inl, Option.toList_some, Option.toList_none, List.cons_append, List.nil_append, zc1_int, zc1_ref, zc1_null, zc1_float, List.length_nil, List.length_cons, Nat.reduceAdd, Nat.reduceLeDiff, Nat.zero_add, z1and, z0and, zl00, zl01, zl02, zl03, ze00, ze10, ze20, ze30, if_true, if_false]
  rw [A_Jxa1e45_init_da8c8]
  simp only [E_Jxa1e45_init_da8c8_0, E_Jxa1e45_init_da8c8_0n, E_Jxa1e45_init_da8c8_1, E_Jxa1e45_init_da8c8_4, E_Jxc12de_init_da8c8_0, E_Jxc12de_init_da8c8_0n, E_Jxc12de_init_da8c8_1, E_Jxc12de_init_da8c8_4, E_Jxc12de_init_da8c8_4n, E_Jxc12de_init_da8c8_5, E_Jxc12de_init_da8c8_6, E_Jxc12de_init_da8c8_9, E_Jx4a65c_init_da8c8_0, E_Jx4a65c_init_da8c8_0n, E_Jx4a65c_init_da8c8_1, E_Jx4a65c_init_da8c8_4, E_Jx4a65c_init_da8c8_4n, E_Jx4a65c_init_da8c8_5, E_Jx4a65c_init_da8c8_8, E_Jx4a65c_init_da8c8_8n, E_Jx4a65c_init_da8c8_11, zwith_some, zwith_none, zif_true, zaft_inl, Option.toList_some, Option.toList_none, List.cons_append, List.nil_append, zc1_int, zc1_ref, zc1_null, zc1_float, List.length_nil, List.length_cons, Nat.reduceAdd, Nat.reduceLeDiff, Nat.zero_add, z1and, z0and, zl00, zl01, zl02, zl03, ze00, ze10, ze20, ze30, if_true, if_false, hg, hp, List.getElem?_cons_zero, List.getElem?_cons_succ, List.set_cons_zero, List.set_cons_succ]
theorem S_newO {j y : Nat} (hj : L.length = j) : AC X (d + 1) 9 [.ref (S.2.length + j)] (zap S (L ++ [.inr (3, znewf 3)]) y) P = P (.inl none) (zap S (L ++ [.inr (3, [.ref (S.2.length + (j + 1)), .int 0]), .inl (24, .inl fun _ => 0)]) (y + 25)) := by
  subst hj
  have hl : (zap S (L ++ [.inr (3, znewf 3)]) y).2.length = S.2.length + (L.length + 1) := by
    rw [zap_len, List.length_append]; rfl
  have hg : zget (zap S (L ++ [(.inr (3, znewf 3) : ZC)] ++ [.inl (24, .inl fun _ => 0)]) (y + 24 + 1)) (S.2.length + L.length) 3 0 = some .null := by
    rw [zap_get (by rw [List.length_append, List.length_append]; exact Nat.lt_add_right 1 (Nat.lt_succ_self _)), List.append_assoc, List.getElem?_append_right (Nat.le_refl _), Nat.sub_self]
    rfl
  have hp : ∀ {v : Value}, zput (zap S (L ++ [(.inr (3, znewf 3) : ZC)] ++ [.inl (24, .inl fun _ => 0)]) (y + 24 + 1)) (S.2.length + L.length) 0 v = zap S (L ++ [.inr (3, [v, .int 0]), .inl (24, .inl fun _ => 0)]) (y + 25) := by
    intro v
    rw [zap_put (by rw [List.length_append, List.length_append]; exact Nat.lt_add_right 1 (Nat.lt_succ_self _)), List.append_assoc]
    unfold zpL
    rw [List.getElem?_append_right (Nat.le_refl _), Nat.sub_self]
    dsimp only [List.cons_append, List.getElem?_cons_zero]
    rw [List.set_append_right _ _ (Nat.le_refl _), Nat.sub_self]
    rfl
  rw [A_X2_init]
  simp only [E_X2_init_0, E_X2_init_0n, E_X2_init_1, E_X2_init_4, E_X2_init_4n, E_X2_init_5, E_X2_init_7, E_X2_init_9, E_X2_init_9n, E_X2_init_12, zwith_some, zwith_none, zif_true, zaft_inl, Option.toList_some, Option.toList_none, List.cons_append, List.nil_append, zc1_int, zc1_ref, zc1_null, zc1_float, List.length_nil, List.length_cons, Nat.reduceAdd, Nat.reduceLeDiff, Nat.zero_add, z1and, z0and, zl00, zl01, zl02, zl03, ze00, ze10, ze20, ze30, if_true, if_false, zap_nwa, hl, hg, hp]
end AD
