/-! THE STOCK: a new piece -/
section CS
variable {X : ZX} {d : Nat} {st : ZS} {G : CG} {V V' : CV} {P : ZO → ZS → Prop} {x y : Int32} {n m p q : Nat}
/-- what live cells name is live -/
theorem CI.cl (I : CI G V) : ∀ k k2, G.live k → cref V k k2 → G.live k2 := by
  intro k k2 hl hc
  have hk := (I.gi k).mp hl
  unfold cref at hc
  split at hc
  · rcases hc with z | z | z | z
    · rw [z]; exact I.al (by omega)
    · rw [z]; exact I.al (by omega)
    · rw [z]; exact I.al (by omega)
    · rw [z]; exact I.stk
  · rw [hc]; exact I.al (by omega)
  · rw [hc.2]; exact I.ar hk hc.1
  · rename_i n
    obtain ⟨j, q, e, rfl⟩ := hc
    have hn : n < nJ V + 4 := hk.1
    rcases n with _ | _ | _ | _ | n
    · exact I.dr (I.ld.1.el j q e).2
    · exact I.jb (I.lj.1.el j q e).2
    · exact I.jb (I.lc.el j q e).2
    · exact I.pc (I.lq.1.el j q e).2
    · exact I.pc ((I.la n (by omega)).1.el j q e).2
  · rw [hc]; exact I.ou0 hk
  · rw [hc]; exact (I.gi _).mpr hk
  · rename_i j
    rcases hc with ⟨i, e, z⟩ | z | z
    · obtain ⟨i', e', hi'⟩ := I.de j hk
      rw [e] at e'
      cases e'
      rw [z]; exact I.dr hi'
    · rw [z]; exact I.al (Nat.add_lt_add_right hk 4)
    · rw [z]; exact I.ou1 hk
  · obtain ⟨a, q, ha, e, z⟩ := hc
    rw [z]
    exact I.pc (I.pr _ hk a q ha e)
  · exact hc.elim
def pcn (n : Nat) : ZC := .inr (4, [.int (nI n), .int 0, .int 0, .int 0, .int 0, .int 0, .int 0, .null, .null, .null, .null])
theorem new_pc (h : cok st G) (I : CI G V) (hn : n = nQ V) (h3 : 3 ≤ st.2.length) : ∃ G', Ext st G (zap (cw st G V) [pcn n] 12) G' ∧ zap (cw st G V) [pcn n] 12 = cw (zap (cw st G V) [pcn n] 12) G' (vZp V n) ∧ G'.A (.pc n) = st.2.length ∧ ∀ k, G'.live k ↔ G.live k ∨ k = .pc n := by
  have hk : ¬ G.live (.pc n) := fun z => by
    have : n < nQ V := (I.gi _).mp z
    omega
  have hKa := Kfree (st := st) (a := st.2.length) h (Nat.le_refl _)
  have ha2 : st.2.length < (zap (cw st G V) [pcn n] 12).2.length := by
    rw [zap_len, cw_len]
    exact Nat.lt_succ_self _
  have E := zap_Ext (V := V) (L := [pcn n]) (x := 12) h
  refine ⟨gset G (.pc n) st.2.length, adr_Ext E h3 (Nat.le_refl _) ha2 hk hKa, ?_, gset_A, fun k => gset_live hk hKa⟩
  rw [← adr (V := V) (V' := vZp V n) E h3 (Nat.le_refl _) ha2 hk (fun k' hl hc => hk (I.cl k' _ hl hc)) (fun A k' hne => cell_vZp hne) ?_ hKa]
  · exact (zap_raw h).symm
  · have := zap_at (st := cw st G V) (L := [pcn n]) (x := 12) (j := 0) (Nat.zero_lt_one)
    rw [cw_len, Nat.add_zero] at this
    rw [this]
    refine congrArg some ?_
    rw [cell_pc, vZp_r' ⟨⟨by decide, by decide⟩, rfl⟩, vZp_r' ⟨⟨by decide, by decide⟩, rfl⟩, vZp_r' ⟨⟨by decide, by decide⟩, rfl⟩, vZp_r' ⟨⟨by decide, by decide⟩, rfl⟩]
    have e : ∀ c, 8 ≤ c → c ≤ 13 → (vZp V n).i c n = 0 := fun c h1 h2 => if_pos ⟨⟨h1, h2⟩, rfl⟩
    rw [e 8 (by decide) (by decide), e 9 (by decide) (by decide), e 10 (by decide) (by decide), e 11 (by decide) (by decide), e 12 (by decide) (by decide), e 13 (by decide) (by decide)]
    rfl
theorem vL3_1 {c : Nat} (hj : p ≠ 3) : (vL (vZp V n) 3 n n c).i 1 p = V.i 1 p := by
  rw [vL_i' (fun z => hj z.2), vZp_i (by omega)]
theorem CI_nx {G' : CG} {c : Nat} (I : CI G V) (hn : n = nQ V) (h4 : n < 400) (hc : lok (vL (vZp V n) 3 n n c) 3 (n + 1) (n + 1)) (hl : ∀ k, G'.live k ↔ (G.live k ∨ k = .pc n) ∨ k = .ar 3) : CI G' (vL (vZp V n) 3 n n c) := by
  have e0 : nD (vL (vZp V n) 3 n n c) = nD V := congrArg tN (vL3_1 (by decide))
  have e1 : nJ (vL (vZp V n) 3 n n c) = nJ V := congrArg tN (vL3_1 (by decide))
  have e2 : nC (vL (vZp V n) 3 n n c) = nC V := congrArg tN (vL3_1 (by decide))
  have e3 : nQ (vL (vZp V n) 3 n n c) = n + 1 := by
    unfold nQ
    rw [hc.sz]
    exact tN_nI (by omega)
  have e4 : ∀ j, nA (vL (vZp V n) 3 n n c) j = nA V j := fun j => congrArg tN (vL3_1 (by omega))
  have ho : ∀ {k m b b' : Nat}, k ≠ 3 → b ≤ b' → lok V k m b → lok (vL (vZp V n) 3 n n c) k m b' := fun {k m b b'} hk hb hl => lok_o hl hb (vL3_1 hk) (by rw [vL_c, if_neg hk]; rfl) (by rw [vL_e, if_neg hk]; rfl)
  refine ⟨?_, ?_, ?_, ?_, ?_, ?_, ?_, ?_, ?_⟩
  · intro k
    rw [hl, I.gi, e0, e1, e3, ← hn]
    exact kn_pc (fun m hm => by rw [vL_c, if_neg hm]; rfl) (by have := hc.le; omega) k
  · rw [e0]
    exact ⟨ho (by decide) (Nat.le_refl _) I.ld.1, I.ld.2.1, fun i hi => by rw [vL_e, if_neg (by decide)]; exact I.ld.2.2 i hi⟩
  · rw [e1]
    exact ⟨ho (by decide) (Nat.le_refl _) I.lj.1, I.lj.2.1, fun i hi => by rw [vL_e, if_neg (by decide)]; exact I.lj.2.2 i hi⟩
  · rw [e1, e2]
    exact ho (by decide) (Nat.le_refl _) I.lc
  · rw [e3]
    refine ⟨hc, by omega, fun i hi => ?_⟩
    rw [vL_e, if_pos rfl]
    by_cases z : i = n
    · rw [if_pos z, z]
    · rw [if_neg z]
      exact I.lq.2.2 i (by omega)
  · intro j hj
    rw [e1] at hj
    rw [e3, e4]
    exact ⟨ho (by omega) (by omega) (I.la j hj).1, (I.la j hj).2⟩
  · intro j hj
    rw [e1] at hj
    rw [e0, vL_r, vZp_r (by omega)]
    exact I.de j hj
  · rw [e3]
    intro p hp a q ha hq
    rw [vL_r] at hq
    by_cases z : p = n
    · rw [vZp_r' ⟨⟨by omega, by omega⟩, z⟩] at hq
      cases hq
    · rw [vZp_r (fun w => z w.2)] at hq
      have := I.pr p (by omega) a q ha hq
      omega
  · rw [e3]
    intro p q hp hq
    rw [vL_r] at hq
    by_cases z : p = n
    · rw [vZp_r' ⟨⟨by omega, by omega⟩, z⟩] at hq
      cases hq
    · rw [vZp_r (fun w => z w.2)] at hq
      exact I.pw p q (by omega) hq
theorem C_next (h : cok st G) (I : CI G V) (hn : V.i 14 0 = nI n) (hq : n ≤ nQ V) (h4 : n < 400) (K : ∀ st' G' V', Sta st G V st' G' V' → nxt G' V V' n → P (.inl (some (.ref (G'.A (.pc n))))) (cw st' G' V')) : AC X (d + 7) 40 [.ref (G.A .stk)] (cw st G V) P := by
  have h0 : ¬ nI n < 0 := nI_pos (by omega)
  have hQ4 := I.lq.2.1
  have hal := I.al (n := 3) (by omega)
  have hs : (vI V 14 0 (nI (n + 1))).i 1 3 = nI (nQ V) := (vI_oo (by omega)).trans I.lq.1.sz
  have I1 : CI G (vI V 14 0 (nI (n + 1))) := I.vi (by decide)
  rw [A_X4_next]
  by_cases c : n < nQ V
  · have hlt : ¬ nI (nQ V) ≤ nI n := nI_ge c (by omega)
    have hg := fun {d} {P} => C_get (X := X) (d := d) (P := P) (V := vI V 14 0 (nI (n + 1))) (q := n) h hal (I1.gr I1.lq.1 (by omega) (show 0 < nQ V by omega)) I1.lq.1 c (I.lq.2.2 n c)
    have hK := K st G (vI V 14 0 (nI (n + 1))) (Sta.same h (Nat.le_refl _)) ⟨I1, ⟨fun c j hc _ => vI_oo (by omega), ⟨vI_oo (by omega), vI_oo (by omega)⟩, fun _ => rfl, fun _ _ => ⟨rfl, rfl⟩, rfl, rfl, Nat.le_refl _⟩, vI_ss, c, fun p c' _ h8 h13 => vI_oo (by omega), fun _ _ _ => rfl⟩
    rw [show ek 3 n = CK.pc n from rfl] at hg
    simp only [E_X4_next_0, E_X4_next_0n, E_X4_next_1, E_X4_next_4, E_X4_next_5, E_X4_next_5n, E_X4_next_6, E_X4_next_6n, E_X4_next_6i, E_X4_next_6f, E_X4_next_7, E_X4_next_10, E_X4_next_11, E_X4_next_12, E_X4_next_15, E_X4_next_16, E_X4_next_19, E_X4_next_20, E_X4_next_20n, E_X4_next_21, E_X4_next_24, E_X4_next_27, E_X4_next_30, E_X4_next_30n, E_X4_next_31, E_X4_next_34, E_X4_next_35, E_X4_next_38, E_X4_next_38n, E_X4_next_41, E_X4_next_41n, E_X4_next_42, E_X4_next_45, E_X4_next_45n, E_X4_next_45i, E_X4_next_45f, E_X4_next_46, E_X4_next_47, E_X4_next_50, E_X4_next_50n, E_X4_next_51, E_X4_next_51n, E_X4_next_52, E_X4_next_55, E_X4_next_55n, E_X4_next_56, E_X4_next_59, E_X4_next_59n, E_X4_next_59i, E_X4_next_59f, E_X4_next_60, E_X4_next_60n, E_X4_next_61, E_X4_next_61n, zwith_some, zwith_none, zif_true, zaft_inl, Option.toList_some, Option.toList_none, List.cons_append, List.nil_append, zc1_int, zc1_ref, zc1_null, zc1_float, List.length_nil, List.length_cons, Nat.reduceAdd, Nat.reduceLeDiff, Nat.zero_add, z1and, z0and, zl00, zl01, zl02, zl03, ze00, ze10, ze20, ze30, if_true, if_false, cg_stk h I.stk, cp_stk h I.stk, hn, nI_1, h0, cis_al h hal, C_size h hal, hs, hlt, hg, cis_pc h (I.pc c)]
    exact hK
  · have e : n = nQ V := by omega
    have hle : nI (nQ V) ≤ nI n := by rw [e]; exact Int32.le_refl _
    have h3 : 3 ≤ st.2.length := by have := (h.ka _ _ hal); omega
    have hnp := fun {d} {P} => S_newP (X := X) (d := d) (P := P) (S := cw st G (vI V 14 0 (nI (n + 1)))) (n := nI n)
    obtain ⟨G', E, e1, eA, hl⟩ := new_pc (n := n) h I1 e h3
    simp only [E_X4_next_0, E_X4_next_0n, E_X4_next_1, E_X4_next_4, E_X4_next_5, E_X4_next_5n, E_X4_next_6, E_X4_next_6n, E_X4_next_6i, E_X4_next_6f, E_X4_next_7, E_X4_next_10, E_X4_next_11, E_X4_next_12, E_X4_next_15, E_X4_next_16, E_X4_next_19, E_X4_next_20, E_X4_next_20n, E_X4_next_21, E_X4_next_24, E_X4_next_27, E_X4_next_30, E_X4_next_30n, E_X4_next_31, E_X4_next_34, E_X4_next_35, E_X4_next_38, E_X4_next_38n, E_X4_next_41, E_X4_next_41n, E_X4_next_42, E_X4_next_45, E_X4_next_45n, E_X4_next_45i, E_X4_next_45f, E_X4_next_46, E_X4_next_47, E_X4_next_50, E_X4_next_50n, E_X4_next_51, E_X4_next_51n, E_X4_next_52, E_X4_next_55, E_X4_next_55n, E_X4_next_56, E_X4_next_59, E_X4_next_59n, E_X4_next_59i, E_X4_next_59f, E_X4_next_60, E_X4_next_60n, E_X4_next_61, E_X4_next_61n, zwith_some, zwith_none, zif_true, zaft_inl, Option.toList_some, Option.toList_none, List.cons_append, List.nil_append, zc1_int, zc1_ref, zc1_null, zc1_float, List.length_nil, List.length_cons, Nat.reduceAdd, Nat.reduceLeDiff, Nat.zero_add, z1and, z0and, zl00, zl01, zl02, zl03, ze00, ze10, ze20, ze30, if_true, if_false, cg_stk h I.stk, cp_stk h I.stk, hn, nI_1, h0, cis_al h hal, C_size h hal, hs, hle, hnp]
    rw [show (Sum.inr (4, [Value.int (nI n), .int 0, .int 0, .int 0, .int 0, .int 0, .int 0, .null, .null, .null, .null]) : ZC) = pcn n from rfl, e1, cw_len, ← eA, ← E.A .stk (by decide) I.stk]
    have hV : (vZp (vI V 14 0 (nI (n + 1))) n).i 1 3 = nI (nQ V) := (vZp_i (by omega)).trans hs
    have hl3 : lok (vZp (vI V 14 0 (nI (n + 1))) n) 3 n (n + 1) := by
      have := I1.lq.1
      rw [show nQ (vI V 14 0 (nI (n + 1))) = n from e.symm] at this
      exact lok_o this (Nat.le_succ n) (vZp_i (by omega)) rfl rfl
    have hadd := fun K => C_add (X := X) (d := d) (P := zaft X (d + 6) 40 56 [.ref (G'.A .stk), .int (nI n), .ref (G'.A (.pc n))] [] P) (V := vZp (vI V 14 0 (nI (n + 1))) n) (n := 3) (m := n) (q := n) (b := n + 1) E.ok ((hl _).mpr (.inl hal)) (fun z => (hl _).mpr (.inl (I1.ar (by omega) z))) hl3 (fun k hk => (hl _).mpr (by
      by_cases z : k = n
      · subst z; exact .inr rfl
      · exact .inl (I.pc (show k < nQ V by omega)))) (Nat.lt_succ_self n) (by omega) K
    rw [show ek 3 n = CK.pc n from rfl] at hadd
    simp only [E_X4_next_0, E_X4_next_0n, E_X4_next_1, E_X4_next_4, E_X4_next_5, E_X4_next_5n, E_X4_next_6, E_X4_next_6n, E_X4_next_6i, E_X4_next_6f, E_X4_next_7, E_X4_next_10, E_X4_next_11, E_X4_next_12, E_X4_next_15, E_X4_next_16, E_X4_next_19, E_X4_next_20, E_X4_next_20n, E_X4_next_21, E_X4_next_24, E_X4_next_27, E_X4_next_30, E_X4_next_30n, E_X4_next_31, E_X4_next_34, E_X4_next_35, E_X4_next_38, E_X4_next_38n, E_X4_next_41, E_X4_next_41n, E_X4_next_42, E_X4_next_45, E_X4_next_45n, E_X4_next_45i, E_X4_next_45f, E_X4_next_46, E_X4_next_47, E_X4_next_50, E_X4_next_50n, E_X4_next_51, E_X4_next_51n, E_X4_next_52, E_X4_next_55, E_X4_next_55n, E_X4_next_56, E_X4_next_59, E_X4_next_59n, E_X4_next_59i, E_X4_next_59f, E_X4_next_60, E_X4_next_60n, E_X4_next_61, E_X4_next_61n, zwith_some, zwith_none, zif_true, zaft_inl, Option.toList_some, Option.toList_none, List.cons_append, List.nil_append, zc1_int, zc1_ref, zc1_null, zc1_float, List.length_nil, List.length_cons, Nat.reduceAdd, Nat.reduceLeDiff, Nat.zero_add, z1and, z0and, zl00, zl01, zl02, zl03, ze00, ze10, ze20, ze30, if_true, if_false, cg_stk E.ok ((hl _).mpr (.inl I.stk)), cis_al E.ok ((hl _).mpr (.inl hal))]
    refine hadd ?_
    intro st2 G2 E2 hl2 hu
    simp only [E_X4_next_0, E_X4_next_0n, E_X4_next_1, E_X4_next_4, E_X4_next_5, E_X4_next_5n, E_X4_next_6, E_X4_next_6n, E_X4_next_6i, E_X4_next_6f, E_X4_next_7, E_X4_next_10, E_X4_next_11, E_X4_next_12, E_X4_next_15, E_X4_next_16, E_X4_next_19, E_X4_next_20, E_X4_next_20n, E_X4_next_21, E_X4_next_24, E_X4_next_27, E_X4_next_30, E_X4_next_30n, E_X4_next_31, E_X4_next_34, E_X4_next_35, E_X4_next_38, E_X4_next_38n, E_X4_next_41, E_X4_next_41n, E_X4_next_42, E_X4_next_45, E_X4_next_45n, E_X4_next_45i, E_X4_next_45f, E_X4_next_46, E_X4_next_47, E_X4_next_50, E_X4_next_50n, E_X4_next_51, E_X4_next_51n, E_X4_next_52, E_X4_next_55, E_X4_next_55n, E_X4_next_56, E_X4_next_59, E_X4_next_59n, E_X4_next_59i, E_X4_next_59f, E_X4_next_60, E_X4_next_60n, E_X4_next_61, E_X4_next_61n, zwith_some, zwith_none, zif_true, zaft_inl, Option.toList_some, Option.toList_none, List.cons_append, List.nil_append, zc1_int, zc1_ref, zc1_null, zc1_float, List.length_nil, List.length_cons, Nat.reduceAdd, Nat.reduceLeDiff, Nat.zero_add, z1and, z0and, zl00, zl01, zl02, zl03, ze00, ze10, ze20, ze30, if_true, if_false]
    rw [← E2.A (.pc n) (by show (8 : Nat) ≠ 3; decide) ((hl _).mpr (.inr rfl))]
    have hlk := lok_add hl3 (Nat.lt_succ_self n) (show n < 600 by omega)
    have I2 := CI_nx (c := nwc (V.c 3) n) I1 e h4 hlk fun k => by
      rw [hl2, hl]
    have hpt := pot_vL (V := vZp (vI V 14 0 (nI (n + 1))) n) (n := 3) (m := n) (q := n) (c := nwc (V.c 3) n) (by decide) (by rw [hV, e]) (by omega)
    rw [if_pos rfl] at hpt
    have hp0 : pot (vZp (vI V 14 0 (nI (n + 1))) n) = pot V := rfl
    rw [hp0] at hpt
    refine K st2 G2 _ ⟨E.trans E2, ?_⟩ ⟨I2, ⟨?_, ⟨?_, ?_⟩, ?_, ?_, rfl, rfl, ?_⟩, ?_, ?_, ?_, ?_⟩
    · have hu' : st2.1 + 4 * V.c 3 ≤ (st.1 + 12) + 4 * nwc (V.c 3) n := hu
      have hpt' : pot (vL (vZp (vI V 14 0 (nI (n + 1))) n) 3 n n (nwc (V.c 3) n)) + 4 * V.c 3 = pot V + 4 * nwc (V.c 3) n + 12 := hpt
      show st2.1 + pot V ≤ st.1 + pot (vL (vZp (vI V 14 0 (nI (n + 1))) n) 3 n n (nwc (V.c 3) n))
      omega
    · intro c' j hc hj
      rw [vL_i' (by omega), vZp_i (by omega), vI_oo (by omega)]
    · rw [vL_i' (by omega), vZp_i (by omega), vI_oo (by omega)]
    · rw [vL_i' (by omega), vZp_i (by omega), vI_oo (by omega)]
    · intro j
      rw [vL_r, vZp_r (by omega)]
      rfl
    · intro k hk
      exact ⟨by rw [vL_e, if_neg hk]; rfl, by rw [vL_c, if_neg hk]; rfl⟩
    · unfold nQ at e ⊢
      rw [hlk.sz, tN_nI (by omega), ← e]
      exact Nat.le_succ n
    · rw [vL_i' (by omega), vZp_i (by omega), vI_ss]
    · unfold nQ
      rw [hlk.sz, tN_nI (by omega)]
      exact Nat.le_refl _
    · intro p c' hp h8 h13
      rw [vL_i' (by omega), vZp_i (by omega), vI_oo (by omega)]
    · intro p a hp
      rw [vL_r, vZp_r (by omega)]
      rfl
end CS
