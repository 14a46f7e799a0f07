/-! THE STOCK: a part is laid -/
section CL3
variable {X : ZX} {d : Nat} {st : ZS} {G : CG} {V V' : CV} {P : ZO → ZS → Prop} {x y : Int32} {n m p q r : Nat} {R : MR}
theorem upd_id {f : Nat → Int32} {v : Int32} (h : f p = v) : upd f p v = f := by
  funext q
  by_cases c : q = p
  · rw [c, pk_us, h]
  · rw [pk_un c]
theorem mA11_id (h : R.1 11 p = 2) : mA R 11 (upd (R.1 11) p 2) = R := by rw [upd_id h, mA_id]
theorem mAdd_pk {s x y w hh k o : Int32} : (mAdd R n s x y w hh k o).1 11 = upd (R.1 11) n k := rfl
/-- pieces as they hang together -/
abbrev PT (V : CV) (R : MR) (n : Nat) : Prop := PI V R n ∧ TI (R.1 12) (R.1 11) n ∧ frp (R.1 12) n
theorem CI.vr (I : CI G V) {a : Nat} (ha : a = 2 ∨ a = 3 ∨ a = 4) (hq : q < nQ V) : CI G (vR V a p (some q)) := by
  refine I.o (fun _ => rfl) rfl rfl (fun j _ => vR_oo (by omega)) ?_ ?_
  · intro k hk b q' hb hq'
    by_cases c : b = a ∧ k = p
    · rw [c.1, c.2, vR_ss] at hq'
      cases hq'
      exact hq
    · rw [vR_oo c] at hq'
      exact I.pr k hk b q' hb hq'
  · intro k q' hk hq'
    rw [vR_oo (by omega)] at hq'
    exact I.pw k q' hk hq'
theorem fP.vr (F : fP V V') {a : Nat} {o : Option Nat} (ha : a ≠ 0) : fP V (vR V' a p o) := ⟨F.i, F.w, fun j => (vR_oo (by omega)).trans (F.r j), F.e, F.s, F.u, F.qq⟩
theorem fP.vi (F : fP V V') {c : Nat} (hc : 8 ≤ c) (hc2 : c ≤ 13) : fP V (vI V' c p x) := ⟨fun c' j a b => (vI_oo (by omega)).trans (F.i c' j a b), ⟨(vI_oo (by omega)).trans F.w.1, (vI_oo (by omega)).trans F.w.2⟩, F.r, F.e, F.s, F.u, by
  have : nQ (vI V' c p x) = nQ V' := congrArg tN (vI_oo (by omega))
  rw [this]; exact F.qq⟩
theorem pot_vI {c j : Nat} (hc : c ≠ 1) : pot (vI V c j x) = pot V := by
  unfold pot
  rw [vI_oo (by omega), vI_oo (by omega), vI_oo (by omega)]
  rfl
/-- right or below comes to the parted piece p -/
theorem slot {s l t w hh : Int32} {a : Nat} (J : PT V R n) (hn : n < 400) (hp : p < n) (ha : a = 3 ∨ a = 4) (hfa : V.r a p = none) (h2 : R.1 11 p = 2) (hx : pcd G V V' n (some p) s l t w hh) : CI G (vR V' a p (some n)) ∧ fP V (vR V' a p (some n)) ∧ PT (vR V' a p (some n)) (mAdd R n s l t w hh 0 (nI p)) (n + 1) ∧ ∀ b, b ≠ a → 1 ≤ b → b ≤ 4 → (vR V' a p (some n)).r b p = V.r b p := by
  obtain ⟨I, F, h1, hq, hi, hr⟩ := hx
  have hT := TI_in (k := 0) (p := p) J.2.1 J.2.2 (by omega) hp (.inr h2) (.inr ⟨rfl, h2⟩)
  rw [upd_id h2] at hT
  have hP := PI_in (V' := vR V' a p (some n)) (s := s) (l := l) (t := t) (w := w) (hh := hh) (k := 0) (a := a) J.1 J.2.2 J.2.1 hn hp (by omega) hfa (.inr h2) (.inl rfl) h1 hq (by
    intro c q h8 h13
    rw [vR_i, hi c q h8 h13]
    by_cases e : q = n
    · rw [if_pos e, if_pos e]
      by_cases e2 : c = 13
      · rw [if_pos e2, e2]; rfl
      · rw [if_neg e2]
    · rw [if_neg e, if_neg e]
      by_cases e2 : c = 13 ∧ q = p
      · rw [if_pos e2, e2.1, e2.2, (J.1.pp p hp).v 13 (by decide) (by decide)]
        exact h2
      · rw [if_neg e2]) (by
    intro b q hb1 hb4
    by_cases e : b = a ∧ q = p
    · rw [e.1, e.2, vR_ss, if_neg (by omega), if_pos ⟨rfl, rfl⟩]
    · rw [vR_oo e, hr b q hb1 hb4]
      by_cases e2 : q = n
      · rw [if_pos e2, if_pos e2]
      · rw [if_neg e2, if_neg e2, if_neg e])
  rw [mA11_id h2] at hP
  refine ⟨I.vr (by omega) (by omega), F.vr (by omega), ⟨hP, ?_, ?_⟩, ?_⟩
  · rw [mAdd_po, mAdd_pk]; exact hT
  · rw [mAdd_po]; exact frp_in J.2.2 (.inr ⟨p, hp, rfl⟩)
  · intro b hb hb1 hb4
    rw [vR_oo (fun z => hb z.1), hr b p hb1 hb4, if_neg (by omega)]
/-- the part itself -/
theorem slot1 {s l t w hh : Int32} (J : PT V R n) (hn : n < 400) (hp : p < n) (h0 : R.1 11 p = 0) (hx : pcd G V V' n (some p) s l t w hh) : CI G (vR (vI (vI V' 13 n 1) 13 p 2) 2 p (some n)) ∧ fP V (vR (vI (vI V' 13 n 1) 13 p 2) 2 p (some n)) ∧ PT (vR (vI (vI V' 13 n 1) 13 p 2) 2 p (some n)) (mAdd (mA R 11 (upd (R.1 11) p 2)) n s l t w hh 1 (nI p)) (n + 1) ∧ ∀ b, b = 3 ∨ b = 4 → (vR (vI (vI V' 13 n 1) 13 p 2) 2 p (some n)).r b p = none := by
  obtain ⟨I, F, h1, hq, hi, hr⟩ := hx
  have hfa := (J.1.pp p hp).no (by rw [h0]; decide)
  have hT := TI_in (k := 1) (p := p) J.2.1 J.2.2 (by omega) hp (.inl h0) (.inl rfl)
  have I2 : CI G (vI (vI V' 13 n 1) 13 p 2) := CI.vi (CI.vi I (by decide)) (by decide)
  have hP := PI_in (V' := vR (vI (vI V' 13 n 1) 13 p 2) 2 p (some n)) (s := s) (l := l) (t := t) (w := w) (hh := hh) (k := 1) (a := 2) J.1 J.2.2 J.2.1 hn hp (.inl rfl) (hfa 2 (.inl rfl)) (.inl h0) (.inr rfl) (by rw [vR_i, vI_oo (by omega), vI_oo (by omega)]; exact h1) hq (by
    intro c q h8 h13
    rw [vR_i]
    by_cases e : q = n
    · rw [vI_oo (by omega), if_pos e]
      by_cases e2 : c = 13
      · rw [if_pos e2, e2, e, vI_ss]
      · rw [if_neg e2, vI_oo (fun z => e2 z.1), hi c q h8 h13, if_pos e]
    · rw [if_neg e]
      by_cases e2 : c = 13 ∧ q = p
      · rw [if_pos e2, e2.1, e2.2, vI_ss]
      · rw [if_neg e2, vI_oo e2, vI_oo (fun z => e z.2), hi c q h8 h13, if_neg e]) (by
    intro b q hb1 hb4
    by_cases e : b = 2 ∧ q = p
    · rw [e.1, e.2, vR_ss, if_neg (by omega), if_pos ⟨rfl, rfl⟩]
    · rw [vR_oo e]
      show V'.r b q = _
      rw [hr b q hb1 hb4]
      by_cases e2 : q = n
      · rw [if_pos e2, if_pos e2]
      · rw [if_neg e2, if_neg e2, if_neg e])
  refine ⟨I2.vr (.inl rfl) (show n < nQ V' by omega), ((F.vi (by decide) (by decide)).vi (by decide) (by decide)).vr (by decide), ⟨hP, ?_, ?_⟩, ?_⟩
  · rw [mAdd_po, mAdd_pk]; exact hT
  · rw [mAdd_po]; exact frp_in J.2.2 (.inr ⟨p, hp, rfl⟩)
  · intro b hb
    rw [vR_oo (by omega)]
    show V'.r b p = none
    rw [hr b p (by omega) (by omega), if_neg (by omega)]
    exact hfa b (by omega)
theorem C_layB (h : cok st G) (I : CI G V) (J : PT V R n) {w hh : Int32} (hp : p < n) (h2 : R.1 11 p = 2) (h4 : V.r 4 p = none) (hr : r < n) (hn : hh < R.1 10 p → n < 400) (K : ∀ st' G' V', Sta st G V st' G' V' → CI G' V' → fP V V' → PT V' (if hh < R.1 10 p then lay3 R n p w hh else R) (n + (if hh < R.1 10 p then 1 else 0)) → P (.inl (some (.ref (G'.A (.pc r))))) (cw st' G' V')) : AW X (d + 8) 41 98 [.ref (G.A .stk), .int w, .int hh, .ref (G.A (.pc p)), .ref (G.A (.pc r))] [] (cw st G V) P := by
  have hq := J.1.le.1
  have hlp := I.pc (show p < nQ V by omega)
  have hlr := I.pc (show r < nQ V by omega)
  have hv := (J.1.pp p hp).v
  have e12 := hv 12 (by decide) (by decide)
  have e11 := hv 11 (by decide) (by decide)
  have e10 := hv 10 (by decide) (by decide)
  have e9 := hv 9 (by decide) (by decide)
  have e8 := hv 8 (by decide) (by decide)
  by_cases c : hh < R.1 10 p
  · have c' := Int32.not_le.mpr c
    rw [if_pos c, if_pos c] at K
    simp only [E_X4_lay_0, E_X4_lay_0n, E_X4_lay_1, E_X4_lay_2, E_X4_lay_3, E_X4_lay_6, E_X4_lay_6n, E_X4_lay_7, E_X4_lay_7n, E_X4_lay_8, E_X4_lay_8n, E_X4_lay_11, E_X4_lay_11n, E_X4_lay_12, E_X4_lay_15, E_X4_lay_15n, E_X4_lay_16, E_X4_lay_17, E_X4_lay_18, E_X4_lay_21, E_X4_lay_22, E_X4_lay_25, E_X4_lay_28, E_X4_lay_29, E_X4_lay_29n, E_X4_lay_30, E_X4_lay_30n, E_X4_lay_31, E_X4_lay_31n, E_X4_lay_32, E_X4_lay_32n, E_X4_lay_33, E_X4_lay_36, E_X4_lay_36n, E_X4_lay_37, E_X4_lay_40, E_X4_lay_41, E_X4_lay_42, E_X4_lay_45, E_X4_lay_45n, E_X4_lay_47, E_X4_lay_47n, E_X4_lay_49, E_X4_lay_50, E_X4_lay_53, E_X4_lay_53n, E_X4_lay_54, E_X4_lay_55, E_X4_lay_58, E_X4_lay_58n, E_X4_lay_59, E_X4_lay_59n, E_X4_lay_61, E_X4_lay_61n, E_X4_lay_64, E_X4_lay_64n, E_X4_lay_65, E_X4_lay_68, E_X4_lay_69, E_X4_lay_72, E_X4_lay_72n, E_X4_lay_73, E_X4_lay_73n, E_X4_lay_74, E_X4_lay_74n, E_X4_lay_75, E_X4_lay_75n, E_X4_lay_76, E_X4_lay_79, E_X4_lay_80, E_X4_lay_81, E_X4_lay_81n, E_X4_lay_82, E_X4_lay_85, E_X4_lay_85n, E_X4_lay_86, E_X4_lay_89, E_X4_lay_90, E_X4_lay_91, E_X4_lay_92, E_X4_lay_95, E_X4_lay_95n, E_X4_lay_98, E_X4_lay_98n, E_X4_lay_99, E_X4_lay_102, E_X4_lay_103, E_X4_lay_106, E_X4_lay_106n, E_X4_lay_107, E_X4_lay_107n, E_X4_lay_108, E_X4_lay_108n, E_X4_lay_109, E_X4_lay_109n, E_X4_lay_110, E_X4_lay_113, E_X4_lay_113n, E_X4_lay_114, E_X4_lay_117, E_X4_lay_118, E_X4_lay_119, E_X4_lay_119n, E_X4_lay_120, E_X4_lay_123, E_X4_lay_123n, E_X4_lay_124, E_X4_lay_127, E_X4_lay_128, E_X4_lay_129, E_X4_lay_132, E_X4_lay_132n, E_X4_lay_135, E_X4_lay_135n, E_X4_lay_137, E_X4_lay_137n, zwith_some, zwith_none, zif_true, zaft_inl, Option.toList_some, Option.toList_none, List.cons_append, List.nil_append, zc1_int, zc1_ref, zc1_null, zc1_float, List.length_nil, List.length_cons, Nat.reduceAdd, Nat.reduceLeDiff, Nat.zero_add, z1and, z0and, zl00, zl01, zl02, zl03, ze00, ze10, ze20, ze30, if_true, if_false, cg_pc h hlp, e12, c', if_false, cis_stk h I.stk]
    refine C_pieceOf h I J.1.n0 hq (hn c) hp ?_
    intro st1 G1 V1 S1 hx
    rw [e8, e9, e10, e11] at hx
    have eA := S1.ex.A (.pc p) (by show (8 : Nat) ≠ 3; decide) hlp
    have eB := S1.ex.A (.pc r) (by show (8 : Nat) ≠ 3; decide) hlr
    obtain ⟨I2, F2, J2, _⟩ := slot J (hn c) hp (.inr rfl) h4 h2 hx
    rw [← eA, ← eB]
    simp only [E_X4_lay_0, E_X4_lay_0n, E_X4_lay_1, E_X4_lay_2, E_X4_lay_3, E_X4_lay_6, E_X4_lay_6n, E_X4_lay_7, E_X4_lay_7n, E_X4_lay_8, E_X4_lay_8n, E_X4_lay_11, E_X4_lay_11n, E_X4_lay_12, E_X4_lay_15, E_X4_lay_15n, E_X4_lay_16, E_X4_lay_17, E_X4_lay_18, E_X4_lay_21, E_X4_lay_22, E_X4_lay_25, E_X4_lay_28, E_X4_lay_29, E_X4_lay_29n, E_X4_lay_30, E_X4_lay_30n, E_X4_lay_31, E_X4_lay_31n, E_X4_lay_32, E_X4_lay_32n, E_X4_lay_33, E_X4_lay_36, E_X4_lay_36n, E_X4_lay_37, E_X4_lay_40, E_X4_lay_41, E_X4_lay_42, E_X4_lay_45, E_X4_lay_45n, E_X4_lay_47, E_X4_lay_47n, E_X4_lay_49, E_X4_lay_50, E_X4_lay_53, E_X4_lay_53n, E_X4_lay_54, E_X4_lay_55, E_X4_lay_58, E_X4_lay_58n, E_X4_lay_59, E_X4_lay_59n, E_X4_lay_61, E_X4_lay_61n, E_X4_lay_64, E_X4_lay_64n, E_X4_lay_65, E_X4_lay_68, E_X4_lay_69, E_X4_lay_72, E_X4_lay_72n, E_X4_lay_73, E_X4_lay_73n, E_X4_lay_74, E_X4_lay_74n, E_X4_lay_75, E_X4_lay_75n, E_X4_lay_76, E_X4_lay_79, E_X4_lay_80, E_X4_lay_81, E_X4_lay_81n, E_X4_lay_82, E_X4_lay_85, E_X4_lay_85n, E_X4_lay_86, E_X4_lay_89, E_X4_lay_90, E_X4_lay_91, E_X4_lay_92, E_X4_lay_95, E_X4_lay_95n, E_X4_lay_98, E_X4_lay_98n, E_X4_lay_99, E_X4_lay_102, E_X4_lay_103, E_X4_lay_106, E_X4_lay_106n, E_X4_lay_107, E_X4_lay_107n, E_X4_lay_108, E_X4_lay_108n, E_X4_lay_109, E_X4_lay_109n, E_X4_lay_110, E_X4_lay_113, E_X4_lay_113n, E_X4_lay_114, E_X4_lay_117, E_X4_lay_118, E_X4_lay_119, E_X4_lay_119n, E_X4_lay_120, E_X4_lay_123, E_X4_lay_123n, E_X4_lay_124, E_X4_lay_127, E_X4_lay_128, E_X4_lay_129, E_X4_lay_132, E_X4_lay_132n, E_X4_lay_135, E_X4_lay_135n, E_X4_lay_137, E_X4_lay_137n, zwith_some, zwith_none, zif_true, zaft_inl, Option.toList_some, Option.toList_none, List.cons_append, List.nil_append, zc1_int, zc1_ref, zc1_null, zc1_float, List.length_nil, List.length_cons, Nat.reduceAdd, Nat.reduceLeDiff, Nat.zero_add, z1and, z0and, zl00, zl01, zl02, zl03, ze00, ze10, ze20, ze30, if_true, if_false, cg_pc S1.ok (S1.ex.lv _ hlp), cp_pc S1.ok (S1.ex.lv _ hlp)]
    exact K st1 G1 _ ⟨S1.ex, S1.pt⟩ I2 F2 J2
  · have c' := Int32.not_lt.mp c
    rw [if_neg c, if_neg c] at K
    simp only [E_X4_lay_0, E_X4_lay_0n, E_X4_lay_1, E_X4_lay_2, E_X4_lay_3, E_X4_lay_6, E_X4_lay_6n, E_X4_lay_7, E_X4_lay_7n, E_X4_lay_8, E_X4_lay_8n, E_X4_lay_11, E_X4_lay_11n, E_X4_lay_12, E_X4_lay_15, E_X4_lay_15n, E_X4_lay_16, E_X4_lay_17, E_X4_lay_18, E_X4_lay_21, E_X4_lay_22, E_X4_lay_25, E_X4_lay_28, E_X4_lay_29, E_X4_lay_29n, E_X4_lay_30, E_X4_lay_30n, E_X4_lay_31, E_X4_lay_31n, E_X4_lay_32, E_X4_lay_32n, E_X4_lay_33, E_X4_lay_36, E_X4_lay_36n, E_X4_lay_37, E_X4_lay_40, E_X4_lay_41, E_X4_lay_42, E_X4_lay_45, E_X4_lay_45n, E_X4_lay_47, E_X4_lay_47n, E_X4_lay_49, E_X4_lay_50, E_X4_lay_53, E_X4_lay_53n, E_X4_lay_54, E_X4_lay_55, E_X4_lay_58, E_X4_lay_58n, E_X4_lay_59, E_X4_lay_59n, E_X4_lay_61, E_X4_lay_61n, E_X4_lay_64, E_X4_lay_64n, E_X4_lay_65, E_X4_lay_68, E_X4_lay_69, E_X4_lay_72, E_X4_lay_72n, E_X4_lay_73, E_X4_lay_73n, E_X4_lay_74, E_X4_lay_74n, E_X4_lay_75, E_X4_lay_75n, E_X4_lay_76, E_X4_lay_79, E_X4_lay_80, E_X4_lay_81, E_X4_lay_81n, E_X4_lay_82, E_X4_lay_85, E_X4_lay_85n, E_X4_lay_86, E_X4_lay_89, E_X4_lay_90, E_X4_lay_91, E_X4_lay_92, E_X4_lay_95, E_X4_lay_95n, E_X4_lay_98, E_X4_lay_98n, E_X4_lay_99, E_X4_lay_102, E_X4_lay_103, E_X4_lay_106, E_X4_lay_106n, E_X4_lay_107, E_X4_lay_107n, E_X4_lay_108, E_X4_lay_108n, E_X4_lay_109, E_X4_lay_109n, E_X4_lay_110, E_X4_lay_113, E_X4_lay_113n, E_X4_lay_114, E_X4_lay_117, E_X4_lay_118, E_X4_lay_119, E_X4_lay_119n, E_X4_lay_120, E_X4_lay_123, E_X4_lay_123n, E_X4_lay_124, E_X4_lay_127, E_X4_lay_128, E_X4_lay_129, E_X4_lay_132, E_X4_lay_132n, E_X4_lay_135, E_X4_lay_135n, E_X4_lay_137, E_X4_lay_137n, zwith_some, zwith_none, zif_true, zaft_inl, Option.toList_some, Option.toList_none, List.cons_append, List.nil_append, zc1_int, zc1_ref, zc1_null, zc1_float, List.length_nil, List.length_cons, Nat.reduceAdd, Nat.reduceLeDiff, Nat.zero_add, z1and, z0and, zl00, zl01, zl02, zl03, ze00, ze10, ze20, ze30, if_true, if_false, cg_pc h hlp, e12, c', if_true]
    exact K st G V (Sta.same h (Nat.le_refl _)) I fP.refl J
theorem C_layR (h : cok st G) (I : CI G V) (J : PT V R n) {w hh : Int32} (hp : p < n) (h2 : R.1 11 p = 2) (h3 : V.r 3 p = none) (h4 : V.r 4 p = none) (hr : r < n) (hn : n + ((if w < R.1 9 p then 1 else 0) + (if hh < R.1 10 p then 1 else 0)) ≤ 400) (K : ∀ st' G' V', Sta st G V st' G' V' → CI G' V' → fP V V' → PT V' (if w < R.1 9 p then (if hh < R.1 10 p then lay3 (lay2 R n p w hh) (n + 1) p w hh else lay2 R n p w hh) else (if hh < R.1 10 p then lay3 R n p w hh else R)) (n + ((if w < R.1 9 p then 1 else 0) + (if hh < R.1 10 p then 1 else 0))) → P (.inl (some (.ref (G'.A (.pc r))))) (cw st' G' V')) : AW X (d + 8) 41 64 [.ref (G.A .stk), .int w, .int hh, .ref (G.A (.pc p)), .ref (G.A (.pc r))] [] (cw st G V) P := by
  have hq := J.1.le.1
  have hlp := I.pc (show p < nQ V by omega)
  have hlr := I.pc (show r < nQ V by omega)
  have hv := (J.1.pp p hp).v
  have e12 := hv 12 (by decide) (by decide)
  have e11 := hv 11 (by decide) (by decide)
  have e10 := hv 10 (by decide) (by decide)
  have e9 := hv 9 (by decide) (by decide)
  have e8 := hv 8 (by decide) (by decide)
  by_cases c : w < R.1 9 p
  · have c' := Int32.not_le.mpr c
    rw [if_pos c] at hn
    simp only [if_pos c] at K
    simp only [E_X4_lay_0, E_X4_lay_0n, E_X4_lay_1, E_X4_lay_2, E_X4_lay_3, E_X4_lay_6, E_X4_lay_6n, E_X4_lay_7, E_X4_lay_7n, E_X4_lay_8, E_X4_lay_8n, E_X4_lay_11, E_X4_lay_11n, E_X4_lay_12, E_X4_lay_15, E_X4_lay_15n, E_X4_lay_16, E_X4_lay_17, E_X4_lay_18, E_X4_lay_21, E_X4_lay_22, E_X4_lay_25, E_X4_lay_28, E_X4_lay_29, E_X4_lay_29n, E_X4_lay_30, E_X4_lay_30n, E_X4_lay_31, E_X4_lay_31n, E_X4_lay_32, E_X4_lay_32n, E_X4_lay_33, E_X4_lay_36, E_X4_lay_36n, E_X4_lay_37, E_X4_lay_40, E_X4_lay_41, E_X4_lay_42, E_X4_lay_45, E_X4_lay_45n, E_X4_lay_47, E_X4_lay_47n, E_X4_lay_49, E_X4_lay_50, E_X4_lay_53, E_X4_lay_53n, E_X4_lay_54, E_X4_lay_55, E_X4_lay_58, E_X4_lay_58n, E_X4_lay_59, E_X4_lay_59n, E_X4_lay_61, E_X4_lay_61n, E_X4_lay_64, E_X4_lay_64n, E_X4_lay_65, E_X4_lay_68, E_X4_lay_69, E_X4_lay_72, E_X4_lay_72n, E_X4_lay_73, E_X4_lay_73n, E_X4_lay_74, E_X4_lay_74n, E_X4_lay_75, E_X4_lay_75n, E_X4_lay_76, E_X4_lay_79, E_X4_lay_80, E_X4_lay_81, E_X4_lay_81n, E_X4_lay_82, E_X4_lay_85, E_X4_lay_85n, E_X4_lay_86, E_X4_lay_89, E_X4_lay_90, E_X4_lay_91, E_X4_lay_92, E_X4_lay_95, E_X4_lay_95n, E_X4_lay_99, E_X4_lay_102, E_X4_lay_103, E_X4_lay_106, E_X4_lay_106n, E_X4_lay_107, E_X4_lay_107n, E_X4_lay_108, E_X4_lay_108n, E_X4_lay_109, E_X4_lay_109n, E_X4_lay_110, E_X4_lay_113, E_X4_lay_113n, E_X4_lay_114, E_X4_lay_117, E_X4_lay_118, E_X4_lay_119, E_X4_lay_119n, E_X4_lay_120, E_X4_lay_123, E_X4_lay_123n, E_X4_lay_124, E_X4_lay_127, E_X4_lay_128, E_X4_lay_129, E_X4_lay_132, E_X4_lay_132n, E_X4_lay_135, E_X4_lay_135n, E_X4_lay_137, E_X4_lay_137n, zwith_some, zwith_none, zif_true, zaft_inl, Option.toList_some, Option.toList_none, List.cons_append, List.nil_append, zc1_int, zc1_ref, zc1_null, zc1_float, List.length_nil, List.length_cons, Nat.reduceAdd, Nat.reduceLeDiff, Nat.zero_add, z1and, z0and, zl00, zl01, zl02, zl03, ze00, ze10, ze20, ze30, if_true, if_false, cg_pc h hlp, e11, c', if_false, cis_stk h I.stk]
    refine C_pieceOf h I J.1.n0 hq (by omega) hp ?_
    intro st1 G1 V1 S1 hx
    rw [e8, e9, e10] at hx
    have eA := S1.ex.A (.pc p) (by show (8 : Nat) ≠ 3; decide) hlp
    have eB := S1.ex.A (.pc r) (by show (8 : Nat) ≠ 3; decide) hlr
    have eC := S1.ex.A .stk (by decide) I.stk
    obtain ⟨I2, F2, J2, hs⟩ := slot J (by omega) hp (.inl rfl) h3 h2 hx
    rw [← eA, ← eB, ← eC]
    simp only [E_X4_lay_0, E_X4_lay_0n, E_X4_lay_1, E_X4_lay_2, E_X4_lay_3, E_X4_lay_6, E_X4_lay_6n, E_X4_lay_7, E_X4_lay_7n, E_X4_lay_8, E_X4_lay_8n, E_X4_lay_11, E_X4_lay_11n, E_X4_lay_12, E_X4_lay_15, E_X4_lay_15n, E_X4_lay_16, E_X4_lay_17, E_X4_lay_18, E_X4_lay_21, E_X4_lay_22, E_X4_lay_25, E_X4_lay_28, E_X4_lay_29, E_X4_lay_29n, E_X4_lay_30, E_X4_lay_30n, E_X4_lay_31, E_X4_lay_31n, E_X4_lay_32, E_X4_lay_32n, E_X4_lay_33, E_X4_lay_36, E_X4_lay_36n, E_X4_lay_37, E_X4_lay_40, E_X4_lay_41, E_X4_lay_42, E_X4_lay_45, E_X4_lay_45n, E_X4_lay_47, E_X4_lay_47n, E_X4_lay_49, E_X4_lay_50, E_X4_lay_53, E_X4_lay_53n, E_X4_lay_54, E_X4_lay_55, E_X4_lay_58, E_X4_lay_58n, E_X4_lay_59, E_X4_lay_59n, E_X4_lay_61, E_X4_lay_61n, E_X4_lay_64, E_X4_lay_64n, E_X4_lay_65, E_X4_lay_68, E_X4_lay_69, E_X4_lay_72, E_X4_lay_72n, E_X4_lay_73, E_X4_lay_73n, E_X4_lay_74, E_X4_lay_74n, E_X4_lay_75, E_X4_lay_75n, E_X4_lay_76, E_X4_lay_79, E_X4_lay_80, E_X4_lay_81, E_X4_lay_81n, E_X4_lay_82, E_X4_lay_85, E_X4_lay_85n, E_X4_lay_86, E_X4_lay_89, E_X4_lay_90, E_X4_lay_91, E_X4_lay_92, E_X4_lay_95, E_X4_lay_95n, E_X4_lay_99, E_X4_lay_102, E_X4_lay_103, E_X4_lay_106, E_X4_lay_106n, E_X4_lay_107, E_X4_lay_107n, E_X4_lay_108, E_X4_lay_108n, E_X4_lay_109, E_X4_lay_109n, E_X4_lay_110, E_X4_lay_113, E_X4_lay_113n, E_X4_lay_114, E_X4_lay_117, E_X4_lay_118, E_X4_lay_119, E_X4_lay_119n, E_X4_lay_120, E_X4_lay_123, E_X4_lay_123n, E_X4_lay_124, E_X4_lay_127, E_X4_lay_128, E_X4_lay_129, E_X4_lay_132, E_X4_lay_132n, E_X4_lay_135, E_X4_lay_135n, E_X4_lay_137, E_X4_lay_137n, zwith_some, zwith_none, zif_true, zaft_inl, Option.toList_some, Option.toList_none, List.cons_append, List.nil_append, zc1_int, zc1_ref, zc1_null, zc1_float, List.length_nil, List.length_cons, Nat.reduceAdd, Nat.reduceLeDiff, Nat.zero_add, z1and, z0and, zl00, zl01, zl02, zl03, ze00, ze10, ze20, ze30, if_true, if_false, cg_pc S1.ok (S1.ex.lv _ hlp), cp_pc S1.ok (S1.ex.lv _ hlp)]
    have f10 : (lay2 R n p w hh).1 10 p = R.1 10 p := mAdd_f hp
    have f11 : (lay2 R n p w hh).1 11 p = 2 := (mAdd_f (j := 11) hp).trans h2
    refine C_layB (R := lay2 R n p w hh) (n := n + 1) S1.ok I2 J2 (by omega) f11 ((hs 4 (by decide) (by decide) (by decide)).trans h4) (by omega) (fun z => ?_) ?_
    · rw [f10] at z
      rw [if_pos z] at hn
      omega
    · intro st2 G2 V2 S2 I3 F3 J3
      rw [f10, Nat.add_assoc] at J3
      exact K st2 G2 V2 (Sta.trans ⟨S1.ex, S1.pt⟩ S2) I3 (F2.trans F3) J3
  · have c' := Int32.not_lt.mp c
    rw [if_neg c] at hn
    simp only [if_neg c, Nat.zero_add] at K
    simp only [E_X4_lay_0, E_X4_lay_0n, E_X4_lay_1, E_X4_lay_2, E_X4_lay_3, E_X4_lay_6, E_X4_lay_6n, E_X4_lay_7, E_X4_lay_7n, E_X4_lay_8, E_X4_lay_8n, E_X4_lay_11, E_X4_lay_11n, E_X4_lay_12, E_X4_lay_15, E_X4_lay_15n, E_X4_lay_16, E_X4_lay_17, E_X4_lay_18, E_X4_lay_21, E_X4_lay_22, E_X4_lay_25, E_X4_lay_28, E_X4_lay_29, E_X4_lay_29n, E_X4_lay_30, E_X4_lay_30n, E_X4_lay_31, E_X4_lay_31n, E_X4_lay_32, E_X4_lay_32n, E_X4_lay_33, E_X4_lay_36, E_X4_lay_36n, E_X4_lay_37, E_X4_lay_40, E_X4_lay_41, E_X4_lay_42, E_X4_lay_45, E_X4_lay_45n, E_X4_lay_47, E_X4_lay_47n, E_X4_lay_49, E_X4_lay_50, E_X4_lay_53, E_X4_lay_53n, E_X4_lay_54, E_X4_lay_55, E_X4_lay_58, E_X4_lay_58n, E_X4_lay_59, E_X4_lay_59n, E_X4_lay_61, E_X4_lay_61n, E_X4_lay_64, E_X4_lay_64n, E_X4_lay_65, E_X4_lay_68, E_X4_lay_69, E_X4_lay_72, E_X4_lay_72n, E_X4_lay_73, E_X4_lay_73n, E_X4_lay_74, E_X4_lay_74n, E_X4_lay_75, E_X4_lay_75n, E_X4_lay_76, E_X4_lay_79, E_X4_lay_80, E_X4_lay_81, E_X4_lay_81n, E_X4_lay_82, E_X4_lay_85, E_X4_lay_85n, E_X4_lay_86, E_X4_lay_89, E_X4_lay_90, E_X4_lay_91, E_X4_lay_92, E_X4_lay_95, E_X4_lay_95n, E_X4_lay_99, E_X4_lay_102, E_X4_lay_103, E_X4_lay_106, E_X4_lay_106n, E_X4_lay_107, E_X4_lay_107n, E_X4_lay_108, E_X4_lay_108n, E_X4_lay_109, E_X4_lay_109n, E_X4_lay_110, E_X4_lay_113, E_X4_lay_113n, E_X4_lay_114, E_X4_lay_117, E_X4_lay_118, E_X4_lay_119, E_X4_lay_119n, E_X4_lay_120, E_X4_lay_123, E_X4_lay_123n, E_X4_lay_124, E_X4_lay_127, E_X4_lay_128, E_X4_lay_129, E_X4_lay_132, E_X4_lay_132n, E_X4_lay_135, E_X4_lay_135n, E_X4_lay_137, E_X4_lay_137n, zwith_some, zwith_none, zif_true, zaft_inl, Option.toList_some, Option.toList_none, List.cons_append, List.nil_append, zc1_int, zc1_ref, zc1_null, zc1_float, List.length_nil, List.length_cons, Nat.reduceAdd, Nat.reduceLeDiff, Nat.zero_add, z1and, z0and, zl00, zl01, zl02, zl03, ze00, ze10, ze20, ze30, if_true, if_false, cg_pc h hlp, e11, c', if_true]
    refine C_layB h I J hp h2 h4 hr (fun z => ?_) K
    rw [if_pos z] at hn
    omega
theorem C_pOf (h : cok st G) (hl : G.live (.pc p)) (e11 : V.i 11 p = R.1 9 p) (e12 : V.i 12 p = R.1 10 p) {w hh : Int32} : AC X (d + 1) 42 [.ref (G.A (.pc p)), .int w, .int hh] (cw st G V) P = P (.inl (some (.int (nI (layN R p w hh))))) (cw st G V) := by
  rw [A_X4_piecesOf rfl]
  unfold layN
  simp only [E_X4_piecesOf_0, E_X4_piecesOf_1, E_X4_piecesOf_1n, E_X4_piecesOf_2, E_X4_piecesOf_5, E_X4_piecesOf_6, E_X4_piecesOf_9, E_X4_piecesOf_10, E_X4_piecesOf_13, E_X4_piecesOf_14, E_X4_piecesOf_15, E_X4_piecesOf_15n, E_X4_piecesOf_16, E_X4_piecesOf_19, E_X4_piecesOf_20, E_X4_piecesOf_23, E_X4_piecesOf_24, E_X4_piecesOf_27, E_X4_piecesOf_28, E_X4_piecesOf_29, zwith_some, zwith_none, zif_true, zaft_inl, Option.toList_some, Option.toList_none, List.cons_append, List.nil_append, zc1_int, zc1_ref, zc1_null, zc1_float, List.length_nil, List.length_cons, Nat.reduceAdd, Nat.reduceLeDiff, Nat.zero_add, z1and, z0and, zl00, zl01, zl02, zl03, ze00, ze10, ze20, ze30, if_true, if_false, cg_pc h hl, e11, e12, gt_if]
  by_cases c1 : w < R.1 9 p
  · by_cases c2 : hh < R.1 10 p
    · simp only [c1, c2, if_true]; rfl
    · simp only [c1, c2, if_true, if_false]; rfl
  · by_cases c2 : hh < R.1 10 p
    · simp only [c1, c2, if_true, if_false]; rfl
    · simp only [c1, c2, if_false]; rfl
theorem C_lay (h : cok st G) (I : CI G V) (J : PT V R n) {w hh : Int32} (K0 : layP R n w hh = none → P (.inl (some .null)) (cw st G V)) (K : ∀ p st' G' V', layP R n w hh = some p → Sta st G V st' G' V' → CI G' V' → fP V V' → PT V' (layX R n p w hh) (n + layN R p w hh) → P (.inl (some (.ref (G'.A (.pc n))))) (cw st' G' V')) : AC X (d + 9) 41 [.ref (G.A .stk), .int w, .int hh] (cw st G V) P := by
  have hq := J.1.le.1
  have h400 := J.1.le.2
  have hb := fun {d} {P} => C_best (X := X) (d := d) (P := P) (w := w) (hh := hh) h I J.1
  rw [A_X4_lay]
  simp only [E_X4_lay_0, E_X4_lay_0n, E_X4_lay_1, E_X4_lay_2, E_X4_lay_3, E_X4_lay_6, E_X4_lay_6n, E_X4_lay_7, E_X4_lay_7n, E_X4_lay_8, E_X4_lay_8n, E_X4_lay_11, E_X4_lay_11n, E_X4_lay_12, E_X4_lay_15, E_X4_lay_15n, E_X4_lay_16, E_X4_lay_17, E_X4_lay_18, E_X4_lay_21, E_X4_lay_22, E_X4_lay_25, E_X4_lay_28, E_X4_lay_29, E_X4_lay_29n, E_X4_lay_30, E_X4_lay_30n, E_X4_lay_31, E_X4_lay_31n, E_X4_lay_32, E_X4_lay_32n, E_X4_lay_33, E_X4_lay_36, E_X4_lay_36n, E_X4_lay_37, E_X4_lay_40, E_X4_lay_41, E_X4_lay_42, E_X4_lay_45, E_X4_lay_45n, E_X4_lay_47, E_X4_lay_47n, E_X4_lay_49, E_X4_lay_50, E_X4_lay_53, E_X4_lay_53n, E_X4_lay_54, E_X4_lay_55, E_X4_lay_58, E_X4_lay_58n, E_X4_lay_59, E_X4_lay_59n, E_X4_lay_61, E_X4_lay_61n, E_X4_lay_65, E_X4_lay_68, E_X4_lay_69, E_X4_lay_72, E_X4_lay_72n, E_X4_lay_73, E_X4_lay_73n, E_X4_lay_74, E_X4_lay_74n, E_X4_lay_75, E_X4_lay_75n, E_X4_lay_76, E_X4_lay_79, E_X4_lay_80, E_X4_lay_81, E_X4_lay_81n, E_X4_lay_82, E_X4_lay_85, E_X4_lay_85n, E_X4_lay_86, E_X4_lay_89, E_X4_lay_90, E_X4_lay_91, E_X4_lay_92, E_X4_lay_95, E_X4_lay_95n, E_X4_lay_99, E_X4_lay_102, E_X4_lay_103, E_X4_lay_106, E_X4_lay_106n, E_X4_lay_107, E_X4_lay_107n, E_X4_lay_108, E_X4_lay_108n, E_X4_lay_109, E_X4_lay_109n, E_X4_lay_110, E_X4_lay_113, E_X4_lay_113n, E_X4_lay_114, E_X4_lay_117, E_X4_lay_118, E_X4_lay_119, E_X4_lay_119n, E_X4_lay_120, E_X4_lay_123, E_X4_lay_123n, E_X4_lay_124, E_X4_lay_127, E_X4_lay_128, E_X4_lay_129, E_X4_lay_132, E_X4_lay_132n, E_X4_lay_135, E_X4_lay_135n, E_X4_lay_137, E_X4_lay_137n, zwith_some, zwith_none, zif_true, zaft_inl, Option.toList_some, Option.toList_none, List.cons_append, List.nil_append, zc1_int, zc1_ref, zc1_null, zc1_float, List.length_nil, List.length_cons, Nat.reduceAdd, Nat.reduceLeDiff, Nat.zero_add, z1and, z0and, zl00, zl01, zl02, zl03, ze00, ze10, ze20, ze30, if_true, if_false, cis_stk h I.stk, hb]
  cases e : bst R w hh n with
  | none =>
    simp only [rfv_n, E_X4_lay_0, E_X4_lay_0n, E_X4_lay_1, E_X4_lay_2, E_X4_lay_3, E_X4_lay_6, E_X4_lay_6n, E_X4_lay_7, E_X4_lay_7n, E_X4_lay_8, E_X4_lay_8n, E_X4_lay_11, E_X4_lay_11n, E_X4_lay_12, E_X4_lay_15, E_X4_lay_15n, E_X4_lay_16, E_X4_lay_17, E_X4_lay_18, E_X4_lay_21, E_X4_lay_22, E_X4_lay_25, E_X4_lay_28, E_X4_lay_29, E_X4_lay_29n, E_X4_lay_30, E_X4_lay_30n, E_X4_lay_31, E_X4_lay_31n, E_X4_lay_32, E_X4_lay_32n, E_X4_lay_33, E_X4_lay_36, E_X4_lay_36n, E_X4_lay_37, E_X4_lay_40, E_X4_lay_41, E_X4_lay_42, E_X4_lay_45, E_X4_lay_45n, E_X4_lay_47, E_X4_lay_47n, E_X4_lay_49, E_X4_lay_50, E_X4_lay_53, E_X4_lay_53n, E_X4_lay_54, E_X4_lay_55, E_X4_lay_58, E_X4_lay_58n, E_X4_lay_59, E_X4_lay_59n, E_X4_lay_61, E_X4_lay_61n, E_X4_lay_65, E_X4_lay_68, E_X4_lay_69, E_X4_lay_72, E_X4_lay_72n, E_X4_lay_73, E_X4_lay_73n, E_X4_lay_74, E_X4_lay_74n, E_X4_lay_75, E_X4_lay_75n, E_X4_lay_76, E_X4_lay_79, E_X4_lay_80, E_X4_lay_81, E_X4_lay_81n, E_X4_lay_82, E_X4_lay_85, E_X4_lay_85n, E_X4_lay_86, E_X4_lay_89, E_X4_lay_90, E_X4_lay_91, E_X4_lay_92, E_X4_lay_95, E_X4_lay_95n, E_X4_lay_99, E_X4_lay_102, E_X4_lay_103, E_X4_lay_106, E_X4_lay_106n, E_X4_lay_107, E_X4_lay_107n, E_X4_lay_108, E_X4_lay_108n, E_X4_lay_109, E_X4_lay_109n, E_X4_lay_110, E_X4_lay_113, E_X4_lay_113n, E_X4_lay_114, E_X4_lay_117, E_X4_lay_118, E_X4_lay_119, E_X4_lay_119n, E_X4_lay_120, E_X4_lay_123, E_X4_lay_123n, E_X4_lay_124, E_X4_lay_127, E_X4_lay_128, E_X4_lay_129, E_X4_lay_132, E_X4_lay_132n, E_X4_lay_135, E_X4_lay_135n, E_X4_lay_137, E_X4_lay_137n, zwith_some, zwith_none, zif_true, zaft_inl, Option.toList_some, Option.toList_none, List.cons_append, List.nil_append, zc1_int, zc1_ref, zc1_null, zc1_float, List.length_nil, List.length_cons, Nat.reduceAdd, Nat.reduceLeDiff, Nat.zero_add, z1and, z0and, zl00, zl01, zl02, zl03, ze00, ze10, ze20, ze30, if_true, if_false]
    refine K0 ?_
    unfold layP
    rw [e]
  | some p =>
    obtain ⟨hp, h0, _⟩ := bst_lt n p e
    have hlp := I.pc (show p < nQ V by omega)
    have hv := (J.1.pp p hp).v
    have e12 := hv 12 (by decide) (by decide)
    have e11 := hv 11 (by decide) (by decide)
    have e10 := hv 10 (by decide) (by decide)
    have e9 := hv 9 (by decide) (by decide)
    have e8 := hv 8 (by decide) (by decide)
    have hpo := fun {d} {P} => C_pOf (X := X) (d := d) (P := P) (R := R) (w := w) (hh := hh) h hlp e11 e12
    have hN : layN R p w hh = 1 + ((if w < R.1 9 p then 1 else 0) + (if hh < R.1 10 p then 1 else 0)) := by
      unfold layN
      rw [Nat.add_assoc]
    have hP : layP R n w hh = if 400 < n + layN R p w hh then none else some p := by
      unfold layP
      rw [e]
    have hNb : layN R p w hh ≤ 3 := by
      unfold layN
      split <;> split <;> omega
    simp only [rfv_s, E_X4_lay_0, E_X4_lay_0n, E_X4_lay_1, E_X4_lay_2, E_X4_lay_3, E_X4_lay_6, E_X4_lay_6n, E_X4_lay_7, E_X4_lay_7n, E_X4_lay_8, E_X4_lay_8n, E_X4_lay_11, E_X4_lay_11n, E_X4_lay_12, E_X4_lay_15, E_X4_lay_15n, E_X4_lay_16, E_X4_lay_17, E_X4_lay_18, E_X4_lay_21, E_X4_lay_22, E_X4_lay_25, E_X4_lay_28, E_X4_lay_29, E_X4_lay_29n, E_X4_lay_30, E_X4_lay_30n, E_X4_lay_31, E_X4_lay_31n, E_X4_lay_32, E_X4_lay_32n, E_X4_lay_33, E_X4_lay_36, E_X4_lay_36n, E_X4_lay_37, E_X4_lay_40, E_X4_lay_41, E_X4_lay_42, E_X4_lay_45, E_X4_lay_45n, E_X4_lay_47, E_X4_lay_47n, E_X4_lay_49, E_X4_lay_50, E_X4_lay_53, E_X4_lay_53n, E_X4_lay_54, E_X4_lay_55, E_X4_lay_58, E_X4_lay_58n, E_X4_lay_59, E_X4_lay_59n, E_X4_lay_61, E_X4_lay_61n, E_X4_lay_65, E_X4_lay_68, E_X4_lay_69, E_X4_lay_72, E_X4_lay_72n, E_X4_lay_73, E_X4_lay_73n, E_X4_lay_74, E_X4_lay_74n, E_X4_lay_75, E_X4_lay_75n, E_X4_lay_76, E_X4_lay_79, E_X4_lay_80, E_X4_lay_81, E_X4_lay_81n, E_X4_lay_82, E_X4_lay_85, E_X4_lay_85n, E_X4_lay_86, E_X4_lay_89, E_X4_lay_90, E_X4_lay_91, E_X4_lay_92, E_X4_lay_95, E_X4_lay_95n, E_X4_lay_99, E_X4_lay_102, E_X4_lay_103, E_X4_lay_106, E_X4_lay_106n, E_X4_lay_107, E_X4_lay_107n, E_X4_lay_108, E_X4_lay_108n, E_X4_lay_109, E_X4_lay_109n, E_X4_lay_110, E_X4_lay_113, E_X4_lay_113n, E_X4_lay_114, E_X4_lay_117, E_X4_lay_118, E_X4_lay_119, E_X4_lay_119n, E_X4_lay_120, E_X4_lay_123, E_X4_lay_123n, E_X4_lay_124, E_X4_lay_127, E_X4_lay_128, E_X4_lay_129, E_X4_lay_132, E_X4_lay_132n, E_X4_lay_135, E_X4_lay_135n, E_X4_lay_137, E_X4_lay_137n, zwith_some, zwith_none, zif_true, zaft_inl, Option.toList_some, Option.toList_none, List.cons_append, List.nil_append, zc1_int, zc1_ref, zc1_null, zc1_float, List.length_nil, List.length_cons, Nat.reduceAdd, Nat.reduceLeDiff, Nat.zero_add, z1and, z0and, zl00, zl01, zl02, zl03, ze00, ze10, ze20, ze30, if_true, if_false, cg_stk h I.stk, J.1.n0, hpo, nI_add, l400]
    by_cases c : 400 < n + layN R p w hh
    · rw [if_neg (show ¬ nI (n + layN R p w hh) ≤ nI 400 from nI_ge c (by omega))]
      rw [if_pos c] at hP
      exact K0 hP
    · rw [if_pos (show nI (n + layN R p w hh) ≤ nI 400 from nI_le (by omega) (by decide))]
      rw [if_neg c] at hP
      simp only [E_X4_lay_0, E_X4_lay_0n, E_X4_lay_1, E_X4_lay_2, E_X4_lay_3, E_X4_lay_6, E_X4_lay_6n, E_X4_lay_7, E_X4_lay_7n, E_X4_lay_8, E_X4_lay_8n, E_X4_lay_11, E_X4_lay_11n, E_X4_lay_12, E_X4_lay_15, E_X4_lay_15n, E_X4_lay_16, E_X4_lay_17, E_X4_lay_18, E_X4_lay_21, E_X4_lay_22, E_X4_lay_25, E_X4_lay_28, E_X4_lay_29, E_X4_lay_29n, E_X4_lay_30, E_X4_lay_30n, E_X4_lay_31, E_X4_lay_31n, E_X4_lay_32, E_X4_lay_32n, E_X4_lay_33, E_X4_lay_36, E_X4_lay_36n, E_X4_lay_37, E_X4_lay_40, E_X4_lay_41, E_X4_lay_42, E_X4_lay_45, E_X4_lay_45n, E_X4_lay_47, E_X4_lay_47n, E_X4_lay_49, E_X4_lay_50, E_X4_lay_53, E_X4_lay_53n, E_X4_lay_54, E_X4_lay_55, E_X4_lay_58, E_X4_lay_58n, E_X4_lay_59, E_X4_lay_59n, E_X4_lay_61, E_X4_lay_61n, E_X4_lay_65, E_X4_lay_68, E_X4_lay_69, E_X4_lay_72, E_X4_lay_72n, E_X4_lay_73, E_X4_lay_73n, E_X4_lay_74, E_X4_lay_74n, E_X4_lay_75, E_X4_lay_75n, E_X4_lay_76, E_X4_lay_79, E_X4_lay_80, E_X4_lay_81, E_X4_lay_81n, E_X4_lay_82, E_X4_lay_85, E_X4_lay_85n, E_X4_lay_86, E_X4_lay_89, E_X4_lay_90, E_X4_lay_91, E_X4_lay_92, E_X4_lay_95, E_X4_lay_95n, E_X4_lay_99, E_X4_lay_102, E_X4_lay_103, E_X4_lay_106, E_X4_lay_106n, E_X4_lay_107, E_X4_lay_107n, E_X4_lay_108, E_X4_lay_108n, E_X4_lay_109, E_X4_lay_109n, E_X4_lay_110, E_X4_lay_113, E_X4_lay_113n, E_X4_lay_114, E_X4_lay_117, E_X4_lay_118, E_X4_lay_119, E_X4_lay_119n, E_X4_lay_120, E_X4_lay_123, E_X4_lay_123n, E_X4_lay_124, E_X4_lay_127, E_X4_lay_128, E_X4_lay_129, E_X4_lay_132, E_X4_lay_132n, E_X4_lay_135, E_X4_lay_135n, E_X4_lay_137, E_X4_lay_137n, zwith_some, zwith_none, zif_true, zaft_inl, Option.toList_some, Option.toList_none, List.cons_append, List.nil_append, zc1_int, zc1_ref, zc1_null, zc1_float, List.length_nil, List.length_cons, Nat.reduceAdd, Nat.reduceLeDiff, Nat.zero_add, z1and, z0and, zl00, zl01, zl02, zl03, ze00, ze10, ze20, ze30, if_true, if_false, cg_pc h hlp, cis_stk h I.stk]
      refine C_pieceOf h I J.1.n0 hq (by omega) hp ?_
      intro st1 G1 V1 S1 hx
      rw [e8, e9, e10] at hx
      have eA := S1.ex.A (.pc p) (by show (8 : Nat) ≠ 3; decide) hlp
      have eC := S1.ex.A .stk (by decide) I.stk
      have hln : G1.live (.pc n) := hx.1.pc (by have := hx.2.2.2.1; omega)
      obtain ⟨I2, F2, J2, hs⟩ := slot1 J (by omega) hp h0 hx
      rw [← eA, ← eC]
      simp only [E_X4_lay_0, E_X4_lay_0n, E_X4_lay_1, E_X4_lay_2, E_X4_lay_3, E_X4_lay_6, E_X4_lay_6n, E_X4_lay_7, E_X4_lay_7n, E_X4_lay_8, E_X4_lay_8n, E_X4_lay_11, E_X4_lay_11n, E_X4_lay_12, E_X4_lay_15, E_X4_lay_15n, E_X4_lay_16, E_X4_lay_17, E_X4_lay_18, E_X4_lay_21, E_X4_lay_22, E_X4_lay_25, E_X4_lay_28, E_X4_lay_29, E_X4_lay_29n, E_X4_lay_30, E_X4_lay_30n, E_X4_lay_31, E_X4_lay_31n, E_X4_lay_32, E_X4_lay_32n, E_X4_lay_33, E_X4_lay_36, E_X4_lay_36n, E_X4_lay_37, E_X4_lay_40, E_X4_lay_41, E_X4_lay_42, E_X4_lay_45, E_X4_lay_45n, E_X4_lay_47, E_X4_lay_47n, E_X4_lay_49, E_X4_lay_50, E_X4_lay_53, E_X4_lay_53n, E_X4_lay_54, E_X4_lay_55, E_X4_lay_58, E_X4_lay_58n, E_X4_lay_59, E_X4_lay_59n, E_X4_lay_61, E_X4_lay_61n, E_X4_lay_65, E_X4_lay_68, E_X4_lay_69, E_X4_lay_72, E_X4_lay_72n, E_X4_lay_73, E_X4_lay_73n, E_X4_lay_74, E_X4_lay_74n, E_X4_lay_75, E_X4_lay_75n, E_X4_lay_76, E_X4_lay_79, E_X4_lay_80, E_X4_lay_81, E_X4_lay_81n, E_X4_lay_82, E_X4_lay_85, E_X4_lay_85n, E_X4_lay_86, E_X4_lay_89, E_X4_lay_90, E_X4_lay_91, E_X4_lay_92, E_X4_lay_95, E_X4_lay_95n, E_X4_lay_99, E_X4_lay_102, E_X4_lay_103, E_X4_lay_106, E_X4_lay_106n, E_X4_lay_107, E_X4_lay_107n, E_X4_lay_108, E_X4_lay_108n, E_X4_lay_109, E_X4_lay_109n, E_X4_lay_110, E_X4_lay_113, E_X4_lay_113n, E_X4_lay_114, E_X4_lay_117, E_X4_lay_118, E_X4_lay_119, E_X4_lay_119n, E_X4_lay_120, E_X4_lay_123, E_X4_lay_123n, E_X4_lay_124, E_X4_lay_127, E_X4_lay_128, E_X4_lay_129, E_X4_lay_132, E_X4_lay_132n, E_X4_lay_135, E_X4_lay_135n, E_X4_lay_137, E_X4_lay_137n, zwith_some, zwith_none, zif_true, zaft_inl, Option.toList_some, Option.toList_none, List.cons_append, List.nil_append, zc1_int, zc1_ref, zc1_null, zc1_float, List.length_nil, List.length_cons, Nat.reduceAdd, Nat.reduceLeDiff, Nat.zero_add, z1and, z0and, zl00, zl01, zl02, zl03, ze00, ze10, ze20, ze30, if_true, if_false, cg_pc S1.ok (S1.ex.lv _ hlp), cp_pc S1.ok (S1.ex.lv _ hlp), cg_pc S1.ok hln, cp_pc S1.ok hln]
      have f10 : (lay1 R n p w hh).1 10 p = R.1 10 p := lay1_f hp (by decide)
      have f9 : (lay1 R n p w hh).1 9 p = R.1 9 p := lay1_f hp (by decide)
      have f11 : (lay1 R n p w hh).1 11 p = 2 := (mAdd_f (j := 11) hp).trans pk_us
      refine C_layR (R := lay1 R n p w hh) (n := n + 1) S1.ok I2 J2 (by omega) f11 (hs 3 (.inl rfl)) (hs 4 (.inr rfl)) (by omega) (by rw [f9, f10]; omega) ?_
      intro st2 G2 V2 S2 I3 F3 J3
      rw [f9, f10] at J3
      have S0 : Sta st G V st1 G1 (vR (vI (vI V1 13 n 1) 13 p 2) 2 p (some n)) := ⟨S1.ex, by
        show _ ≤ st.1 + pot (vI (vI V1 13 n 1) 13 p 2)
        rw [pot_vI (by decide), pot_vI (by decide)]
        exact S1.pt⟩
      refine K p st2 G2 V2 hP (S0.trans S2) I3 (F2.trans F3) ?_
      rw [hN, ← Nat.add_assoc]
      exact J3
end CL3
