/-! RELEASE, and a job's parts taken off, as the reference's -/
section RL
variable {X : ZX} {d : Nat} {st : ZS} {G : CG} {V V' : CV} {P : ZO → ZS → Prop} {x y : Int32} {n m p q r : Nat} {R : MR} {po pk : Nat → Int32}
abbrev fR (V V' : CV) : Prop := (∀ c j, c ≠ 13 → V'.i c j = V.i c j) ∧ (∀ j, V'.r 0 j = V.r 0 j ∧ V'.r 1 j = V.r 1 j) ∧ (∀ a p q, V'.r a p = some q → V.r a p = some q) ∧ V'.e = V.e ∧ V'.c = V.c ∧ V'.s = V.s ∧ V'.u = V.u
theorem fR.refl : fR V V := ⟨fun _ _ _ => rfl, fun _ => ⟨rfl, rfl⟩, fun _ _ _ h => h, rfl, rfl, rfl, rfl⟩
theorem fR.trans {V1 V2 V3 : CV} (h : fR V1 V2) (h2 : fR V2 V3) : fR V1 V3 := by
  obtain ⟨a1, a2, a3, a4, a5, a6, a7⟩ := h
  obtain ⟨b1, b2, b3, b4, b5, b6, b7⟩ := h2
  exact ⟨fun c j hc => (b1 c j hc).trans (a1 c j hc), fun j => ⟨(b2 j).1.trans (a2 j).1, (b2 j).2.trans (a2 j).2⟩, fun a p q h => a3 a p q (b3 a p q h), b4.trans a4, b5.trans a5, b6.trans a6, b7.trans a7⟩
theorem fR.ci (h : fR V V') (I : CI G V) : CI G V' := by
  obtain ⟨a1, a2, a3, a4, a5, a6, a7⟩ := h
  exact I.o (fun n => a1 1 n (by decide)) a5 a4 (fun j _ => (a2 j).1) (fun p hp a q ha hq => I.pr p hp a q ha (a3 a p q hq)) (fun p q hp hq => I.pw p q hp (a3 1 p q hq))
theorem fR.fp (h : fR V V') : fP V V' := by
  obtain ⟨a1, a2, a3, a4, a5, a6, a7⟩ := h
  refine ⟨fun c j hc _ => a1 c j (by omega), ⟨a1 14 1 (by decide), a1 14 2 (by decide)⟩, fun j => (a2 j).1, fun n _ => ⟨by rw [a4], by rw [a5]⟩, a6, a7, ?_⟩
  unfold nQ
  rw [a1 1 3 (by decide)]
  exact Nat.le_refl _
theorem fR.pt (h : fR V V') : pot V' = pot V := by
  obtain ⟨a1, a2, a3, a4, a5, a6, a7⟩ := h
  show 4 * sm V'.c 34 + (12 * tN (V'.i 1 3) + (33 * tN (V'.i 1 0) + 39 * tN (V'.i 1 1))) = 4 * sm V.c 34 + (12 * tN (V.i 1 3) + (33 * tN (V.i 1 0) + 39 * tN (V.i 1 1)))
  rw [a1 1 3 (by decide), a1 1 0 (by decide), a1 1 1 (by decide), a5]
theorem vN_13 {o : Option Nat} : (vN V o).i 13 q = if o = some q then 3 else V.i 13 q := by
  cases o with
  | none => rfl
  | some k =>
    by_cases e : k = q
    · rw [e, if_pos rfl]
      exact vI_ss
    · rw [if_neg (fun z => e (Option.some.inj z))]
      exact vI_oo (fun z => e z.2.symm)
theorem vN_o {o : Option Nat} {c : Nat} (hc : c ≠ 13) : (vN V o).i c q = V.i c q := by
  cases o with
  | none => rfl
  | some k => exact vI_oo (fun z => hc z.1)
theorem vNP_13 : (vNP V r).i 13 q = if V.r 4 r = some q then 3 else if V.r 3 r = some q then 3 else if V.r 2 r = some q then 3 else V.i 13 q := by
  show (vN (vN (vN V (V.r 2 r)) (V.r 3 r)) (V.r 4 r)).i 13 q = _
  rw [vN_13, vN_13, vN_13]
theorem vNP_o {c : Nat} (hc : c ≠ 13) : (vNP V r).i c q = V.i c q := by
  show (vN (vN (vN V (V.r 2 r)) (V.r 3 r)) (V.r 4 r)).i c q = _
  rw [vN_o hc, vN_o hc, vN_o hc]
theorem vN_e {o : Option Nat} : (vN V o).2.2 = V.2.2 := by cases o <;> rfl
theorem vNP_e : (vNP V r).2.2 = V.2.2 := by
  show (vN (vN (vN V (V.r 2 r)) (V.r 3 r)) (V.r 4 r)).2.2 = _
  rw [vN_e, vN_e, vN_e]
theorem vNP_fR : fR V (vI (vNP V r) 13 r 0) := by
  have e := vNP_e (V := V) (r := r)
  refine ⟨fun c j hc => (vI_oo (fun z => hc z.1)).trans (vNP_o hc), fun j => ⟨?_, ?_⟩, ?_, congrArg (fun z => z.1) e, congrArg (fun z => z.2.1) e, congrArg (fun z => z.2.2.1) e, congrArg (fun z => z.2.2.2) e⟩
  · rw [vI_r, vNP_r, if_neg (by omega)]
  · rw [vI_r, vNP_r, if_neg (by omega)]
  · intro a p q hq
    rw [vI_r, vNP_r] at hq
    split at hq
    · cases hq
    · exact hq
theorem afV_iff (J : PI V (mA R 11 pk) n) (hr : r < n) (h2 : pk r = 2) : afV V r = true ↔ afr (R.1 12) pk (nI r) n = true := by
  have hJ := J.pp r hr
  have hch := hJ.ch h2
  have h13 : ∀ q, q < n → V.i 13 q = pk q := fun q hq => (J.pp q hq).v 13 (by decide) (by decide)
  rw [afr_iff]
  have hf : ∀ a, (a = 2 ∨ a = 3 ∨ a = 4) → (fon V (V.r a r) = true ↔ ∀ q, V.r a r = some q → pk q = 0) := by
    intro a ha
    cases e : V.r a r with
    | none => exact ⟨fun _ q hq => (by cases hq), fun _ => rfl⟩
    | some k =>
      have hk := hJ.lt h2 a k ha e
      show decide (V.i 13 k = 0) = true ↔ _
      rw [decide_eq_true_iff, h13 k hk]
      exact ⟨fun z q hq => by cases hq; exact z, fun z => z k rfl⟩
  unfold afV
  rw [Bool.and_eq_true, Bool.and_eq_true, hf 2 (.inl rfl), hf 3 (.inr (.inl rfl)), hf 4 (.inr (.inr rfl))]
  refine ⟨fun h q hq ho => ?_, fun h => ⟨fun q hq => ?_, fun q hq => ?_, fun q hq => ?_⟩⟩
  · by_cases c : pk q = 3
    · exact .inr c
    · refine .inl ?_
      rcases (hch q hq).mp ⟨ho, c⟩ with z | z | z
      · exact h.1 q z
      · exact h.2.1 q z
      · exact h.2.2 q z
  all_goals
    have hqn : q < n := by first | exact hJ.lt h2 2 q (.inl rfl) hq | exact hJ.lt h2 3 q (.inr (.inl rfl)) hq | exact hJ.lt h2 4 q (.inr (.inr rfl)) hq
    have hx := (hch q hqn).mpr (by first | exact .inl hq | exact .inr (.inl hq) | exact .inr (.inr hq))
    exact (h q hqn hx.1).resolve_right hx.2
theorem jst_PI (J : PI V (mA R 11 pk) n) (T : TM (R.1 12) pk n (nI r)) (F : frp (R.1 12) n) (hr : r < n) (h2 : pk r = 2) (ha : ∀ q, q < n → R.1 12 q = nI r → pk q = 0 ∨ pk q = 3) : PI (vI (vNP V r) 13 r 0) (mA R 11 (jst n (R.1 12) pk r)) n := by
  have hn := J.le.2
  have hJr := J.pp r hr
  have hch := hJr.ch h2
  obtain ⟨a1, a2, a3, a4, a5, a6, a7⟩ := vNP_fR (V := V) (r := r)
  have e3 : nQ (vI (vNP V r) 13 r 0) = nQ V := congrArg tN (a1 1 3 (by decide))
  refine ⟨(a1 14 0 (by decide)).trans J.n0, by rw [e3]; exact J.le, fun q hq => ?_⟩
  have hJ := J.pp q hq
  have hv13 : (vI (vNP V r) 13 r 0).i 13 q = jst n (R.1 12) pk r q := by
    by_cases e : q = r
    · rw [e, vI_ss, jst_r]
    · have h13 : V.i 13 q = pk q := hJ.v 13 (by decide) (by decide)
      rw [vI_oo (fun z => e z.2), vNP_13, jst_o e, h13]
      have hc := hch q hq
      by_cases c : R.1 12 q = nI r
      · rw [if_pos (show q < n ∧ R.1 12 q = nI r from ⟨hq, c⟩)]
        by_cases c3 : pk q = 3
        · rw [c3]
          repeat' split
          all_goals rfl
        · rcases hc.mp ⟨c, c3⟩ with z | z | z
          · rw [if_pos z]
            repeat' split
            all_goals rfl
          · rw [if_pos z]
            repeat' split
            all_goals rfl
          · rw [if_pos z]
      · have hn' : ¬ (V.r 2 r = some q ∨ V.r 3 r = some q ∨ V.r 4 r = some q) := fun z => c (hc.mpr z).1
        rw [if_neg (fun z => hn' (.inr (.inr z))), if_neg (fun z => hn' (.inr (.inl z))), if_neg (fun z => hn' (.inl z)), if_neg (show ¬ (q < n ∧ R.1 12 q = nI r) from fun z => c z.2)]
  have hr' : ∀ a, (a = 2 ∨ a = 3 ∨ a = 4) → (vI (vNP V r) 13 r 0).r a q = if q = r then none else V.r a q := by
    intro a ha
    rw [vI_r, vNP_r]
    by_cases e : q = r
    · rw [if_pos ⟨ha, e⟩, if_pos e]
    · rw [if_neg (fun z => e z.2), if_neg e]
  have hpk2 : jst n (R.1 12) pk r q = 2 → pk q = 2 ∧ q ≠ r := by
    intro z
    by_cases e : q = r
    · rw [e, jst_r] at z
      exact absurd z (by decide)
    · rw [jst_o e] at z
      by_cases c : q < n ∧ R.1 12 q = nI r
      · rw [if_pos c] at z
        exact absurd z (by decide)
      · rw [if_neg c] at z
        exact ⟨z, e⟩
  refine ⟨?_, ?_, ?_, ?_, ?_⟩
  · intro c h8 h13
    by_cases e : c = 13
    · rw [e]
      exact hv13
    · rw [a1 c q e, hJ.v c h8 h13]
      show (mA R 11 pk).1 (c - 2) q = (mA R 11 (jst n (R.1 12) pk r)).1 (c - 2) q
      rw [mA1, mA1, if_neg (by omega), if_neg (by omega)]
  · rw [(a2 q).2]
    exact hJ.w
  · intro z q' hq'
    obtain ⟨w, e⟩ := hpk2 z
    rw [hr' 2 (.inl rfl), hr' 3 (.inr (.inl rfl)), hr' 4 (.inr (.inr rfl)), if_neg e, if_neg e, if_neg e]
    have h0 := hJ.ch w q' hq'
    refine Iff.trans ?_ h0
    show R.1 12 q' = nI q ∧ jst n (R.1 12) pk r q' ≠ 3 ↔ R.1 12 q' = nI q ∧ pk q' ≠ 3
    by_cases c : R.1 12 q' = nI q
    · by_cases e2 : q' = r
      · rw [e2, jst_r, h2]
        exact ⟨fun z => ⟨z.1, by decide⟩, fun z => ⟨z.1, by decide⟩⟩
      · rw [jst_o e2, if_neg (fun z => e ((nI_eq (by omega) (by omega)).mp (by rw [← c]; exact z.2)))]
    · exact ⟨fun z => absurd z.1 c, fun z => absurd z.1 c⟩
  · intro z a q' ha' hq'
    obtain ⟨w, e⟩ := hpk2 z
    rw [hr' a ha', if_neg e] at hq'
    exact hJ.lt w a q' ha' hq'
  · intro z a ha'
    rw [hr' a ha']
    by_cases e : q = r
    · rw [if_pos e]
    · rw [if_neg e]
      refine hJ.no (fun w => ?_) a ha'
      have w : pk q = 2 := w
      have z : jst n (R.1 12) pk r q ≠ 2 := z
      rw [jst_o e] at z
      by_cases c : q < n ∧ R.1 12 q = nI r
      · rcases ha q hq c.2 with y | y <;> rw [w] at y <;> exact absurd y (by decide)
      · rw [if_neg c] at z
        exact z w
theorem rl_PI (F : frp (R.1 12) n) (hn : n ≤ 400) : ∀ (k f : Nat) (V : CV) (pk : Nat → Int32) (o : Int32) (oo : Option Nat), PI V (mA R 11 pk) n → TM (R.1 12) pk n o → ((oo = none ∧ o < 0) ∨ ∃ r, oo = some r ∧ o = nI r ∧ r < n ∧ r < k ∧ r < f) → PI (rlV k V oo) (mA R 11 (clb n (R.1 12) f pk o)) n ∧ fR V (rlV k V oo) := by
  intro k
  induction k with
  | zero =>
    intro f V pk o oo J T ho
    rcases ho with ⟨e, z⟩ | ⟨r, _, _, _, z, _⟩
    · subst e
      have : clb n (R.1 12) f pk o = pk := by
        cases f with
        | zero => rfl
        | succ f => exact if_neg (fun w => w.1 z)
      rw [this]
      exact ⟨J, fR.refl⟩
    · exact absurd z (Nat.not_lt_zero r)
  | succ k ih =>
    intro f V pk o oo J T ho
    rcases ho with ⟨e, z⟩ | ⟨r, e, e2, hr, hk, hf⟩
    · subst e
      have : clb n (R.1 12) f pk o = pk := by
        cases f with
        | zero => rfl
        | succ f => exact if_neg (fun w => w.1 z)
      rw [this]
      exact ⟨J, fR.refl⟩
    · subst e
      subst e2
      obtain ⟨f, rfl⟩ : ∃ z, f = z + 1 := ⟨f - 1, by omega⟩
      have h2 : pk r = 2 := by
        rcases T.oo with z | ⟨r', hr', e, z⟩
        · exact absurd z (nI_pos (by omega))
        · have := (nI_eq (by omega) (by omega)).mp e
          rw [this]; exact z
      have er : (nI r).toNatClampNeg = r := nI_clamp (by omega)
      have hnn : ¬ nI r < 0 := nI_pos (by omega)
      have haf := afV_iff J hr h2
      have hw := (J.pp r hr).w
      unfold rlV clb
      rw [er]
      cases c : afV V r with
      | false =>
        have c2 : ¬ (¬ nI r < 0 ∧ afr (R.1 12) pk (nI r) n = true) := fun w => by
          rw [haf.mpr w.2] at c
          cases c
        rw [if_neg (by decide), if_neg c2]
        exact ⟨J, fR.refl⟩
      | true =>
        have c2 := haf.mp c
        have hall := (afr_iff n).mp c2
        rw [if_pos rfl, if_pos ⟨hnn, c2⟩]
        obtain ⟨T1, _⟩ := jst_TM T F hn hr hall
        obtain ⟨J2, F2⟩ := ih f (vI (vNP V r) 13 r 0) (jst n (R.1 12) pk r) (R.1 12 r) (V.r 1 r) (jst_PI J T F hr h2 hall) T1 (by
          rcases hw with ⟨z1, z2⟩ | ⟨q, hq, z1, z2⟩
          · exact .inl ⟨z1, z2⟩
          · exact .inr ⟨q, z1, z2, by omega, by omega, by omega⟩)
        exact ⟨J2, vNP_fR.trans F2⟩
theorem PI_st0 (J : PI V (mA R 11 pk) n) (hp : p < n) (h1 : pk p = 1) : PI (vI V 13 p 0) (mA R 11 (upd pk p 0)) n := by
  refine ⟨(vI_oo (by omega)).trans J.n0, ?_, fun q hq => ?_⟩
  · have : nQ (vI V 13 p 0) = nQ V := congrArg tN (vI_oo (by omega))
    rw [this]; exact J.le
  have hJ := J.pp q hq
  have e2 : ∀ q, upd pk p 0 q = 2 ↔ pk q = 2 := by
    intro q
    by_cases e : q = p
    · rw [e, pk_us, h1]; decide
    · rw [pk_un e]
  have e3 : ∀ q, upd pk p 0 q = 3 ↔ pk q = 3 := by
    intro q
    by_cases e : q = p
    · rw [e, pk_us, h1]; decide
    · rw [pk_un e]
  refine ⟨?_, hJ.w, ?_, ?_, ?_⟩
  · intro c h8 h13
    show _ = (mA R 11 (upd pk p 0)).1 (c - 2) q
    rw [mA1]
    by_cases e : c = 13
    · subst e
      rw [if_pos rfl]
      by_cases e2 : q = p
      · rw [e2, vI_ss, pk_us]
      · rw [vI_oo (fun z => e2 z.2), pk_un e2]
        exact hJ.v 13 h8 h13
    · rw [if_neg (by omega), vI_oo (fun z => e z.1), hJ.v c h8 h13, mA1, if_neg (by omega)]
  · intro z q' hq'
    refine Iff.trans ?_ (hJ.ch ((e2 q).mp z) q' hq')
    show R.1 12 q' = nI q ∧ upd pk p 0 q' ≠ 3 ↔ R.1 12 q' = nI q ∧ pk q' ≠ 3
    rw [ne_eq, e3]
  · intro z
    exact hJ.lt ((e2 q).mp z)
  · intro z
    exact hJ.no (fun w => z ((e2 q).mpr w))
theorem C_rel (h : cok st G) (I : CI G V) (J : PI V (mA R 11 pk) n) (T : TI (R.1 12) pk n) (F : frp (R.1 12) n) (hp : p < n) (h1 : pk p = 1) (K : ∀ V', fR V V' → PI V' (mA R 11 (fre n (R.1 12) pk p)) n → P (.inl none) (cw st G V')) : AC X (d + 3) 32 [.ref (G.A (.pc p))] (cw st G V) P := by
  have hn := J.le.2
  rw [C_release h I.rk (I.pc (by have := J.le.1; omega))]
  obtain ⟨J2, F2⟩ := rl_PI F hn p n (vI V 13 p 0) (upd pk p 0) (R.1 12 p) (V.r 1 p) (PI_st0 J hp h1) (fre_TM T F hn hp h1) (by
    rcases (J.pp p hp).w with ⟨z1, z2⟩ | ⟨q, hq, z1, z2⟩
    · exact .inl ⟨z1, z2⟩
    · exact .inr ⟨q, z1, z2, by omega, hq, by omega⟩)
  refine K _ (fR.trans ⟨fun c j hc => vI_oo (fun z => hc z.1), fun _ => ⟨rfl, rfl⟩, fun _ _ _ h => h, rfl, rfl, rfl, rfl⟩ F2) J2
end RL
