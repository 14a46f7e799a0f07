/-! THE REFERENCE: what a try changes; jobs' parts are apart; sheets are few -/
section NF
variable {n m p q j k : Nat} {R R0 R' : MR} {w hh : Int32}
/-- the parts of jobs are taken and apart -/
abbrev plc (R : MR) (j : Nat) : Prop := j < tN (R.2.1 21) ∧ (R.1 15 j = 1 ∨ R.1 15 j = 2)
abbrev JT (R : MR) : Prop := (∀ j i, plc R j → i < tN (R.1 14 j) → R.1 11 (jf R j i) = 1 ∧ jf R j i < nP R) ∧ ∀ j i j' i', plc R j → plc R j' → i < tN (R.1 14 j) → i' < tN (R.1 14 j') → jf R j i = jf R j' i' → j = j' ∧ i = i'
abbrev SH (R : MR) : Prop := ∀ p, p < nP R → ∃ s, s < 8 ∧ R.1 6 p = nI s
theorem layX_ps {n p : Nat} : ∀ q, q < n + layN R p w hh → (layX R n p w hh).1 6 q = if q < n then R.1 6 q else R.1 6 p := by
  have g : ∀ {R : MR} {n : Nat} {s x y w h k o : Int32} {q : Nat}, (mAdd R n s x y w h k o).1 6 q = if q = n then s else R.1 6 q := fun {R n s x y w h k o q} => mAdd_g (by decide) (by decide)
  have a1 : ∀ q, (lay1 R n p w hh).1 6 q = if q = n then R.1 6 p else R.1 6 q := fun q => g
  have p1 : (lay1 R n p w hh).1 6 p = R.1 6 p := by rw [a1]; split <;> rfl
  have a2 : ∀ q, (lay2 (lay1 R n p w hh) (n + 1) p w hh).1 6 q = if q = n + 1 then R.1 6 p else (lay1 R n p w hh).1 6 q := fun q => by
    have : (lay2 (lay1 R n p w hh) (n + 1) p w hh).1 6 q = if q = n + 1 then (lay1 R n p w hh).1 6 p else (lay1 R n p w hh).1 6 q := g
    rw [this, p1]
  have p2 : (lay2 (lay1 R n p w hh) (n + 1) p w hh).1 6 p = R.1 6 p := by rw [a2, p1]; split <;> rfl
  have a3 : ∀ q, (lay3 (lay2 (lay1 R n p w hh) (n + 1) p w hh) (n + 2) p w hh).1 6 q = if q = n + 2 then R.1 6 p else (lay2 (lay1 R n p w hh) (n + 1) p w hh).1 6 q := fun q => by
    have : (lay3 (lay2 (lay1 R n p w hh) (n + 1) p w hh) (n + 2) p w hh).1 6 q = if q = n + 2 then (lay2 (lay1 R n p w hh) (n + 1) p w hh).1 6 p else (lay2 (lay1 R n p w hh) (n + 1) p w hh).1 6 q := g
    rw [this, p2]
  have a4 : ∀ q, (lay3 (lay1 R n p w hh) (n + 1) p w hh).1 6 q = if q = n + 1 then R.1 6 p else (lay1 R n p w hh).1 6 q := fun q => by
    have : (lay3 (lay1 R n p w hh) (n + 1) p w hh).1 6 q = if q = n + 1 then (lay1 R n p w hh).1 6 p else (lay1 R n p w hh).1 6 q := g
    rw [this, p1]
  intro q hq
  unfold layN at hq
  unfold layX
  by_cases c1 : w < R.1 9 p
  · rw [if_pos c1] at hq ⊢
    by_cases c2 : hh < R.1 10 p
    · rw [if_pos c2] at hq ⊢
      rw [a3, a2, a1]
      by_cases c : q < n
      · rw [if_neg (by omega), if_neg (by omega), if_neg (by omega), if_pos c]
      · rw [if_neg c]
        by_cases d1 : q = n + 2
        · rw [if_pos d1]
        · rw [if_neg d1]
          by_cases d2 : q = n + 1
          · rw [if_pos d2]
          · rw [if_neg d2, if_pos (by omega)]
    · rw [if_neg c2] at hq ⊢
      rw [a2, a1]
      by_cases c : q < n
      · rw [if_neg (by omega), if_neg (by omega), if_pos c]
      · rw [if_neg c]
        by_cases d2 : q = n + 1
        · rw [if_pos d2]
        · rw [if_neg d2, if_pos (by omega)]
  · rw [if_neg c1] at hq ⊢
    by_cases c2 : hh < R.1 10 p
    · rw [if_pos c2] at hq ⊢
      rw [a4, a1]
      by_cases c : q < n
      · rw [if_neg (by omega), if_neg (by omega), if_pos c]
      · rw [if_neg c]
        by_cases d2 : q = n + 1
        · rw [if_pos d2]
        · rw [if_neg d2, if_pos (by omega)]
    · rw [if_neg c2] at hq ⊢
      rw [a1]
      by_cases c : q < n
      · rw [if_neg (by omega), if_pos c]
      · rw [if_neg c, if_pos (by omega)]
theorem TI_layX {n p : Nat} (T : TI (R.1 12) (R.1 11) n) (F : frp (R.1 12) n) (hp : p < n) (h0 : R.1 11 p = 0) (hn : n + layN R p w hh ≤ 400) : TI ((layX R n p w hh).1 12) ((layX R n p w hh).1 11) (n + layN R p w hh) ∧ frp ((layX R n p w hh).1 12) (n + layN R p w hh) := by
  have hstep : ∀ {R : MR} {n : Nat} {s l t w hh : Int32}, TI (R.1 12) (R.1 11) n → frp (R.1 12) n → n < 400 → p < n → R.1 11 p = 2 → TI ((mAdd R n s l t w hh 0 (nI p)).1 12) ((mAdd R n s l t w hh 0 (nI p)).1 11) (n + 1) ∧ frp ((mAdd R n s l t w hh 0 (nI p)).1 12) (n + 1) := by
    intro R n s l t w hh T F hn hp h2
    have hT := TI_in (k := 0) (p := p) T F (by omega) hp (.inr h2) (.inr ⟨rfl, h2⟩)
    rw [upd_id h2] at hT
    exact ⟨hT, frp_in F (.inr ⟨p, hp, rfl⟩)⟩
  unfold layN at hn ⊢
  have T1 : TI ((lay1 R n p w hh).1 12) ((lay1 R n p w hh).1 11) (n + 1) := TI_in (k := 1) (p := p) T F (by omega) hp (.inl h0) (.inl rfl)
  have F1 : frp ((lay1 R n p w hh).1 12) (n + 1) := frp_in F (.inr ⟨p, hp, rfl⟩)
  have h2 : (lay1 R n p w hh).1 11 p = 2 := (mAdd_f (j := 11) hp).trans pk_us
  unfold layX
  split
  · rename_i c1
    rw [if_pos c1] at hn
    obtain ⟨T2, F2⟩ := hstep (R := lay1 R n p w hh) (s := (lay1 R n p w hh).1 6 p) (l := (lay1 R n p w hh).1 7 p + w) (t := (lay1 R n p w hh).1 8 p) (w := (lay1 R n p w hh).1 9 p - w) (hh := hh) T1 F1 (by omega) (by omega) h2
    have h22 : (lay2 (lay1 R n p w hh) (n + 1) p w hh).1 11 p = 2 := (mAdd_f (j := 11) (show p < n + 1 by omega)).trans h2
    split
    · rename_i c2
      rw [if_pos c2] at hn
      exact hstep (R := lay2 (lay1 R n p w hh) (n + 1) p w hh) T2 F2 (by omega) (by omega) h22
    · exact ⟨T2, F2⟩
  · rename_i c1
    rw [if_neg c1] at hn
    split
    · rename_i c2
      rw [if_pos c2] at hn
      exact hstep (R := lay1 R n p w hh) T1 F1 (by omega) (by omega) h2
    · exact ⟨T1, F1⟩
/-- what the loop of nests keeps -/
theorem nsl_all : ∀ (m k : Nat) (R : MR), k + m ≤ 6 → nsI R0 j k R → NS R0 R j k → TI (R.1 12) (R.1 11) (nP R) → frp (R.1 12) (nP R) → SH R → NS R0 (nsl j w hh m k R).1 j (nsl j w hh m k R).2.1 ∧ TI ((nsl j w hh m k R).1.1 12) ((nsl j w hh m k R).1.1 11) (nP (nsl j w hh m k R).1) ∧ frp ((nsl j w hh m k R).1.1 12) (nP (nsl j w hh m k R).1) ∧ SH (nsl j w hh m k R).1
  | 0, k, R, hk, I, N, T, F, S => ⟨N, T, F, S⟩
  | m + 1, k, R, hk, I, N, T, F, S => by
    unfold nsl
    cases e : layP R (nP R) w hh with
    | none =>
      have ejf : ∀ i, i < k → jf (mA R 17 (upd (R.1 17) (6 * j + k) (-1))) j i = jf R j i := fun i hi => by
        show tN (upd (R.1 17) (6 * j + k) (-1) (6 * j + i)) = _
        rw [pk_un (by omega)]
        rfl
      obtain ⟨N1, N2, N3, N4, N5, N6⟩ := N
      refine ⟨⟨?_, ?_, ?_, N4, ?_, N6⟩, T, F, S⟩
      · intro i hi
        have hi : i < k := hi
        rw [ejf i hi]
        refine ⟨(N1 i hi).1, (N1 i hi).2.1, ?_⟩
        show upd (R.1 17) (6 * j + k) (-1) (6 * j + i) = _
        rw [pk_un (by omega)]
        exact (N1 i hi).2.2
      · intro a b hab hb
        have hb : b < k := hb
        rw [ejf a (by omega), ejf b hb]
        exact N2 a b hab hb
      · intro q hq
        refine (N3 q hq).trans ⟨fun z => z.imp id fun ⟨i, hi, z⟩ => ⟨i, hi, by rw [ejf i hi]; exact z⟩, fun z => z.imp id fun ⟨i, hi, z⟩ => ⟨i, hi, by rw [ejf i hi] at z; exact z⟩⟩
      · intro q hq
        refine (N5 q hq).imp id fun ⟨z1, z2, i, hi, z⟩ => ⟨z1, z2, i, hi, by rw [ejf i hi]; exact z⟩
    | some p =>
      obtain ⟨hp, h4, hb⟩ := layP_ok e
      have eN : nP (mA (layX R (nP R) p w hh) 17 (upd (R.1 17) (6 * j + k) (nI (nP R)))) = nP R + layN R p w hh := by
        show ((layX R (nP R) p w hh).2.1 14).toNatClampNeg = _
        rw [layX_n, nI_clamp (by omega)]
      obtain ⟨T1, F1⟩ := TI_layX (w := w) (hh := hh) T F hp (bst_lt _ _ hb).2.1 h4
      refine nsl_all m (k + 1) _ (by omega) (nsI_lay (by omega) I e) (NS_lay N I.nn e) (by rw [eN]; exact T1) (by rw [eN]; exact F1) ?_
      intro q hq
      rw [eN] at hq
      show ∃ s, s < 8 ∧ (layX R (nP R) p w hh).1 6 q = nI s
      rw [layX_ps q hq]
      by_cases c : q < nP R
      · rw [if_pos c]; exact S q c
      · rw [if_neg c]; exact S p hp
/-- what a try leaves -/
abbrev nsO (R R' : MR) (j : Nat) : Prop := (∀ i, (i < 6 ∨ 12 < i) → i ≠ 15 → i ≠ 16 → i ≠ 17 → R'.1 i = R.1 i) ∧ (∀ k, k ≠ j → R'.1 15 k = R.1 15 k ∧ R'.1 16 k = R.1 16 k) ∧ (∀ i, i < 6 * j ∨ 6 * j + 6 ≤ i → R'.1 17 i = R.1 17 i) ∧ (∀ i, i ≠ 14 → R'.2.1 i = R.2.1 i) ∧ R'.2.2 = R.2.2
theorem nsF_all (I : IR R) (T : TI (R.1 12) (R.1 11) (nP R)) (N : JT R) (S : SH R) (hj : j < tN (R.2.1 21)) (h0 : R.1 15 j = 0) : nsO R (nsF R j) j ∧ JT (nsF R j) ∧ SH (nsF R j) := by
  have hj30 := I.j21.2
  have hc6 := (I.jn j hj).2.2
  have I0 : nsI R j 0 R := ⟨I.p14.2, I.p14.1, I.fr, fun _ _ => rfl, fun i hi => absurd hi (Nat.not_lt_zero i), fun _ _ => rfl, fun _ _ => rfl, rfl, Nat.le_refl _, fun _ _ _ _ _ => rfl⟩
  have F : frp (R.1 12) (nP R) := I.fr
  obtain ⟨I1, hk, hkt⟩ := nsl_I (w := nsW R j true) (hh := nsW R j false) (tN (R.1 14 j)) 0 R (by omega) I0
  obtain ⟨N1, T1, F1, S1⟩ := nsl_all (R0 := R) (w := nsW R j true) (hh := nsW R j false) (tN (R.1 14 j)) 0 R (by omega) I0 NS_0 T F S
  unfold nsF nsE
  have hq' : nsl j (nsW R j true) (nsW R j false) (R.1 14 j).toNatClampNeg 0 R = nsl j (nsW R j true) (nsW R j false) (tN (R.1 14 j)) 0 R := rfl
  rw [hq']
  generalize nsl j (nsW R j true) (nsW R j false) (tN (R.1 14 j)) 0 R = qq at *
  obtain ⟨Q, k, b⟩ := qq
  dsimp only at I1 hk hkt N1 T1 F1 S1 ⊢
  have o14 := I1.ot 14 (by decide)
  have o15 := I1.ot 15 (by decide)
  have o16 := I1.ot 16 (by decide)
  have f21 := I1.fl 21 (by decide)
  have hjp : ∀ i k, k ≠ j → i < 6 → (6 * k + i < 6 * j ∨ 6 * j + 6 ≤ 6 * k + i) := fun i k hk hi => by omega
  cases b with
  | true =>
    rw [if_pos rfl]
    have hkt := hkt rfl
    have h17 : ∀ k i, jf (mA (mA Q 15 (upd (Q.1 15) j 1)) 16 (upd (Q.1 16) j (R.1 2 (R.1 13 j).toNatClampNeg))) k i = jf Q k i := fun k i => rfl
    have hjf : ∀ k i, k ≠ j → i < 6 → jf Q k i = jf R k i := fun k i hk hi => congrArg tN (I1.j7 _ (hjp i k hk hi))
    have hst : ∀ k, (mA (mA Q 15 (upd (Q.1 15) j 1)) 16 (upd (Q.1 16) j (R.1 2 (R.1 13 j).toNatClampNeg))).1 15 k = if k = j then 1 else R.1 15 k := fun k => by
      show upd (Q.1 15) j 1 k = _
      rw [o15]
      rfl
    have hpl : ∀ k, plc (mA (mA Q 15 (upd (Q.1 15) j 1)) 16 (upd (Q.1 16) j (R.1 2 (R.1 13 j).toNatClampNeg))) k → k ≠ j → plc R k := fun k z hk => by
      obtain ⟨z1, z2⟩ := z
      rw [hst, if_neg hk] at z2
      have z1 : k < tN (Q.2.1 21) := z1
      rw [f21] at z1
      exact ⟨z1, z2⟩
    have hn6 : ∀ k, plc R k → tN (R.1 14 k) ≤ 6 := fun k z => (I.jn k z.1).2.2
    refine ⟨⟨?_, ?_, ?_, I1.fl, I1.fc⟩, ⟨?_, ?_⟩, S1⟩
    · intro i hi h15 h16 h17
      show (mA (mA Q 15 _) 16 _).1 i = _
      rw [mA1, if_neg h16, mA1, if_neg h15]
      exact I1.ot i (by omega)
    · intro k hk
      refine ⟨?_, ?_⟩
      · rw [hst, if_neg hk]
      · show upd (Q.1 16) j _ k = _
        rw [pk_un hk, o16]
    · intro i hi
      exact I1.j7 i hi
    · intro k i hpk hi
      have hi : i < tN (Q.1 14 k) := hi
      rw [o14] at hi
      rw [h17]
      show Q.1 11 (jf Q k i) = 1 ∧ jf Q k i < nP Q
      by_cases e : k = j
      · subst e
        obtain ⟨a1, a2, _⟩ := N1.1 i (by omega)
        exact ⟨(N1.2.2.1 _ a1).mpr (.inr ⟨i, by omega, rfl⟩), a1⟩
      · have hpR := hpl k hpk e
        have := hn6 k hpR
        rw [hjf k i e (by omega)]
        obtain ⟨b1, b2⟩ := N.1 k i hpR hi
        have := I1.nn
        exact ⟨(N1.2.2.1 _ (by omega)).mpr (.inl ⟨b2, b1⟩), by omega⟩
    · intro k i k' i' hpk hpk' hix hix' he
      have hi : i < tN (R.1 14 k) := by rw [← o14]; exact hix
      have hi' : i' < tN (R.1 14 k') := by rw [← o14]; exact hix'
      clear hix hix'
      rw [h17, h17] at he
      by_cases e : k = j
      · by_cases e' : k' = j
        · subst e
          subst e'
          refine ⟨rfl, ?_⟩
          rcases Nat.lt_trichotomy i i' with z | z | z
          · have := N1.2.1 i i' z (by omega)
            omega
          · exact z
          · have := N1.2.1 i' i z (by omega)
            omega
        · subst e
          exfalso
          have hpR := hpl k' hpk' e'
          have := hn6 k' hpR
          rw [hjf k' i' e' (by omega)] at he
          have := (N.1 k' i' hpR hi').2
          have := (N1.1 i (by omega)).2.1
          omega
      · have hpR := hpl k hpk e
        have := hn6 k hpR
        rw [hjf k i e (by omega)] at he
        by_cases e' : k' = j
        · subst e'
          exfalso
          have := (N.1 k i hpR hi).2
          have := (N1.1 i' (by omega)).2.1
          omega
        · have hpR' := hpl k' hpk' e'
          have := hn6 k' hpR'
          rw [hjf k' i' e' (by omega)] at he
          exact N.2 k i k' i' hpR hpR' hi hi' he
  | false =>
    rw [if_neg (by decide)]
    have hb := NS_back N1 (by omega) I1 T1 F1 T
    have e14 : nP (mF (mA (mA Q 11 (tks (nP Q) (Q.1 12) (fun i => (Q.1 17 (6 * j + i)).toNatClampNeg) k (Q.1 11))) 15 (upd (Q.1 15) j 0)) 14 (nI (nP R))) = nP R := nI_clamp (by have := I.p14.2; omega)
    have hst : ∀ k', (mF (mA (mA Q 11 (tks (nP Q) (Q.1 12) (fun i => (Q.1 17 (6 * j + i)).toNatClampNeg) k (Q.1 11))) 15 (upd (Q.1 15) j 0)) 14 (nI (nP R))).1 15 k' = if k' = j then 0 else R.1 15 k' := fun k' => by
      show upd (Q.1 15) j 0 k' = _
      rw [o15]
      rfl
    have hjf : ∀ k i, k ≠ j → i < 6 → jf Q k i = jf R k i := fun k i hk hi => congrArg tN (I1.j7 _ (hjp i k hk hi))
    have hpl : ∀ k', plc (mF (mA (mA Q 11 (tks (nP Q) (Q.1 12) (fun i => (Q.1 17 (6 * j + i)).toNatClampNeg) k (Q.1 11))) 15 (upd (Q.1 15) j 0)) 14 (nI (nP R))) k' → plc R k' ∧ k' ≠ j := fun k' z => by
      obtain ⟨z1, z2⟩ := z
      rw [hst] at z2
      have z1 : k' < tN (Q.2.1 21) := z1
      rw [f21] at z1
      by_cases e : k' = j
      · rw [if_pos e] at z2
        exact absurd z2 (by decide)
      · rw [if_neg e] at z2
        exact ⟨⟨z1, z2⟩, e⟩
    have hn6 : ∀ k, plc R k → tN (R.1 14 k) ≤ 6 := fun k z => (I.jn k z.1).2.2
    refine ⟨⟨?_, ?_, ?_, ?_, I1.fc⟩, ⟨?_, ?_⟩, ?_⟩
    · intro i hi h15 h16 h17
      show (mF (mA (mA Q 11 _) 15 _) 14 _).1 i = _
      rw [mF1, mA1, if_neg h15, mA1, if_neg (by omega)]
      exact I1.ot i (by omega)
    · intro k' hk'
      refine ⟨?_, ?_⟩
      · rw [hst, if_neg hk']
      · show Q.1 16 k' = _
        rw [o16]
    · intro i hi
      exact I1.j7 i hi
    · intro i hi
      show (mF _ 14 _).2.1 i = _
      rw [mF2, if_neg hi]
      exact I1.fl i hi
    · intro k' i hpk hi
      have hi : i < tN (Q.1 14 k') := hi
      rw [o14] at hi
      obtain ⟨hpR, e⟩ := hpl k' hpk
      have := hn6 k' hpR
      obtain ⟨b1, b2⟩ := N.1 k' i hpR hi
      show tks (nP Q) (Q.1 12) (jf Q j) k (Q.1 11) (jf Q k' i) = 1 ∧ jf Q k' i < nP _
      rw [e14, hjf k' i e (by omega), hb _ b2]
      exact ⟨b1, b2⟩
    · intro k1 i k' i' hpk hpk' hi hi' he
      have hi : i < tN (Q.1 14 k1) := hi
      have hi' : i' < tN (Q.1 14 k') := hi'
      rw [o14] at hi hi'
      obtain ⟨hpR, e⟩ := hpl k1 hpk
      obtain ⟨hpR', e'⟩ := hpl k' hpk'
      have := hn6 k1 hpR
      have := hn6 k' hpR'
      have he : jf Q k1 i = jf Q k' i' := he
      rw [hjf k1 i e (by omega), hjf k' i' e' (by omega)] at he
      exact N.2 k1 i k' i' hpR hpR' hi hi' he
    · intro p hp
      rw [e14] at hp
      show ∃ s, s < 8 ∧ Q.1 6 p = nI s
      rw [I1.ps 6 (by decide) (by decide) p hp]
      exact S p hp
end NF
