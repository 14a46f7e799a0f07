/-! a job's pieces taken off; cancel -/
section CC
variable {X : ZX} {d : Nat} {st st0 S : ZS} {G G0 : CG} {V V' V0 : CV} {P : ZO → ZS → Prop} {x y z : Int32} {n m p q r j k a i dd : Nat} {R R0 R' : MR} {f g : Nat → Nat}
theorem tkF_1 (h : k ≠ 11) (h2 : k ≠ 15) : (tkF R j).1 k = R.1 k := by
  unfold tkF
  rw [mA1, if_neg h2, mA1, if_neg h]
theorem tkF_15 : (tkF R j).1 15 = upd (R.1 15) j 0 := rfl
theorem tkF_11 : (tkF R j).1 11 = tks (nP R) (R.1 12) (jf R j) (tN (R.1 14 j)) (R.1 11) := rfl
theorem tkF_2 : (tkF R j).2 = R.2 := rfl
theorem REL_tk (L : REL V R) (I : CI G V) (hj : j < nJ V) (hs : R.1 15 j = 1) (F : fN V V' j) (J : PI V' (mA R 11 (tks (nP R) (R.1 12) (jf R j) (tN (R.1 14 j)) (R.1 11))) (nP R)) (h1 : V'.i 1 (j + 4) = 0) (h5 : V'.i 5 j = 0) (h6 : V'.i 6 j = -1) : REL V' (tkF R j) := by
  have hjR : j < tN (R.2.1 21) := by rw [← L.nn.2]; exact hj
  have hpj : plc R j := ⟨hjR, .inl hs⟩
  have hf : ∀ i, i < tN (R.1 14 j) → jf R j i < nP R ∧ R.1 11 (jf R j i) = 1 := fun i hi => ⟨(L.jt.1 j i hpj hi).2, (L.jt.1 j i hpj hi).1⟩
  have hd : ∀ a b, a < b → b < tN (R.1 14 j) → jf R j a ≠ jf R j b := fun a b hab hb e => by
    have := (L.jt.2 j a j b hpj hpj (by omega) hb e).2
    omega
  have hRT := (tks_RT L.pt.2.2 L.ir.p14.2 (tN (R.1 14 j)) (fun _ => False) (R.1 11) (RT.refl L.pt.2.1) hf hd).1
  have eN : nP (tkF R j) = nP R := rfl
  have hpl : ∀ b, plc (tkF R j) b → plc R b ∧ b ≠ j := fun b z => by
    obtain ⟨z1, z2⟩ := z
    rw [tkF_15] at z2
    by_cases e : b = j
    · rw [e, pk_us] at z2
      exact absurd z2 (by decide)
    · rw [pk_un e] at z2
      exact ⟨⟨z1, z2⟩, e⟩
  have ej : ∀ b c, jf (tkF R j) b c = jf R b c := fun b c => by unfold jf; rw [tkF_1 (by decide) (by decide)]
  refine REL_nest L I hj (by rw [hs]; decide) F ⟨PI_R J fun k a b => ?_, ?_, ?_⟩ ?_ ⟨?_, ?_, ?_, fun _ _ => rfl, rfl⟩ (IR_tk L.ir hjR) ⟨?_, ?_⟩ ?_
  · unfold tkF
    rw [mA1, if_neg (by omega)]
    rfl
  · rw [tkF_1 (k := 12) (by decide) (by decide)]
    exact hRT.1
  · rw [tkF_1 (k := 12) (by decide) (by decide)]
    exact L.pt.2.2
  · obtain ⟨a1, a2, a3, a4, a5⟩ := L.jr j hj
    have e15 : (tkF R j).1 15 j = 0 := by rw [tkF_15, pk_us]
    refine ⟨?_, ?_, ?_, ?_, ?_⟩
    · rw [tkF_1 (k := 14) (by decide) (by decide)]
      exact (F.i 4 j (by decide) (by omega) (by omega)).trans a1
    · rw [e15]; exact h5
    · rw [tkF_1 (k := 13) (by decide) (by decide), F.ro]
      exact a3
    · rw [e15]
      exact fun z => absurd z (by decide)
    · exact fun _ => ⟨h6, h1⟩
  · exact fun k hk h15 h16 h17 => tkF_1 (by omega) (by omega)
  · intro k hk
    refine ⟨?_, ?_⟩
    · rw [tkF_15, pk_un hk]
    · rw [tkF_1 (k := 16) (by decide) (by decide)]
  · intro k hk
    rw [tkF_1 (k := 17) (by decide) (by decide)]
  · intro b c hb hc
    obtain ⟨w1, w2⟩ := hpl b hb
    rw [tkF_1 (k := 14) (by decide) (by decide)] at hc
    obtain ⟨u1, u2⟩ := L.jt.1 b c w1 hc
    rw [ej, tkF_11]
    refine ⟨(hRT.2.2.1 _ u2).mpr ⟨u1, ?_⟩, u2⟩
    rintro (w | ⟨a, ha, e⟩)
    · exact w
    · exact w2 (L.jt.2 b c j a w1 hpj hc ha e).1
  · intro b c b' c' hb hb' hc hc' e
    obtain ⟨w1, w2⟩ := hpl b hb
    obtain ⟨w3, w4⟩ := hpl b' hb'
    rw [tkF_1 (k := 14) (by decide) (by decide)] at hc hc'
    rw [ej, ej] at e
    exact L.jt.2 b c b' c' w1 w3 hc hc' e
  · intro p hp
    rw [tkF_1 (k := 6) (by decide) (by decide)]
    exact L.sh p hp
theorem REL_tk0 (L : REL V R) (I : CI G V) (hj : j < nJ V) (hs : R.1 15 j = 0) (F : fN V V' j) (J : PI V' R (nP R)) (h1 : V'.i 1 (j + 4) = 0) (h5 : V'.i 5 j = 0) (h6 : V'.i 6 j = -1) : REL V' R := by
  obtain ⟨a1, a2, a3, a4, a5⟩ := L.jr j hj
  refine REL_nest L I hj (by rw [hs]; decide) F ⟨J, L.pt.2⟩ ⟨(F.i 4 j (by decide) (by omega) (by omega)).trans a1, by rw [hs]; exact h5, by rw [F.ro]; exact a3, fun z => ?_, fun _ => ⟨h6, h1⟩⟩ ⟨fun _ _ _ _ _ => rfl, fun _ _ => ⟨rfl, rfl⟩, fun _ _ => rfl, fun _ _ => rfl, rfl⟩ L.ir L.jt L.sh
  rw [hs] at z
  exact absurd z (by decide)
/-- a job's state alone -/
theorem REL_st (L : REL V R) (I : CI G V) (hj : j < nJ V) {v : Int32} (h : (R.1 15 j = 0 ∧ v = 3) ∨ (R.1 15 j = 1 ∧ v = 2)) : REL (vI V 5 j v) (mA R 15 (upd (R.1 15) j v)) := by
  have hjR : j < tN (R.2.1 21) := by rw [← L.nn.2]; exact hj
  obtain ⟨a1, a2, a3, a4, a5⟩ := L.jr j hj
  have e15 : (mA R 15 (upd (R.1 15) j v)).1 15 = upd (R.1 15) j v := rfl
  have eo : ∀ k, k ≠ 15 → (mA R 15 (upd (R.1 15) j v)).1 k = R.1 k := fun k hk => by rw [mA1, if_neg hk]
  have hpl : ∀ b, plc (mA R 15 (upd (R.1 15) j v)) b → plc R b := fun b z => by
    obtain ⟨z1, z2⟩ := z
    rw [e15] at z2
    by_cases e : b = j
    · rw [e, pk_us] at z2
      rw [e]
      rcases h with ⟨w1, w2⟩ | ⟨w1, w2⟩
      · rw [w2] at z2
        exact absurd z2 (by decide)
      · exact ⟨hjR, .inl w1⟩
    · rw [pk_un e] at z2
      exact ⟨z1, z2⟩
  refine REL_nest L I hj (by rcases h with w | w <;> (rw [w.1]; decide)) (fN.vi (fN.of fP.refl) (.inl rfl)) ⟨PI_R (R := R) (PI_o L.pt.1 (fun c q a b => vI_oo (by omega)) (vI_oo (by omega)) (vI_oo (by omega)) rfl) (fun k a b => eo k (by omega)), L.pt.2⟩ ⟨?_, ?_, ?_, ?_, ?_⟩ ⟨fun k _ h15 _ _ => eo k h15, fun k hk => ⟨?_, rfl⟩, fun _ _ => rfl, fun _ _ => rfl, rfl⟩ (IR_15 L.ir hjR (by rcases h with w | w <;> simp [w.2]) (fun z => ?_)) ⟨fun b c hb hc => L.jt.1 b c (hpl b hb) hc, fun b c b' c' hb hb' hc hc' e => L.jt.2 b c b' c' (hpl b hb) (hpl b' hb') hc hc' e⟩ L.sh
  · exact (vI_oo (by omega)).trans a1
  · rw [vI_ss, e15, pk_us]
  · exact a3
  · rw [e15, pk_us]
    intro z
    rcases h with ⟨w1, w2⟩ | ⟨w1, w2⟩
    · rw [w2] at z
      exact absurd z (by decide)
    · obtain ⟨b1, b2, b3⟩ := a4 (.inl w1)
      exact ⟨(vI_oo (by omega)).trans b1, (vI_oo (by omega)).trans b2, b3⟩
  · rw [e15, pk_us]
    intro z
    rcases h with ⟨w1, w2⟩ | ⟨w1, w2⟩
    · obtain ⟨b1, b2⟩ := a5 (.inl w1)
      exact ⟨(vI_oo (by omega)).trans b1, (vI_oo (by omega)).trans b2⟩
    · rw [w2] at z
      exact absurd z (by decide)
  · rw [e15, pk_un hk]
  · rcases h with ⟨w1, w2⟩ | ⟨w1, w2⟩
    · rw [w2] at z
      exact absurd z (by decide)
    · exact .inl w1
end CC
