/-! the relation after a cut -/
section CT2
variable {X : ZX} {d : Nat} {st st0 S : ZS} {G G0 G2 : CG} {V V' V0 : CV} {P : ZO → ZS → Prop} {x y z : Int32} {n m p q r j k a i dd c : Nat} {R R0 R' : MR} {f g f' g' : Nat → Nat} {u w : UInt32}
theorem REL_c (L : REL V R) (hi : ∀ c k, ¬ (c < 2 ∧ k = 2) → ¬ (c = 14 ∧ k = 2) → ¬ (c = 7 ∧ k = 2 * a + 1) → V'.i c k = V.i c k) (hr : V'.r = V.r) (he : ∀ k, k ≠ 2 → V'.e k = V.e k) (hs : ∀ k, k ≠ 2 * a + 1 → V'.s k = V.s k) (hR1 : R'.1 = R.1) (hR2 : ∀ k, k ≠ 23 → k ≠ 25 → R'.2.1 k = R.2.1 k) (h23 : V'.i 14 2 = R'.2.1 23) (hu : V'.u = R'.2.2) (hu2 : V'.u ≤ 2139095040) (C : CT V') : REL V' R' := by
  have q0 : nD V' = nD V := congrArg tN (hi 1 0 (by omega) (by omega) (by omega))
  have q1 : nJ V' = nJ V := congrArg tN (hi 1 1 (by omega) (by omega) (by omega))
  have eN : nP R' = nP R := congrArg tN (hR2 14 (by decide) (by decide))
  have ej : ∀ b c, jf R' b c = jf R b c := fun b c => by unfold jf; rw [hR1]
  have hpl : ∀ b, plc R' b → plc R b := fun b z => by
    obtain ⟨z1, z2⟩ := z
    rw [hR2 21 (by decide) (by decide)] at z1
    rw [hR1] at z2
    exact ⟨z1, z2⟩
  refine ⟨⟨?_, ?_⟩, ⟨?_, h23, hu, hu2⟩, ?_, ?_, ?_, IR_c L.ir (fun i _ => by rw [hR1]) (fun i h => hR2 i (by omega) (by omega)), ⟨fun b c hb hc => ?_, fun b c b' c' hb hb' hc hc' e => ?_⟩, ?_, C⟩
  · rw [q0, hR2 5 (by decide) (by decide)]; exact L.nn.1
  · rw [q1, hR2 21 (by decide) (by decide)]; exact L.nn.2
  · rw [hi 14 1 (by omega) (by omega) (by omega), hR2 15 (by decide) (by decide)]; exact L.nu.1
  · intro i hi'
    rw [q0] at hi'
    exact DR_o (L.dr i hi') (hi 2 i (by omega) (by omega) (by omega)) (hi 3 i (by omega) (by omega) (by omega)) (hi 7 (2 * i) (by omega) (by omega) (by omega)) (hs _ (by omega)) (fun k _ => by rw [hR1])
  · intro k hk
    rw [q1] at hk
    obtain ⟨a1, a2, a3, a4, a5⟩ := L.jr k hk
    refine ⟨?_, ?_, ?_, ?_, ?_⟩
    · rw [hi 4 k (by omega) (by omega) (by omega), hR1]; exact a1
    · rw [hi 5 k (by omega) (by omega) (by omega), hR1]; exact a2
    · rw [hr, hR1]; exact a3
    · rw [hR1, hi 6 k (by omega) (by omega) (by omega), hi 1 (k + 4) (by omega) (by omega) (by omega), he (k + 4) (by omega)]
      intro z
      obtain ⟨b1, b2, b3⟩ := a4 z
      exact ⟨b1, b2, fun b hb => by rw [ej]; exact b3 b hb⟩
    · rw [hR1, hi 6 k (by omega) (by omega) (by omega), hi 1 (k + 4) (by omega) (by omega) (by omega)]; exact a5
  · rw [eN]
    exact PT_R ⟨PI_r L.pt.1 (fun c q a b => hi c q (by omega) (by omega) (by omega)) (hi 14 0 (by omega) (by omega) (by omega)) (hi 1 3 (by omega) (by omega) (by omega)) (fun a q _ => by rw [hr]), L.pt.2⟩ (fun k _ _ => by rw [hR1])
  · rw [hR1] at hc
    rw [ej, hR1, eN]
    exact L.jt.1 b c (hpl b hb) hc
  · rw [hR1] at hc hc'
    rw [ej, ej] at e
    exact L.jt.2 b c b' c' (hpl b hb) (hpl b' hb') hc hc' e
  · intro p hp
    rw [eN] at hp
    rw [hR1]
    exact L.sh p hp
theorem lens_c : ∀ n, (∀ k, k < n → f k = f' k ∧ g k = g' k) → lens f g n = lens f' g' n
  | 0, _ => rfl
  | n + 1, h => by
    show FP.fadd (lens f g n) (rtf (dis (f n) (g n))) = FP.fadd (lens f' g' n) (rtf (dis (f' n) (g' n)))
    rw [lens_c n fun k hk => h k (by omega), (h n (by omega)).1, (h n (by omega)).2]
theorem cln_o2 : ∀ n, (∀ i, i < n → ∃ j, V.e 2 i = some j ∧ V'.e 2 i = some j ∧ V'.i 4 j = V.i 4 j ∧ V'.i 7 (2 * j + 1) = V.i 7 (2 * j + 1) ∧ V'.s (2 * j + 1) = V.s (2 * j + 1)) → cln V' n = cln V n
  | 0, _ => rfl
  | n + 1, hs => by
    obtain ⟨j, e, e', h1, h2, h3⟩ := hs n (by omega)
    show ctl (lnO V' (2 * ((V'.e 2 n).getD 0) + 1)) (cln V' n) (tN (V'.i 4 ((V'.e 2 n).getD 0))) = ctl (lnO V (2 * ((V.e 2 n).getD 0) + 1)) (cln V n) (tN (V.i 4 ((V.e 2 n).getD 0)))
    rw [e, e', cln_o2 n fun i hi => hs i (by omega)]
    show ctl (lnO V' (2 * j + 1)) _ (tN (V'.i 4 j)) = ctl (lnO V (2 * j + 1)) _ (tN (V.i 4 j))
    rw [h1]
    unfold lnO cf cg cm
    rw [h2, h3]
theorem CT_cut (I : CI G V) (L : REL V R) (hj : j < nJ V) (hs1 : R.1 15 j = 1) (e13 : tN (R.1 13 j) = dd) (hdd : dd < nD V) (hm : nC V = m) (hm4 : m < 600) (hi : ∀ c k, ¬ (c < 2 ∧ k = 2) → ¬ (c = 14 ∧ k = 2) → ¬ (c = 7 ∧ k = 2 * j + 1) → ¬ (c = 5 ∧ k = j) → V'.i c k = V.i c k) (h5 : V'.i 5 j = 2) (h7 : V'.i 7 (2 * j + 1) = V.i 7 (2 * dd)) (h1 : V'.i 1 2 = nI (m + 1)) (hss : ∀ k, k < 24 → V'.s (2 * j + 1) k = V.s (2 * dd) k) (hs : ∀ k, k ≠ 2 * j + 1 → V'.s k = V.s k) (he : V'.e 2 = fun i => if i = m then some j else V.e 2 i) (hc : ∀ k, k ≠ 2 → V'.c k = V.c k) (hu : V'.u = ctl (lnF R dd) V.u (tN (R.1 14 j))) : CT V' := by
  have h12 := I.ld.2.1
  have hjR : j < tN (R.2.1 21) := by rw [← L.nn.2]; exact hj
  have hjn := L.ir.jn j hjR
  obtain ⟨a1, a2, _, _, _⟩ := L.jr j hj
  obtain ⟨d2, d3, dou⟩ := L.dr dd hdd
  have hpt := L.ir.pt dd (by omega)
  have hM24 := dou.2.1
  have q1 : nJ V' = nJ V := congrArg tN (hi 1 1 (by omega) (by omega) (by omega) (by omega))
  have q2 : nC V' = m + 1 := by
    unfold nC
    rw [h1]
    exact tN_nI (by omega)
  have hM : cm V' (2 * j + 1) = tN (R.1 1 dd) := by
    unfold cm
    rw [h7, dou.1]
    exact tN_nI (by omega)
  have hcs : ∀ k, k < tN (R.1 1 dd) → cf V' (2 * j + 1) k = tN (R.1 3 (24 * dd + k)) ∧ cg V' (2 * j + 1) k = tN (R.1 4 (24 * dd + k)) ∧ V'.s (2 * j + 1) k = nI (1024 * tN (R.1 3 (24 * dd + k)) + tN (R.1 4 (24 * dd + k))) ∧ tN (R.1 3 (24 * dd + k)) < 1024 ∧ tN (R.1 4 (24 * dd + k)) < 1024 := by
    intro k hk
    have s1 : V.s (2 * dd) k = nI (1024 * tN (R.1 3 (24 * dd + k)) + tN (R.1 4 (24 * dd + k))) := (dou.2.2 k hk).1
    have s2 : tN (R.1 3 (24 * dd + k)) < 1024 := (dou.2.2 k hk).2.1
    have s3 : tN (R.1 4 (24 * dd + k)) < 1024 := (dou.2.2 k hk).2.2
    have s4 := hss k (by omega)
    rw [s1] at s4
    refine ⟨?_, ?_, s4, s2, s3⟩
    · unfold cf
      rw [s4, tN_nI (by omega)]
      omega
    · unfold cg
      rw [s4, tN_nI (by omega)]
      omega
  have hne : ∀ i j', V.e 2 i = some j' → j' ≠ j := fun i j' e z => by
    have h5' := (L.ct.2.2.2 i j' e).2.2.2
    rw [z, a2, hs1] at h5'
    exact absurd h5' (by decide)
  have hlt : ∀ i, i < m → ∃ j', V.e 2 i = some j' := fun i hi' => L.ct.2.2.1 i (by omega)
  refine ⟨fun n hn => ?_, ?_, ?_, ?_⟩
  · rw [q1] at hn
    rw [hc n (by omega)]
    exact L.ct.1 n hn
  · have e1 : cln V' m = cln V m := cln_o2 m fun i hi' => by
      obtain ⟨j', e⟩ := hlt i hi'
      have hn := hne i j' e
      refine ⟨j', e, ?_, hi 4 j' (by omega) (by omega) (by omega) (by omega), hi 7 _ (by omega) (by omega) (by omega) (by omega), hs _ (by omega)⟩
      rw [he]
      show (if i = m then some j else V.e 2 i) = some j'
      rw [if_neg (by omega)]
      exact e
    have e2 : V'.e 2 m = some j := by rw [he]; exact if_pos rfl
    have e3 : lnO V' (2 * j + 1) = lnF R dd := by
      unfold lnO
      rw [hM]
      exact lens_c _ fun k hk => ⟨(hcs k hk).1, (hcs k hk).2.1⟩
    rw [q2, hu]
    show _ = ctl (lnO V' (2 * ((V'.e 2 m).getD 0) + 1)) (cln V' m) (tN (V'.i 4 ((V'.e 2 m).getD 0)))
    rw [e2]
    show _ = ctl (lnO V' (2 * j + 1)) (cln V' m) (tN (V'.i 4 j))
    rw [e1, e3, hi 4 j (by omega) (by omega) (by omega) (by omega), a1, L.ct.2.1, hm]
  · rw [q2]
    intro i hi'
    rw [he]
    by_cases e : i = m
    · exact ⟨j, if_pos e⟩
    · obtain ⟨j', e'⟩ := hlt i (by omega)
      exact ⟨j', by show (if i = m then some j else V.e 2 i) = some j'; rw [if_neg e]; exact e'⟩
  · intro i j' e
    rw [he] at e
    have e : (if i = m then some j else V.e 2 i) = some j' := e
    by_cases c : i = m
    · rw [if_pos c] at e
      cases e
      refine ⟨?_, ?_, ⟨tN (R.1 14 j), ?_, hjn.2.2⟩, h5⟩
      · rw [hM]
        refine ⟨?_, hM24, fun k hk => ?_⟩
        · rw [h7]; exact dou.1
        · obtain ⟨b1, b2, b3, b4, b5⟩ := hcs k hk
          rw [b1, b2]
          exact ⟨b3, b4, b5⟩
      · rw [hM]
        intro k hk
        obtain ⟨b1, b2, _⟩ := hcs k hk
        rw [b1, b2]
        exact (hpt k hk).1.2.2
      · rw [hi 4 j (by omega) (by omega) (by omega) (by omega)]
        exact a1.trans hjn.1
    · rw [if_neg c] at e
      have hn := hne i j' e
      obtain ⟨b1, b2, b3, b4⟩ := L.ct.2.2.2 i j' e
      have i7 := hi 7 (2 * j' + 1) (by omega) (by omega) (by omega) (by omega)
      have is := hs (2 * j' + 1) (by omega)
      unfold cf cg cm at b1 b2 ⊢
      rw [i7, is, hi 4 j' (by omega) (by omega) (by omega) (by omega), hi 5 j' (by omega) (by omega) (by omega) (by omega)]
      exact ⟨oul_o b1 i7 is, b2, b3, b4⟩
theorem kn_ct {c c' : Nat → Nat} {nd nj np : Nat} (h1 : ∀ n, n ≠ 2 → c' n = c n) (h3 : c' 2 ≠ 0) (k : CK) : (kn c nd nj np k ∨ k = .ar 2) ↔ kn c' nd nj np k := by
  obtain ⟨a, b⟩ := k
  unfold kn CK.ar
  simp only [Prod.mk.injEq]
  rcases a with _ | _ | _ | _ | _ | _ | _ | _ | _ | a
  · rcases b with _ | b
    · simp
    · simp
  · rcases b with _ | b
    · simp
    · simp
  · simp
  · show (b < nj + 4 ∧ c b ≠ 0) ∨ (3 = 3 ∧ b = 2) ↔ (b < nj + 4 ∧ c' b ≠ 0)
    by_cases e : b = 2
    · subst e
      exact ⟨fun _ => ⟨by omega, h3⟩, fun _ => .inr ⟨rfl, rfl⟩⟩
    · rw [h1 b e]
      refine ⟨?_, fun z => .inl z⟩
      rintro (z | z)
      · exact z
      · exact absurd z.2 e
  · simp
  · simp
  · simp
  · simp
  · simp
  · simp
theorem CI_cut (I : CI G V) (hl2 : ∀ k, G2.live k ↔ G.live k ∨ k = .ar 2) (hi : ∀ c k, c < 2 → k ≠ 2 → V'.i c k = V.i c k) (hr : V'.r = V.r) (he : ∀ k, k ≠ 2 → V'.e k = V.e k) (hc : ∀ k, k ≠ 2 → V'.c k = V.c k) (hlk : lok V' 2 (m + 1) (nJ V)) (hm4 : m < 600) : CI G2 V' := by
  have q0 : nD V' = nD V := congrArg tN (hi 1 0 (by omega) (by omega))
  have q1 : nJ V' = nJ V := congrArg tN (hi 1 1 (by omega) (by omega))
  have q3 : nQ V' = nQ V := congrArg tN (hi 1 3 (by omega) (by omega))
  have q2 : nC V' = m + 1 := by
    unfold nC
    rw [hlk.sz]
    exact tN_nI (by omega)
  have q4 : ∀ j, nA V' j = nA V j := fun j => congrArg tN (hi 1 (j + 4) (by omega) (by omega))
  have ho : ∀ {k m b : Nat}, k ≠ 2 → lok V k m b → lok V' k m b := fun {k m b} hk hl => lok_o hl (Nat.le_refl _) (hi 1 k (by omega) hk) (hc k hk) (he k hk)
  refine ⟨?_, ?_, ?_, ?_, ?_, ?_, ?_, ?_, ?_⟩
  · intro k
    rw [hl2, I.gi, q0, q1, q3]
    exact kn_ct hc (by have := hlk.le; exact fun z => by omega) k
  · rw [q0, he 0 (by decide)]
    exact ⟨ho (by decide) I.ld.1, I.ld.2⟩
  · rw [q1, he 1 (by decide)]
    exact ⟨ho (by decide) I.lj.1, I.lj.2⟩
  · rw [q1, q2]
    exact hlk
  · rw [q3, he 3 (by decide)]
    exact ⟨ho (by decide) I.lq.1, I.lq.2⟩
  · intro j hj
    rw [q1] at hj
    rw [q3, q4]
    exact ⟨ho (by omega) (I.la j hj).1, (I.la j hj).2⟩
  · intro j hj
    rw [q1] at hj
    rw [q0, hr]
    exact I.de j hj
  · rw [q3, hr]; exact I.pr
  · rw [q3, hr]; exact I.pw
end CT2
