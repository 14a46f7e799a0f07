/-! job -/
section CJ
variable {X : ZX} {d : Nat} {st st0 S : ZS} {G G0 : CG} {V V' V0 : CV} {P : ZO → ZS → Prop} {x y z : Int32} {n m p q r j k a i dd : Nat} {R R0 R' : MR} {f g : Nat → Nat} {cp : Int32}
theorem vJn_e : (vJn V n dd cp).e k = if k = n + 4 then (fun _ => none) else V.e k := rfl
theorem CI_jb {G2 : CG} {c' : Nat} (I : CI G V) (hn : n = nJ V) (h30 : n < 30) (hc0 : V.c (n + 4) = 0) (hdd : dd < nD V) (hl : ∀ k, G2.live k ↔ (((((G.live k ∨ k = .sk (2 * n + 1)) ∨ k = .ou (2 * n + 1)) ∨ k = .al (n + 4)) ∨ k = .jb n) ∨ k = .ar 1)) (hlk : lok (vL (vJn V n dd cp) 1 n n c') 1 (n + 1) (n + 1)) : CI G2 (vL (vJn V n dd cp) 1 n n c') ∧ nD (vL (vJn V n dd cp) 1 n n c') = nD V ∧ nJ (vL (vJn V n dd cp) 1 n n c') = n + 1 ∧ nC (vL (vJn V n dd cp) 1 n n c') = nC V ∧ nQ (vL (vJn V n dd cp) 1 n n c') = nQ V := by
  have hi : ∀ c k, ¬ (c = 7 ∧ k = 2 * n + 1) → ¬ (c < 2 ∧ k = n + 4) → ¬ ((c = 4 ∨ c = 5 ∨ c = 6) ∧ k = n) → ¬ (c < 2 ∧ k = 1) → (vL (vJn V n dd cp) 1 n n c').i c k = V.i c k := fun c k a b e f => by
    rw [vL_i' (by omega), vJn_i a b e]
  have q0 : nD (vL (vJn V n dd cp) 1 n n c') = nD V := congrArg tN (hi 1 0 (by omega) (by omega) (by omega) (by omega))
  have q1 : nJ (vL (vJn V n dd cp) 1 n n c') = n + 1 := by
    unfold nJ
    rw [hlk.sz]
    exact tN_nI (by omega)
  have q2 : nC (vL (vJn V n dd cp) 1 n n c') = nC V := congrArg tN (hi 1 2 (by omega) (by omega) (by omega) (by omega))
  have q3 : nQ (vL (vJn V n dd cp) 1 n n c') = nQ V := congrArg tN (hi 1 3 (by omega) (by omega) (by omega) (by omega))
  have q4 : ∀ j, j ≠ n → nA (vL (vJn V n dd cp) 1 n n c') j = nA V j := fun j hj => congrArg tN (hi 1 (j + 4) (by omega) (by omega) (by omega) (by omega))
  have he : ∀ k, k ≠ 1 → k ≠ n + 4 → (vL (vJn V n dd cp) 1 n n c').e k = V.e k := fun k hk hk2 => by
    rw [vL_e, if_neg hk]
    rw [vJn_e, if_neg hk2]
  have hol : ∀ {k m b b' : Nat}, k ≠ 1 → k ≠ n + 4 → b ≤ b' → lok V k m b → lok (vL (vJn V n dd cp) 1 n n c') k m b' := fun {k m b b'} hk hk2 hb hl => lok_o hl hb (hi 1 k (by omega) (by omega) (by omega) (by omega)) (by rw [vL_c, if_neg hk]; rfl) (he k hk hk2)
  have hr : ∀ a k, ¬ (a = 0 ∧ k = n) → (vL (vJn V n dd cp) 1 n n c').r a k = V.r a k := fun a k h => by
    show (vJn V n dd cp).r a k = V.r a k
    unfold vJn
    rw [vR_oo h]
    rfl
  refine ⟨⟨?_, ?_, ?_, ?_, ?_, ?_, ?_, ?_, ?_⟩, q0, q1, q2, q3⟩
  · intro k
    rw [hl, I.gi, q0, q1, q3, ← hn]
    exact kn_jb (fun m hm => by rw [vL_c, if_neg hm]; rfl) (by have := hlk.le; exact fun z => by omega) hc0 k
  · rw [q0, he 0 (by decide) (by omega)]
    exact ⟨hol (by decide) (by omega) (Nat.le_refl _) I.ld.1, I.ld.2⟩
  · rw [q1]
    refine ⟨hlk, by omega, fun i hi => ?_⟩
    rw [vL_e, if_pos rfl]
    by_cases z : i = n
    · rw [if_pos z, z]
    · rw [if_neg z]
      rw [vJn_e, if_neg (by omega)]
      exact I.lj.2.2 i (by omega)
  · rw [q1, q2]
    exact hol (by decide) (by omega) (by omega) I.lc
  · rw [q3, he 3 (by decide) (by omega)]
    exact ⟨hol (by decide) (by omega) (Nat.le_refl _) I.lq.1, I.lq.2⟩
  · intro j hj
    rw [q1] at hj
    rw [q3]
    by_cases e : j = n
    · subst e
      have e1 : (vL (vJn V j dd cp) 1 j j c').i 1 (j + 4) = 0 := by
        rw [vL_i' (by omega)]
        unfold vJn
        rw [vR_i, vI_oo (by omega), vI_oo (by omega), vI_oo (by omega), vE_i]
        unfold vJ0
        rw [vI_ss]
      have e2 : nA (vL (vJn V j dd cp) 1 j j c') j = 0 := by
        unfold nA
        rw [e1]
        rfl
      rw [e2]
      refine ⟨⟨e1, ?_⟩, Nat.zero_le _⟩
      have e3 : (vL (vJn V j dd cp) 1 j j c').c (j + 4) = 0 := by
        rw [vL_c, if_neg (by omega)]
        exact hc0
      have e4 : (vL (vJn V j dd cp) 1 j j c').e (j + 4) = fun _ => none := by
        rw [vL_e, if_neg (by omega)]
        rw [vJn_e, if_pos rfl]
      rw [e3, e4]
      exact ⟨Nat.le_refl _, Nat.zero_le _, .inl rfl, fun i q h => by cases h⟩
    · rw [q4 j e]
      have := I.la j (by omega)
      exact ⟨hol (by omega) (by omega) (Nat.le_refl _) this.1, this.2⟩
  · intro j hj
    rw [q1] at hj
    rw [q0]
    by_cases e : j = n
    · subst e
      refine ⟨dd, ?_, hdd⟩
      show (vJn V j dd cp).r 0 j = some dd
      unfold vJn
      rw [vR_ss]
    · rw [hr 0 j (by omega)]
      exact I.de j (by omega)
  · rw [q3]
    intro p hp a q ha hq
    rw [hr a p (by omega)] at hq
    exact I.pr p hp a q ha hq
  · rw [q3]
    intro p q hp hq
    rw [hr 1 p (by omega)] at hq
    exact I.pw p q hp hq
end CJ
