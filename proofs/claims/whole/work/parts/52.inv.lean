/-! WHAT HOLDS OF THE CLASS'S WORLD; the stock's next piece -/
def kn (c : Nat → Nat) (nd nj np : Nat) (k : CK) : Prop := match k with
  | (0, 0) => True
  | (1, 0) => True
  | (2, n) => n < nj + 4
  | (3, n) => n < nj + 4 ∧ c n ≠ 0
  | (4, i) => i < nd
  | (5, n) => n / 2 < (if n % 2 = 0 then nd else nj)
  | (6, n) => n / 2 < (if n % 2 = 0 then nd else nj)
  | (7, j) => j < nj
  | (8, p) => p < np
  | _ => False
def nD (V : CV) : Nat := tN (V.i 1 0)
def nJ (V : CV) : Nat := tN (V.i 1 1)
def nC (V : CV) : Nat := tN (V.i 1 2)
def nQ (V : CV) : Nat := tN (V.i 1 3)
def nA (V : CV) (j : Nat) : Nat := tN (V.i 1 (j + 4))
abbrev CI (G : CG) (V : CV) : Prop := (∀ k, G.live k ↔ kn V.c (nD V) (nJ V) (nQ V) k) ∧ (lok V 0 (nD V) (nD V) ∧ nD V ≤ 12 ∧ ∀ i, i < nD V → V.e 0 i = some i) ∧ (lok V 1 (nJ V) (nJ V) ∧ nJ V ≤ 30 ∧ ∀ i, i < nJ V → V.e 1 i = some i) ∧ lok V 2 (nC V) (nJ V) ∧ (lok V 3 (nQ V) (nQ V) ∧ nQ V ≤ 400 ∧ ∀ i, i < nQ V → V.e 3 i = some i) ∧ (∀ j, j < nJ V → lok V (j + 4) (nA V j) (nQ V) ∧ nA V j ≤ 6) ∧ (∀ j, j < nJ V → ∃ i, V.r 0 j = some i ∧ i < nD V) ∧ (∀ p, p < nQ V → ∀ a q, (a = 1 ∨ a = 2 ∨ a = 3 ∨ a = 4) → V.r a p = some q → q < nQ V) ∧ ∀ p q, p < nQ V → V.r 1 p = some q → q < p
section CI1
variable {X : ZX} {d : Nat} {st : ZS} {G : CG} {V V' : CV} {P : ZO → ZS → Prop} {x y : Int32} {n m p q : Nat}
theorem CI.gi (h : CI G V) : ∀ k, G.live k ↔ kn V.c (nD V) (nJ V) (nQ V) k := h.1
theorem CI.ld (h : CI G V) : lok V 0 (nD V) (nD V) ∧ nD V ≤ 12 ∧ ∀ i, i < nD V → V.e 0 i = some i := h.2.1
theorem CI.lj (h : CI G V) : lok V 1 (nJ V) (nJ V) ∧ nJ V ≤ 30 ∧ ∀ i, i < nJ V → V.e 1 i = some i := h.2.2.1
theorem CI.lc (h : CI G V) : lok V 2 (nC V) (nJ V) := h.2.2.2.1
theorem CI.lq (h : CI G V) : lok V 3 (nQ V) (nQ V) ∧ nQ V ≤ 400 ∧ ∀ i, i < nQ V → V.e 3 i = some i := h.2.2.2.2.1
theorem CI.la (h : CI G V) : ∀ j, j < nJ V → lok V (j + 4) (nA V j) (nQ V) ∧ nA V j ≤ 6 := h.2.2.2.2.2.1
theorem CI.de (h : CI G V) : ∀ j, j < nJ V → ∃ i, V.r 0 j = some i ∧ i < nD V := h.2.2.2.2.2.2.1
theorem CI.pr (h : CI G V) : ∀ p, p < nQ V → ∀ a q, (a = 1 ∨ a = 2 ∨ a = 3 ∨ a = 4) → V.r a p = some q → q < nQ V := h.2.2.2.2.2.2.2.1
theorem CI.pw (h : CI G V) : ∀ p q, p < nQ V → V.r 1 p = some q → q < p := h.2.2.2.2.2.2.2.2
theorem CI.kx (h : CI G V) : G.live .kx := (h.gi _).mpr trivial
theorem CI.stk (h : CI G V) : G.live .stk := (h.gi _).mpr trivial
theorem CI.al (h : CI G V) (hn : n < nJ V + 4) : G.live (.al n) := (h.gi _).mpr hn
theorem CI.ar (h : CI G V) (hn : n < nJ V + 4) (hc : V.c n ≠ 0) : G.live (.ar n) := (h.gi _).mpr ⟨hn, hc⟩
theorem CI.dr (h : CI G V) (hn : n < nD V) : G.live (.dr n) := (h.gi _).mpr hn
theorem CI.jb (h : CI G V) (hn : n < nJ V) : G.live (.jb n) := (h.gi _).mpr hn
theorem CI.pc (h : CI G V) (hn : n < nQ V) : G.live (.pc n) := (h.gi _).mpr hn
theorem CI.ou0 (h : CI G V) (hn : n < nD V) : G.live (.ou (2 * n)) := (h.gi _).mpr (show 2 * n / 2 < (if 2 * n % 2 = 0 then nD V else nJ V) by rw [if_pos (by omega)]; omega)
theorem CI.sk0 (h : CI G V) (hn : n < nD V) : G.live (.sk (2 * n)) := (h.gi _).mpr (show 2 * n / 2 < (if 2 * n % 2 = 0 then nD V else nJ V) by rw [if_pos (by omega)]; omega)
theorem CI.ou1 (h : CI G V) (hn : n < nJ V) : G.live (.ou (2 * n + 1)) := (h.gi _).mpr (show (2 * n + 1) / 2 < (if (2 * n + 1) % 2 = 0 then nD V else nJ V) by rw [if_neg (by omega)]; omega)
theorem CI.sk1 (h : CI G V) (hn : n < nJ V) : G.live (.sk (2 * n + 1)) := (h.gi _).mpr (show (2 * n + 1) / 2 < (if (2 * n + 1) % 2 = 0 then nD V else nJ V) by rw [if_neg (by omega)]; omega)
theorem CI.rk (h : CI G V) : rok G V := ⟨fun p hp a q ha hq => h.pc (h.pr p ((h.gi _).mp hp) a q ha hq), fun p q hp hq => h.pw p q ((h.gi _).mp hp) hq⟩
/-- of a list with elements -/
theorem CI.gr (h : CI G V) {b : Nat} (hl : lok V n m b) (hn : n < nJ V + 4) (hm : 0 < m) : G.live (.ar n) := h.ar hn (by have := hl.le; omega)
/-- other values alone have changed -/
theorem CI.o (h : CI G V) (h1 : ∀ n, V'.i 1 n = V.i 1 n) (hc : V'.c = V.c) (he : V'.e = V.e) (h0 : ∀ j, j < nJ V → V'.r 0 j = V.r 0 j) (hr : ∀ p, p < nQ V → ∀ a q, (a = 1 ∨ a = 2 ∨ a = 3 ∨ a = 4) → V'.r a p = some q → q < nQ V) (hw : ∀ p q, p < nQ V → V'.r 1 p = some q → q < p) : CI G V' := by
  have e0 : nD V' = nD V := congrArg tN (h1 0)
  have e1 : nJ V' = nJ V := congrArg tN (h1 1)
  have e2 : nC V' = nC V := congrArg tN (h1 2)
  have e3 : nQ V' = nQ V := congrArg tN (h1 3)
  have e4 : ∀ j, nA V' j = nA V j := fun j => congrArg tN (h1 (j + 4))
  have ho : ∀ {n m b : Nat}, lok V n m b → lok V' n m b := fun {n m b} hl => lok_o hl (Nat.le_refl _) (h1 n) (by rw [hc]) (by rw [he])
  refine ⟨?_, ?_, ?_, ?_, ?_, ?_, ?_, ?_, ?_⟩
  · rw [e0, e1, e3, hc]; exact h.gi
  · rw [e0, he]; exact ⟨ho h.ld.1, h.ld.2⟩
  · rw [e1, he]; exact ⟨ho h.lj.1, h.lj.2⟩
  · rw [e1, e2]; exact ho h.lc
  · rw [e3, he]; exact ⟨ho h.lq.1, h.lq.2⟩
  · intro j hj
    rw [e1] at hj
    rw [e3, e4]
    exact ⟨ho (h.la j hj).1, (h.la j hj).2⟩
  · intro j hj
    rw [e1] at hj
    rw [h0 j hj, e0]
    exact h.de j hj
  · rw [e3]; exact hr
  · rw [e3]; exact hw
theorem CI.vi (h : CI G V) {c j : Nat} (hc : c ≠ 1) : CI G (vI V c j x) := h.o (fun n => vI_oo fun z => hc z.1.symm) rfl rfl (fun _ _ => rfl) h.pr h.pw
/-- the pieces' frame -/
abbrev fP (V V' : CV) : Prop := (∀ c j, c < 8 → ¬ (c < 2 ∧ j = 3) → V'.i c j = V.i c j) ∧ (V'.i 14 1 = V.i 14 1 ∧ V'.i 14 2 = V.i 14 2) ∧ (∀ j, V'.r 0 j = V.r 0 j) ∧ (∀ n, n ≠ 3 → V'.e n = V.e n ∧ V'.c n = V.c n) ∧ V'.s = V.s ∧ V'.u = V.u ∧ nQ V ≤ nQ V'
theorem fP.i (h : fP V V') : ∀ c j, c < 8 → ¬ (c < 2 ∧ j = 3) → V'.i c j = V.i c j := h.1
theorem fP.w (h : fP V V') : V'.i 14 1 = V.i 14 1 ∧ V'.i 14 2 = V.i 14 2 := h.2.1
theorem fP.r (h : fP V V') : ∀ j, V'.r 0 j = V.r 0 j := h.2.2.1
theorem fP.e (h : fP V V') : ∀ n, n ≠ 3 → V'.e n = V.e n ∧ V'.c n = V.c n := h.2.2.2.1
theorem fP.s (h : fP V V') : V'.s = V.s := h.2.2.2.2.1
theorem fP.u (h : fP V V') : V'.u = V.u := h.2.2.2.2.2.1
theorem fP.qq (h : fP V V') : nQ V ≤ nQ V' := h.2.2.2.2.2.2
theorem fP.refl : fP V V := ⟨fun _ _ _ _ => rfl, ⟨rfl, rfl⟩, fun _ => rfl, fun _ _ => ⟨rfl, rfl⟩, rfl, rfl, Nat.le_refl _⟩
theorem fP.trans {V1 V2 V3 : CV} (h : fP V1 V2) (h2 : fP V2 V3) : fP V1 V3 := ⟨fun c j a b => (h2.i c j a b).trans (h.i c j a b), ⟨h2.w.1.trans h.w.1, h2.w.2.trans h.w.2⟩, fun j => (h2.r j).trans (h.r j), fun n hn => ⟨(h2.e n hn).1.trans (h.e n hn).1, (h2.e n hn).2.trans (h.e n hn).2⟩, h2.s.trans h.s, h2.u.trans h.u, Nat.le_trans h.qq h2.qq⟩
/-- the values of a new piece -/
def vZp (V : CV) (n : Nat) : CV := (fun c j => if (8 ≤ c ∧ c ≤ 13) ∧ j = n then 0 else V.i c j, fun a j => if (1 ≤ a ∧ a ≤ 4) ∧ j = n then none else V.r a j, V.2.2)
theorem vZp_i {c j : Nat} (h : ¬ ((8 ≤ c ∧ c ≤ 13) ∧ j = n)) : (vZp V n).i c j = V.i c j := if_neg h
theorem vZp_r {a j : Nat} (h : ¬ ((1 ≤ a ∧ a ≤ 4) ∧ j = n)) : (vZp V n).r a j = V.r a j := if_neg h
theorem vZp_r' {a j : Nat} (h : (1 ≤ a ∧ a ≤ 4) ∧ j = n) : (vZp V n).r a j = none := if_pos h
theorem cell_vZp {A : CK → Nat} {k : CK} (h : k ≠ CK.pc n) : cell A (vZp V n) k = cell A V k := by
  unfold cell
  split
  · rw [vZp_i (by omega)]; rfl
  · rw [vZp_i (by omega), vZp_i (by omega)]
  · rw [vZp_i (by omega), vZp_i (by omega)]; rfl
  · rfl
  · rw [vZp_i (by omega), vZp_i (by omega)]
  · rw [vZp_i (by omega)]
  · rfl
  · rw [vZp_i (by omega), vZp_i (by omega), vZp_i (by omega), vZp_r (by omega)]
  · rename_i p
    have e : p ≠ n := fun z => h (by rw [z]; rfl)
    rw [vZp_i (by omega), vZp_i (by omega), vZp_i (by omega), vZp_i (by omega), vZp_i (by omega), vZp_i (by omega), vZp_r (by omega), vZp_r (by omega), vZp_r (by omega), vZp_r (by omega)]
  · rfl
/-- what next gives -/
abbrev nxt (G : CG) (V V' : CV) (n : Nat) : Prop := CI G V' ∧ fP V V' ∧ V'.i 14 0 = nI (n + 1) ∧ n + 1 ≤ nQ V' ∧ (∀ p c, p ≠ n → 8 ≤ c → c ≤ 13 → V'.i c p = V.i c p) ∧ ∀ p a, p ≠ n → V'.r a p = V.r a p
theorem kn_pc {c c' : Nat → Nat} {nd nj np : Nat} (h1 : ∀ n, n ≠ 3 → c' n = c n) (h3 : c' 3 ≠ 0) (k : CK) : ((kn c nd nj np k ∨ k = .pc np) ∨ k = .ar 3) ↔ kn c' nd nj (np + 1) k := by
  obtain ⟨a, b⟩ := k
  unfold kn CK.pc CK.ar
  simp only [Prod.mk.injEq]
  rcases a with _ | _ | _ | _ | _ | _ | _ | _ | _ | a
  · rcases b with _ | b
    · simp
    · simp
  · rcases b with _ | b
    · simp
    · simp
  · simp
  · show ((b < nj + 4 ∧ c b ≠ 0) ∨ (3 = 8 ∧ b = np)) ∨ (3 = 3 ∧ b = 3) ↔ (b < nj + 4 ∧ c' b ≠ 0)
    by_cases e : b = 3
    · subst e
      refine ⟨fun _ => ⟨by omega, h3⟩, fun _ => .inr ⟨rfl, rfl⟩⟩
    · rw [h1 b e]
      refine ⟨?_, fun z => .inl (.inl z)⟩
      rintro ((z | z) | z)
      · exact z
      · exact absurd z.1 (by decide)
      · exact absurd z.2 e
  · simp
  · simp
  · simp
  · simp
  · show (b < np ∨ (8 = 8 ∧ b = np)) ∨ (8 = 3 ∧ b = 3) ↔ b < np + 1
    refine ⟨?_, ?_⟩
    · rintro ((z | z) | z)
      · omega
      · omega
      · exact absurd z.1 (by decide)
    · intro z
      by_cases e : b = np
      · exact .inl (.inr ⟨rfl, e⟩)
      · exact .inl (.inl (by omega))
  · simp
end CI1
