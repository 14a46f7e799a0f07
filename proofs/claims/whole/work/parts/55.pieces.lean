/-! PIECES of the class and of the reference: what one more keeps -/
section PP
variable {X : ZX} {d : Nat} {st : ZS} {G : CG} {V V' : CV} {P : ZO → ZS → Prop} {x y : Int32} {n m p q : Nat} {R : MR} {po pk : Nat → Int32}
def trv (s x y w h k o : Int32) (j : Nat) : Int32 := if j = 6 then s else if j = 7 then x else if j = 8 then y else if j = 9 then w else if j = 10 then h else if j = 11 then k else o
theorem mAdd_g {s x y w hh k o : Int32} {j : Nat} (h6 : 6 ≤ j) (h12 : j ≤ 12) : (mAdd R n s x y w hh k o).1 j q = if q = n then trv s x y w hh k o j else R.1 j q := by
  have : j = 6 ∨ j = 7 ∨ j = 8 ∨ j = 9 ∨ j = 10 ∨ j = 11 ∨ j = 12 := by omega
  rcases this with rfl | rfl | rfl | rfl | rfl | rfl | rfl <;> rfl
/-- states and wholes of the pieces fit -/
abbrev TI (po pk : Nat → Int32) (n : Nat) : Prop := (∀ q, q < n → pk q = 0 ∨ pk q = 1 ∨ pk q = 2 ∨ pk q = 3) ∧ (∀ q p, q < n → p < n → po q = nI p → pk q ≠ 3 → pk p = 2) ∧ ∀ p, p < n → pk p = 2 → ∃ q, q < n ∧ po q = nI p ∧ (pk q = 1 ∨ pk q = 2)
theorem TI.k (h : TI po pk n) : ∀ q, q < n → pk q = 0 ∨ pk q = 1 ∨ pk q = 2 ∨ pk q = 3 := h.1
theorem TI.pa (h : TI po pk n) : ∀ q p, q < n → p < n → po q = nI p → pk q ≠ 3 → pk p = 2 := h.2.1
theorem TI.ch (h : TI po pk n) : ∀ p, p < n → pk p = 2 → ∃ q, q < n ∧ po q = nI p ∧ (pk q = 1 ∨ pk q = 2) := h.2.2
theorem d02 : ¬ (0 : Int32) = 3 := by decide
theorem d23 : ¬ (2 : Int32) = 3 := by decide
abbrev frp (po : Nat → Int32) (n : Nat) : Prop := ∀ q, q < n → po q < 0 ∨ ∃ r, r < q ∧ po q = nI r
theorem frp_no (F : frp po n) (hn : n ≤ 400) {q p : Nat} (hq : q < n) (hp : p ≤ 400) (h : q ≤ p) : po q ≠ nI p := by
  intro e
  rcases F q hq with z | ⟨r, hr, z⟩
  · rw [e] at z
    exact nI_pos (by omega) z
  · rw [e] at z
    have := (nI_eq (by omega) (by omega)).mp z
    omega
theorem TI_in {k : Int32} (T : TI po pk n) (F : frp po n) (hn : n ≤ 400) (hp : p < n) (h0 : pk p = 0 ∨ pk p = 2) (hk : k = 1 ∨ (k = 0 ∧ pk p = 2)) : TI (upd po n (nI p)) (upd (upd pk p 2) n k) (n + 1) := by
  have hne : ∀ q, q < n → q ≠ n := fun q hq => by omega
  have e : ∀ q, q < n → upd (upd pk p 2) n k q = if q = p then 2 else pk q := fun q hq => pk_un (hne q hq)
  have hk2 : k ≠ 2 ∧ k ≠ 3 := by
    rcases hk with rfl | ⟨rfl, _⟩
    · exact ⟨by decide, by decide⟩
    · exact ⟨by decide, by decide⟩
  refine ⟨?_, ?_, ?_⟩
  · intro q hq
    by_cases c : q = n
    · rw [c, pk_us]
      rcases hk with rfl | ⟨rfl, _⟩
      · exact .inr (.inl rfl)
      · exact .inl rfl
    · rw [e q (by omega)]
      by_cases c2 : q = p
      · rw [if_pos c2]; exact .inr (.inr (.inl rfl))
      · rw [if_neg c2]; exact T.k q (by omega)
  · intro q p' hq hp' ho h3
    by_cases c : q = n
    · rw [c, pk_us] at ho
      have := (nI_eq (by omega) (by omega)).mp ho
      subst this
      rw [e p hp, if_pos rfl]
    · rw [pk_un c] at ho
      rw [e q (by omega)] at h3
      have hq' : q < n := by omega
      by_cases cp : p' = n
      · subst cp
        exact absurd ho (frp_no F hn hq' (by omega) (by omega))
      · rw [e p' (by omega)]
        by_cases c3 : p' = p
        · rw [if_pos c3]
        · rw [if_neg c3]
          refine T.pa q p' hq' (by omega) ho ?_
          by_cases c2 : q = p
          · rw [c2]
            rcases h0 with z | z
            · rw [z]; decide
            · rw [z]; decide
          · rw [if_neg c2] at h3
            exact h3
  · intro p' hp' h2
    by_cases c : p' = n
    · rw [c, pk_us] at h2
      exact absurd h2 hk2.1
    · rw [e p' (by omega)] at h2
      by_cases c2 : p' = p
      · rcases hk with rfl | ⟨rfl, z⟩
        · exact ⟨n, by omega, by rw [pk_us, c2], .inl pk_us⟩
        · obtain ⟨q, hq, ho, hs⟩ := T.ch p hp z
          refine ⟨q, by omega, by rw [pk_un (hne q hq), c2]; exact ho, ?_⟩
          rw [e q hq]
          by_cases c3 : q = p
          · rw [if_pos c3]; exact .inr rfl
          · rw [if_neg c3]; exact hs
      · rw [if_neg c2] at h2
        obtain ⟨q, hq, ho, hs⟩ := T.ch p' (by omega) h2
        refine ⟨q, by omega, by rw [pk_un (hne q hq)]; exact ho, ?_⟩
        rw [e q hq]
        by_cases c3 : q = p
        · rw [if_pos c3]; exact .inr rfl
        · rw [if_neg c3]; exact hs
theorem TI_root {x : Int32} (T : TI po pk n) (F : frp po n) (hn : n ≤ 400) (hx : x < 0) : TI (upd po n x) (upd pk n 0) (n + 1) := by
  have hne : ∀ q, q < n → q ≠ n := fun q hq => by omega
  refine ⟨?_, ?_, ?_⟩
  · intro q hq
    by_cases c : q = n
    · rw [c, pk_us]; exact .inl rfl
    · rw [pk_un c]; exact T.k q (by omega)
  · intro q p' hq hp' ho h3
    by_cases c : q = n
    · rw [c, pk_us] at ho
      rw [ho] at hx
      exact absurd hx (nI_pos (by omega))
    · rw [pk_un c] at ho h3
      by_cases cp : p' = n
      · subst cp
        exact absurd ho (frp_no F hn (by omega) (by omega) (by omega))
      · rw [pk_un cp]
        exact T.pa q p' (by omega) (by omega) ho h3
  · intro p' hp' h2
    by_cases c : p' = n
    · rw [c, pk_us] at h2
      exact absurd h2 (by decide)
    · rw [pk_un c] at h2
      obtain ⟨q, hq, ho, hs⟩ := T.ch p' (by omega) h2
      exact ⟨q, by omega, by rw [pk_un (hne q hq)]; exact ho, by rw [pk_un (hne q hq)]; exact hs⟩
theorem frp_in {k : Int32} (F : frp po n) (hk : k < 0 ∨ ∃ r, r < n ∧ k = nI r) : frp (upd po n k) (n + 1) := by
  intro q hq
  by_cases c : q = n
  · rw [c, pk_us]; exact hk
  · rw [pk_un c]; exact F q (by omega)
/-- the piece p is parted (or was), and gets the new piece n in its field a -/
theorem PI_in {s l t w hh k : Int32} {a : Nat} (J : PI V R n) (F : frp (R.1 12) n) (T : TI (R.1 12) (R.1 11) n) (hn : n < 400) (hp : p < n) (ha : a = 2 ∨ a = 3 ∨ a = 4) (hfa : V.r a p = none) (h0 : R.1 11 p = 0 ∨ R.1 11 p = 2) (hk : k = 0 ∨ k = 1) (h14 : V'.i 14 0 = nI (n + 1)) (hQ : n + 1 ≤ nQ V') (hi : ∀ c q, 8 ≤ c → c ≤ 13 → V'.i c q = if q = n then (if c = 13 then k else tb s l t w hh c) else if c = 13 ∧ q = p then 2 else V.i c q) (hr : ∀ b q, 1 ≤ b → b ≤ 4 → V'.r b q = if q = n then (if b = 1 then some p else none) else if b = a ∧ q = p then some n else V.r b q) : PI V' (mAdd (mA R 11 (upd (R.1 11) p 2)) n s l t w hh k (nI p)) (n + 1) := by
  have hpn : p ≠ n := by omega
  have g : ∀ j q, 6 ≤ j → j ≤ 12 → (mAdd (mA R 11 (upd (R.1 11) p 2)) n s l t w hh k (nI p)).1 j q = if q = n then trv s l t w hh k (nI p) j else if j = 11 ∧ q = p then 2 else R.1 j q := by
    intro j q h6 h12
    rw [mAdd_g h6 h12, mA1]
    by_cases e : q = n
    · rw [if_pos e, if_pos e]
    · rw [if_neg e, if_neg e]
      by_cases e2 : j = 11
      · rw [if_pos e2]
        by_cases e3 : q = p
        · rw [e3, pk_us, if_pos ⟨e2, rfl⟩]
        · rw [pk_un e3, if_neg (fun z => e3 z.2), e2]
      · rw [if_neg e2, if_neg (fun z => e2 z.1)]
  have g12 : ∀ q, (mAdd (mA R 11 (upd (R.1 11) p 2)) n s l t w hh k (nI p)).1 12 q = if q = n then nI p else R.1 12 q := fun q => by
    rw [g 12 q (by decide) (by decide)]
    by_cases e : q = n
    · rw [if_pos e, if_pos e]; rfl
    · rw [if_neg e, if_neg e, if_neg (fun z => absurd z.1 (by decide))]
  have g11 : ∀ q, (mAdd (mA R 11 (upd (R.1 11) p 2)) n s l t w hh k (nI p)).1 11 q = if q = n then k else if q = p then 2 else R.1 11 q := fun q => by
    rw [g 11 q (by decide) (by decide)]
    by_cases e : q = n
    · rw [if_pos e, if_pos e]; rfl
    · rw [if_neg e, if_neg e]
      by_cases e2 : q = p
      · rw [if_pos ⟨rfl, e2⟩, if_pos e2]
      · rw [if_neg (fun z => e2 z.2), if_neg e2]
  have hk2 : k ≠ 2 ∧ k ≠ 3 := by rcases hk with rfl | rfl <;> exact ⟨by decide, by decide⟩
  have hi4 : nI p < 0 → False := nI_pos (by omega)
  refine ⟨h14, ⟨hQ, by omega⟩, fun q hq => ⟨?_, ?_, ?_, ?_, ?_⟩⟩
  · intro c h8 h13
    rw [hi c q h8 h13, g (c - 2) q (by omega) (by omega)]
    by_cases e : q = n
    · rw [if_pos e, if_pos e]
      have : c = 8 ∨ c = 9 ∨ c = 10 ∨ c = 11 ∨ c = 12 ∨ c = 13 := by omega
      rcases this with rfl | rfl | rfl | rfl | rfl | rfl <;> rfl
    · rw [if_neg e, if_neg e, (J.pp q (by omega)).v c h8 h13]
      by_cases e2 : c = 13 ∧ q = p
      · rw [if_pos e2, if_pos ⟨by omega, e2.2⟩]
      · rw [if_neg e2, if_neg (fun z => e2 ⟨by omega, z.2⟩)]
  · rw [hr 1 q (by decide) (by decide), g12]
    by_cases e : q = n
    · rw [if_pos e, if_pos rfl, if_pos e]
      exact .inr ⟨p, by omega, rfl, rfl⟩
    · rw [if_neg e, if_neg (fun z => by omega), if_neg e]
      exact (J.pp q (by omega)).w
  · intro h2 q' hq'
    rw [g11] at h2
    rw [g12, g11, hr 2 q (by decide) (by decide), hr 3 q (by decide) (by decide), hr 4 q (by decide) (by decide)]
    by_cases e : q = n
    · rw [if_pos e] at h2
      exact absurd h2 hk2.1
    · rw [if_neg e] at h2
      rw [if_neg e, if_neg e, if_neg e]
      have hJ := J.pp q (by omega)
      by_cases e2 : q = p
      · subst e2
        by_cases e3 : q' = n
        · subst e3
          rw [if_pos rfl, if_pos rfl]
          refine ⟨fun _ => ?_, fun _ => ⟨rfl, hk2.2⟩⟩
          rcases ha with rfl | rfl | rfl
          · exact .inl (if_pos ⟨rfl, rfl⟩)
          · exact .inr (.inl (if_pos ⟨rfl, rfl⟩))
          · exact .inr (.inr (if_pos ⟨rfl, rfl⟩))
        · rw [if_neg e3, if_neg e3]
          have hsl : ∀ b, (b = 2 ∨ b = 3 ∨ b = 4) → ((if b = a ∧ q = q then some n else V.r b q) = some q' ↔ V.r b q = some q') := by
            intro b hb
            by_cases eb : b = a
            · rw [if_pos ⟨eb, rfl⟩, eb, hfa]
              exact ⟨fun z => absurd (Option.some.inj z).symm e3, fun z => by cases z⟩
            · rw [if_neg (fun z => eb z.1)]
          rw [hsl 2 (.inl rfl), hsl 3 (.inr (.inl rfl)), hsl 4 (.inr (.inr rfl))]
          have hqq : R.1 12 q' = nI q → q' ≠ q := fun z w => by
            subst w
            exact frp_no F (by omega) (by omega) (by omega) (Nat.le_refl _) z
          rcases h0 with z | z
          · have hno := hJ.no (by rw [z]; decide)
            rw [hno 2 (.inl rfl), hno 3 (.inr (.inl rfl)), hno 4 (.inr (.inr rfl))]
            refine ⟨fun w => ?_, fun w => ?_⟩
            · exfalso
              have hw := w.2
              rw [if_neg (hqq w.1)] at hw
              have := T.pa q' q (by omega) hp w.1 hw
              rw [z] at this
              exact absurd this (by decide)
            · rcases w with w | w | w <;> cases w
          · rw [← hJ.ch z q' (by omega)]
            refine ⟨fun w => ⟨w.1, ?_⟩, fun w => ⟨w.1, ?_⟩⟩
            · have hw := w.2
              rw [if_neg (hqq w.1)] at hw
              exact hw
            · rw [if_neg (hqq w.1)]
              exact w.2
      · rw [if_neg e2] at h2
        rw [if_neg (show ¬ (2 = a ∧ q = p) from fun z => e2 z.2), if_neg (show ¬ (3 = a ∧ q = p) from fun z => e2 z.2), if_neg (show ¬ (4 = a ∧ q = p) from fun z => e2 z.2)]
        by_cases e3 : q' = n
        · subst e3
          rw [if_pos rfl, if_pos rfl]
          refine ⟨fun w => ?_, fun w => ?_⟩
          · exact absurd ((nI_eq (by omega) (by omega)).mp w.1).symm e2
          · exfalso
            rcases w with w | w | w
            · exact absurd (hJ.lt h2 2 _ (.inl rfl) w) (by omega)
            · exact absurd (hJ.lt h2 3 _ (.inr (.inl rfl)) w) (by omega)
            · exact absurd (hJ.lt h2 4 _ (.inr (.inr rfl)) w) (by omega)
        · rw [if_neg e3, if_neg e3, ← hJ.ch h2 q' (by omega)]
          by_cases e4 : q' = p
          · rw [if_pos e4, e4]
            refine ⟨fun w => ⟨w.1, ?_⟩, fun w => ⟨w.1, by decide⟩⟩
            rcases h0 with z | z
            · rw [z]; decide
            · rw [z]; decide
          · rw [if_neg e4]
  · intro h2 b q' hb hq'
    rw [g11] at h2
    rw [hr b q (by omega) (by omega)] at hq'
    by_cases e : q = n
    · rw [if_pos e] at h2
      exact absurd h2 hk2.1
    · rw [if_neg e] at hq' h2
      have hJ := J.pp q (by omega)
      by_cases e2 : b = a ∧ q = p
      · rw [if_pos e2] at hq'
        cases hq'
        omega
      · rw [if_neg e2] at hq'
        by_cases e3 : q = p
        · subst e3
          rcases h0 with z | z
          · have := hJ.no (by rw [z]; decide) b hb
            rw [this] at hq'
            cases hq'
          · have := hJ.lt z b q' hb hq'
            omega
        · rw [if_neg e3] at h2
          have := hJ.lt h2 b q' hb hq'
          omega
  · intro h2 b hb
    rw [g11] at h2
    rw [hr b q (by omega) (by omega)]
    by_cases e : q = n
    · rw [if_pos e, if_neg (by omega)]
    · rw [if_neg e] at h2
      rw [if_neg e]
      by_cases e3 : q = p
      · rw [if_pos e3] at h2
        exact absurd rfl h2
      · rw [if_neg e3] at h2
        rw [if_neg (fun z => e3 z.2)]
        exact (J.pp q (by omega)).no h2 b hb
/-- a new sheet -/
theorem PI_root {s w hh : Int32} (J : PI V R n) (F : frp (R.1 12) n) (hn : n < 400) (h14 : V'.i 14 0 = nI (n + 1)) (hQ : n + 1 ≤ nQ V') (hi : ∀ c q, 8 ≤ c → c ≤ 13 → V'.i c q = if q = n then tb s 0 0 w hh c else V.i c q) (hr : ∀ b q, 1 ≤ b → b ≤ 4 → V'.r b q = if q = n then none else V.r b q) : PI V' (mAdd R n s 0 0 w hh 0 (-1)) (n + 1) := by
  have g12 : ∀ q, (mAdd R n s 0 0 w hh 0 (-1)).1 12 q = if q = n then -1 else R.1 12 q := fun q => mAdd_g (by decide) (by decide)
  have g11 : ∀ q, (mAdd R n s 0 0 w hh 0 (-1)).1 11 q = if q = n then 0 else R.1 11 q := fun q => mAdd_g (by decide) (by decide)
  refine ⟨h14, ⟨hQ, by omega⟩, fun q hq => ⟨?_, ?_, ?_, ?_, ?_⟩⟩
  · intro c h8 h13
    rw [hi c q h8 h13, mAdd_g (by omega) (by omega)]
    by_cases e : q = n
    · rw [if_pos e, if_pos e]
      have : c = 8 ∨ c = 9 ∨ c = 10 ∨ c = 11 ∨ c = 12 ∨ c = 13 := by omega
      rcases this with rfl | rfl | rfl | rfl | rfl | rfl <;> rfl
    · rw [if_neg e, if_neg e, (J.pp q (by omega)).v c h8 h13]
  · rw [hr 1 q (by decide) (by decide), g12]
    by_cases e : q = n
    · rw [if_pos e, if_pos e]
      exact .inl ⟨rfl, by decide⟩
    · rw [if_neg e, if_neg e]
      exact (J.pp q (by omega)).w
  · intro h2 q' hq'
    rw [g11] at h2
    rw [g12, g11, hr 2 q (by decide) (by decide), hr 3 q (by decide) (by decide), hr 4 q (by decide) (by decide)]
    by_cases e : q = n
    · rw [if_pos e] at h2
      exact absurd h2 (by decide)
    · rw [if_neg e] at h2
      rw [if_neg e, if_neg e, if_neg e]
      have hJ := J.pp q (by omega)
      by_cases e3 : q' = n
      · subst e3
        rw [if_pos rfl, if_pos rfl]
        refine ⟨fun w => ?_, fun w => ?_⟩
        · exfalso
          exact nI_pos (n := q) (by omega) (by rw [← w.1]; decide)
        · exfalso
          rcases w with w | w | w
          · exact absurd (hJ.lt h2 2 _ (.inl rfl) w) (by omega)
          · exact absurd (hJ.lt h2 3 _ (.inr (.inl rfl)) w) (by omega)
          · exact absurd (hJ.lt h2 4 _ (.inr (.inr rfl)) w) (by omega)
      · rw [if_neg e3, if_neg e3]
        exact hJ.ch h2 q' (by omega)
  · intro h2 b q' hb hq'
    rw [g11] at h2
    rw [hr b q (by omega) (by omega)] at hq'
    by_cases e : q = n
    · rw [if_pos e] at h2
      exact absurd h2 (by decide)
    · rw [if_neg e] at hq' h2
      have := (J.pp q (by omega)).lt h2 b q' hb hq'
      omega
  · intro h2 b hb
    rw [g11] at h2
    rw [hr b q (by omega) (by omega)]
    by_cases e : q = n
    · rw [if_pos e]
    · rw [if_neg e] at h2
      rw [if_neg e]
      exact (J.pp q (by omega)).no h2 b hb
end PP
