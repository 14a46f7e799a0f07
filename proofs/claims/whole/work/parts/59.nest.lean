/-! NESTING, without the heap: what is laid in one try; freed again, all is as before -/
section NP
variable {n m p q j k : Nat} {po pk pk1 : Nat → Int32} {R R0 : MR} {f : Nat → Nat} {w hh : Int32}
theorem RT_congr {A B : Nat → Prop} {pk0 : Nat → Int32} (h : ∀ q, A q ↔ B q) (T : RT po pk0 A pk n) : RT po pk0 B pk n := by
  have : A = B := funext fun q => propext (h q)
  rw [← this]
  exact T
/-- freed in the class's order -/
def tkc (n : Nat) (po : Nat → Int32) (f : Nat → Nat) (pk : Nat → Int32) : Nat → Nat → Int32
  | 0 => pk
  | i + 1 => fre n po (tkc n po f pk i) (f i)
theorem tkc_RT (F : frp po n) (hn : n ≤ 400) (T : TI po pk n) {c : Nat} (hf : ∀ i, i < c → f i < n ∧ pk (f i) = 1) (hd : ∀ a b, a < b → b < c → f a ≠ f b) : ∀ i, i ≤ c → RT po pk (fun q => ∃ a, a < i ∧ q = f a) (tkc n po f pk i) n ∧ (∀ q, n ≤ q → tkc n po f pk i q = pk q) ∧ ∀ a, i ≤ a → a < c → tkc n po f pk i (f a) = 1
  | 0, _ => ⟨RT_congr (fun q => ⟨False.elim, fun ⟨a, ha, _⟩ => absurd ha (Nat.not_lt_zero a)⟩) (RT.refl T), fun _ _ => rfl, fun a _ ha => (hf a ha).2⟩
  | i + 1, hi => by
    obtain ⟨T1, T2, T3⟩ := tkc_RT F hn T hf hd i (by omega)
    obtain ⟨U1, U2⟩ := fre_RT T1 F hn (hf i (by omega)).1 (T3 i (Nat.le_refl _) (by omega))
    have U3 : RT po pk (fun q => ∃ a, a < i + 1 ∧ q = f a) (tkc n po f pk (i + 1)) n := RT_congr (fun q => ⟨fun z => by
      rcases z with ⟨a, ha, z⟩ | z
      · exact ⟨a, by omega, z⟩
      · exact ⟨i, by omega, z⟩, fun ⟨a, ha, z⟩ => by
      by_cases e : a = i
      · exact .inr (by rw [z, e])
      · exact .inl ⟨a, by omega, z⟩⟩) U1
    refine ⟨U3, fun q hq => (U2 q hq).trans (T2 q hq), fun a ha1 ha2 => ?_⟩
    refine (U3.2.2.1 (f a) (hf a ha2).1).mpr ⟨(hf a ha2).2, ?_⟩
    rintro ⟨b, hb, e⟩
    exact hd b a (by omega) ha2 e.symm
theorem tks_RT (F : frp po n) (hn : n ≤ 400) : ∀ (c : Nat) (A : Nat → Prop) (pk1 : Nat → Int32), RT po pk A pk1 n → (∀ i, i < c → f i < n ∧ pk1 (f i) = 1) → (∀ a b, a < b → b < c → f a ≠ f b) → RT po pk (fun q => A q ∨ ∃ a, a < c ∧ q = f a) (tks n po f c pk1) n ∧ ∀ q, n ≤ q → tks n po f c pk1 q = pk1 q
  | 0, A, pk1, T, _, _ => ⟨RT_congr (fun q => ⟨.inl, fun z => z.elim id fun ⟨a, ha, _⟩ => absurd ha (Nat.not_lt_zero a)⟩) T, fun _ _ => rfl⟩
  | c + 1, A, pk1, T, hf, hd => by
    obtain ⟨U1, U2⟩ := fre_RT T F hn (hf c (by omega)).1 (hf c (by omega)).2
    obtain ⟨W1, W2⟩ := tks_RT F hn c _ (fre n po pk1 (f c)) U1 (fun i hi => ⟨(hf i (by omega)).1, (U1.2.2.1 (f i) (hf i (by omega)).1).mpr (by
      have := (T.2.2.1 (f i) (hf i (by omega)).1).mp (hf i (by omega)).2
      exact ⟨this.1, fun z => z.elim this.2 (hd i c hi (by omega))⟩)⟩) (fun a b ha hb => hd a b ha (by omega))
    refine ⟨RT_congr (fun q => ⟨fun z => ?_, fun z => ?_⟩) W1, fun q hq => (W2 q hq).trans (U2 q hq)⟩
    · rcases z with (z | z) | ⟨a, ha, z⟩
      · exact .inl z
      · exact .inr ⟨c, by omega, z⟩
      · exact .inr ⟨a, by omega, z⟩
    · rcases z with z | ⟨a, ha, z⟩
      · exact .inl (.inl z)
      · by_cases e : a = c
        · exact .inl (.inr (by rw [z, e]))
        · exact .inr ⟨a, by omega, z⟩
/-- the order doesn't matter -/
theorem tks_tkc (F : frp po n) (hn : n ≤ 400) (T : TI po pk n) {c : Nat} (hf : ∀ i, i < c → f i < n ∧ pk (f i) = 1) (hd : ∀ a b, a < b → b < c → f a ≠ f b) : tks n po f c pk = tkc n po f pk c := by
  obtain ⟨T1, T2, _⟩ := tkc_RT F hn T hf hd c (Nat.le_refl _)
  obtain ⟨U1, U2⟩ := tks_RT (pk := pk) F hn c (fun _ => False) pk (RT.refl T) hf hd
  have U1 := RT_congr (B := fun q => ∃ a, a < c ∧ q = f a) (fun q => ⟨fun z => z.elim False.elim id, .inr⟩) U1
  funext q
  by_cases c : q < n
  · exact RT_uq U1 T1 F hn q c
  · rw [U2 q (by omega), T2 q (by omega)]
/-! one try -/
def jf (R : MR) (j i : Nat) : Nat := tN (R.1 17 (6 * j + i))
theorem layX_pk {n p : Nat} (hp : p < n) : ∀ q, q < n + layN R p w hh → (layX R n p w hh).1 11 q = if q < n then (if q = p then 2 else R.1 11 q) else if q = n then 1 else 0 := by
  have g : ∀ {R : MR} {n : Nat} {s x y w h k o : Int32} {q : Nat}, (mAdd R n s x y w h k o).1 11 q = if q = n then k else R.1 11 q := fun {R n s x y w h k o q} => mAdd_g (by decide) (by decide)
  have g1 : ∀ q, (lay1 R n p w hh).1 11 q = if q = n then 1 else if q = p then 2 else R.1 11 q := fun q => by
    show (mAdd _ _ _ _ _ _ _ _ _).1 11 q = _
    rw [g]
    by_cases e : q = n
    · rw [if_pos e, if_pos e]
    · rw [if_neg e, if_neg e]
      show upd (R.1 11) p 2 q = _
      rfl
  intro q hq
  unfold layX
  unfold layN at hq
  have e1 : ∀ {R : MR} {n : Nat}, (lay2 R n p w hh).1 11 q = if q = n then 0 else R.1 11 q := fun {R n} => g
  have e2 : ∀ {R : MR} {n : Nat}, (lay3 R n p w hh).1 11 q = if q = n then 0 else R.1 11 q := fun {R n} => g
  split <;> split <;> (try rw [e2]) <;> (try rw [e1]) <;> rw [g1] <;> simp_all only [if_true, if_false] <;> (repeat' split) <;> first | rfl | omega
theorem layX_po {n p : Nat} : ∀ q, q < n + layN R p w hh → (layX R n p w hh).1 12 q = if q < n then R.1 12 q else nI p := by
  have g : ∀ {R : MR} {n : Nat} {s x y w h k o : Int32} {q : Nat}, (mAdd R n s x y w h k o).1 12 q = if q = n then o else R.1 12 q := fun {R n s x y w h k o q} => mAdd_g (by decide) (by decide)
  have g1 : ∀ q, (lay1 R n p w hh).1 12 q = if q = n then nI p else R.1 12 q := fun q => by
    show (mAdd _ _ _ _ _ _ _ _ _).1 12 q = _
    rw [g]
    rfl
  intro q hq
  unfold layX
  unfold layN at hq
  have e1 : ∀ {R : MR} {n : Nat}, (lay2 R n p w hh).1 12 q = if q = n then nI p else R.1 12 q := fun {R n} => g
  have e2 : ∀ {R : MR} {n : Nat}, (lay3 R n p w hh).1 12 q = if q = n then nI p else R.1 12 q := fun {R n} => g
  split <;> split <;> (try rw [e2]) <;> (try rw [e1]) <;> rw [g1] <;> simp_all only [if_true, if_false] <;> (repeat' split) <;> first | rfl | omega
/-- what has been laid in this try -/
abbrev NS (R0 R : MR) (j k : Nat) : Prop := (∀ i, i < k → jf R j i < nP R ∧ nP R0 ≤ jf R j i ∧ R.1 17 (6 * j + i) = nI (jf R j i)) ∧ (∀ a b, a < b → b < k → jf R j a < jf R j b) ∧ (∀ q, q < nP R → (R.1 11 q = 1 ↔ (q < nP R0 ∧ R0.1 11 q = 1) ∨ ∃ i, i < k ∧ q = jf R j i)) ∧ (∀ q, q < nP R → (R.1 11 q = 3 ↔ q < nP R0 ∧ R0.1 11 q = 3)) ∧ (∀ q, q < nP R0 → R.1 11 q = R0.1 11 q ∨ (R0.1 11 q = 0 ∧ R.1 11 q = 2 ∧ ∃ i, i < k ∧ R.1 12 (jf R j i) = nI q)) ∧ ∀ q, nP R0 ≤ q → q < nP R → ∃ p, p < q ∧ R.1 12 q = nI p ∧ (p < nP R0 → R0.1 11 p = 0)
theorem NS_0 : NS R R j 0 := ⟨fun i hi => absurd hi (Nat.not_lt_zero i), fun a b _ hb => absurd hb (Nat.not_lt_zero b), fun q hq => ⟨fun z => .inl ⟨hq, z⟩, fun z => z.elim (fun z => z.2) fun ⟨i, hi, _⟩ => absurd hi (Nat.not_lt_zero i)⟩, fun q hq => ⟨fun z => ⟨hq, z⟩, fun z => z.2⟩, fun q _ => .inl rfl, fun q h1 h2 => absurd h1 (by omega)⟩
theorem NS_lay (N : NS R0 R j k) (hn : nP R0 ≤ nP R) (h : layP R (nP R) w hh = some p) : NS R0 (mA (layX R (nP R) p w hh) 17 (upd (R.1 17) (6 * j + k) (nI (nP R)))) j (k + 1) := by
  obtain ⟨hp, h4, hb⟩ := layP_ok h
  have hp0 := (bst_lt _ _ hb).2.1
  obtain ⟨N1, N2, N3, N4, N5, N6⟩ := N
  have eN : nP (mA (layX R (nP R) p w hh) 17 (upd (R.1 17) (6 * j + k) (nI (nP R)))) = nP R + layN R p w hh := by
    show ((layX R (nP R) p w hh).2.1 14).toNatClampNeg = _
    rw [layX_n, nI_clamp (by omega)]
  have hL : 0 < layN R p w hh := by unfold layN; omega
  have e11 : ∀ q, (mA (layX R (nP R) p w hh) 17 (upd (R.1 17) (6 * j + k) (nI (nP R)))).1 11 q = (layX R (nP R) p w hh).1 11 q := fun q => rfl
  have e12 : ∀ q, (mA (layX R (nP R) p w hh) 17 (upd (R.1 17) (6 * j + k) (nI (nP R)))).1 12 q = (layX R (nP R) p w hh).1 12 q := fun q => rfl
  have e17 : ∀ i, (mA (layX R (nP R) p w hh) 17 (upd (R.1 17) (6 * j + k) (nI (nP R)))).1 17 (6 * j + i) = if i = k then nI (nP R) else R.1 17 (6 * j + i) := fun i => by
    show upd (R.1 17) (6 * j + k) (nI (nP R)) (6 * j + i) = _
    by_cases e : i = k
    · rw [if_pos e, e, pk_us]
    · rw [if_neg e, pk_un (by omega)]
  have ejf : ∀ i, jf (mA (layX R (nP R) p w hh) 17 (upd (R.1 17) (6 * j + k) (nI (nP R)))) j i = if i = k then nP R else jf R j i := fun i => by
    unfold jf
    rw [e17]
    by_cases e : i = k
    · rw [if_pos e, if_pos e]; exact tN_nI (by omega)
    · rw [if_neg e, if_neg e]
  have hp00 : p < nP R0 → R0.1 11 p = 0 := fun z => by
    rcases N5 p z with w | w
    · rw [← w]; exact hp0
    · exact w.1
  refine ⟨?_, ?_, ?_, ?_, ?_, ?_⟩
  · intro i hi
    rw [ejf, eN, e17]
    by_cases e : i = k
    · rw [if_pos e, if_pos e]
      exact ⟨by omega, hn, rfl⟩
    · rw [if_neg e, if_neg e]
      have := N1 i (by omega)
      exact ⟨by omega, this.2⟩
  · intro a b hab hb
    rw [ejf, ejf, if_neg (by omega)]
    by_cases e : b = k
    · rw [if_pos e]
      exact (N1 a (by omega)).1
    · rw [if_neg e]
      exact N2 a b hab (by omega)
  · intro q hq
    rw [eN] at hq
    rw [e11, layX_pk hp q hq]
    have hex : (∃ i, i < k + 1 ∧ q = jf (mA (layX R (nP R) p w hh) 17 (upd (R.1 17) (6 * j + k) (nI (nP R)))) j i) ↔ q = nP R ∨ ∃ i, i < k ∧ q = jf R j i := by
      refine ⟨fun ⟨i, hi, z⟩ => ?_, fun z => ?_⟩
      · rw [ejf] at z
        by_cases e : i = k
        · rw [if_pos e] at z; exact .inl z
        · rw [if_neg e] at z; exact .inr ⟨i, by omega, z⟩
      · rcases z with z | ⟨i, hi, z⟩
        · exact ⟨k, by omega, by rw [ejf, if_pos rfl]; exact z⟩
        · exact ⟨i, by omega, by rw [ejf, if_neg (by omega)]; exact z⟩
    rw [hex]
    by_cases c : q < nP R
    · rw [if_pos c]
      by_cases e : q = p
      · rw [if_pos e]
        have hno := N3 q c
        rw [e, hp0] at hno
        refine ⟨fun z => absurd z (by decide), fun z => ?_⟩
        rw [e] at z
        rcases z with z | z | z
        · exact absurd (hno.mpr (.inl z)) (by decide)
        · omega
        · exact absurd (hno.mpr (.inr z)) (by decide)
      · rw [if_neg e, N3 q c]
        refine ⟨fun z => z.imp id .inr, fun z => ?_⟩
        rcases z with z | z | z
        · exact .inl z
        · omega
        · exact .inr z
    · rw [if_neg c]
      by_cases e : q = nP R
      · rw [if_pos e]
        exact ⟨fun _ => .inr (.inl e), fun _ => rfl⟩
      · rw [if_neg e]
        refine ⟨fun z => absurd z (by decide), fun z => ?_⟩
        rcases z with z | z | ⟨i, hi, z⟩
        · omega
        · exact absurd z e
        · have := (N1 i hi).1
          omega
  · intro q hq
    rw [eN] at hq
    rw [e11, layX_pk hp q hq]
    by_cases c : q < nP R
    · rw [if_pos c]
      by_cases e : q = p
      · rw [if_pos e]
        refine ⟨fun z => absurd z (by decide), fun z => ?_⟩
        rw [e] at z
        have := hp00 z.1
        rw [this] at z
        exact absurd z.2 (by decide)
      · rw [if_neg e]
        exact N4 q c
    · rw [if_neg c]
      refine ⟨fun z => ?_, fun z => by omega⟩
      split at z <;> exact absurd z (by decide)
  · intro q hq
    rw [e11, layX_pk hp q (by omega), if_pos (by omega)]
    by_cases e : q = p
    · rw [if_pos e]
      refine .inr ⟨by rw [e]; exact hp00 (by omega), rfl, k, by omega, ?_⟩
      rw [ejf, if_pos rfl, e12, layX_po (nP R) (by omega), if_neg (by omega), e]
    · rw [if_neg e]
      rcases N5 q hq with z | ⟨z1, z2, i, hi, z3⟩
      · exact .inl z
      · refine .inr ⟨z1, z2, i, by omega, ?_⟩
        have := (N1 i hi).1
        rw [ejf, if_neg (by omega), e12, layX_po _ (by omega), if_pos this]
        exact z3
  · intro q h1 hq
    rw [eN] at hq
    rw [e12, layX_po q hq]
    by_cases c : q < nP R
    · rw [if_pos c]
      exact N6 q h1 c
    · rw [if_neg c]
      exact ⟨p, by omega, rfl, hp00⟩
def rsf (R0 : MR) : Nat → Int32 := fun q => if q < nP R0 then R0.1 11 q else 3
theorem rsf_l (h : q < nP R0) : rsf R0 q = R0.1 11 q := if_pos h
theorem rsf_g (h : ¬ q < nP R0) : rsf R0 q = 3 := if_neg h
/-- all that was laid is freed: the states are as before -/
theorem NS_back (N : NS R0 R j k) (hk : k ≤ 6) (I : nsI R0 j k R) (T : TI (R.1 12) (R.1 11) (nP R)) (F : frp (R.1 12) (nP R)) (T0 : TI (R0.1 12) (R0.1 11) (nP R0)) : ∀ q, q < nP R0 → tks (nP R) (R.1 12) (jf R j) k (R.1 11) q = R0.1 11 q := by
  obtain ⟨N1, N2, N3, N4, N5, N6⟩ := N
  have h4 := I.n4
  have hnn := I.nn
  have h12 : ∀ q, q < nP R0 → R.1 12 q = R0.1 12 q := fun q hq => I.ps 12 (by decide) (by decide) q hq
  obtain ⟨U1, _⟩ := tks_RT (pk := R.1 11) (f := jf R j) F h4 k (fun _ => False) (R.1 11) (RT.refl T) (fun i hi => ⟨(N1 i hi).1, (N3 _ (N1 i hi).1).mpr (.inr ⟨i, hi, rfl⟩)⟩) (fun a b ha hb => by have := N2 a b ha hb; omega)
  have U1 := RT_congr (B := fun q => ∃ a, a < k ∧ q = jf R j a) (fun q => ⟨fun z => z.elim False.elim id, .inr⟩) U1
  have hlt : ∀ q p, q < nP R → p < nP R → R.1 12 q = nI p → p < q := by
    intro q p hq hp ho
    rcases Nat.lt_or_ge p q with z | z
    · exact z
    · exact absurd ho (frp_no F h4 hq (by omega) z)
  have U2 : RT (R.1 12) (R.1 11) (fun q => ∃ a, a < k ∧ q = jf R j a) (rsf R0) (nP R) := by
    refine ⟨⟨?_, ?_, ?_⟩, ?_, ?_, ?_, ?_⟩
    · intro q hq
      by_cases c : q < nP R0
      · rw [rsf_l c]; exact T0.k q c
      · rw [rsf_g c]; exact .inr (.inr (.inr rfl))
    · intro q p hq hp ho h3
      by_cases c : q < nP R0
      · rw [rsf_l c] at h3
        have := hlt q p hq hp ho
        rw [rsf_l (by omega)]
        exact T0.pa q p c (by omega) (by rw [← h12 q c]; exact ho) h3
      · rw [rsf_g c] at h3
        exact absurd rfl h3
    · intro p hp h2
      by_cases c : p < nP R0
      · rw [rsf_l c] at h2
        obtain ⟨q, hq, ho, hs⟩ := T0.ch p c h2
        refine ⟨q, by omega, by rw [h12 q hq]; exact ho, ?_⟩
        rw [rsf_l hq]
        exact hs
      · rw [rsf_g c] at h2
        exact absurd h2 (by decide)
    · intro q hq h3
      have := (N4 q hq).mp h3
      rw [rsf_l this.1]
      exact this.2
    · intro q hq
      rw [N3 q hq]
      by_cases c : q < nP R0
      · rw [rsf_l c]
        refine ⟨fun z => ⟨.inl ⟨c, z⟩, fun ⟨a, ha, w⟩ => ?_⟩, fun z => ?_⟩
        · have := (N1 a ha).2.1
          omega
        · exact (z.1.resolve_right z.2).2
      · rw [rsf_g c]
        refine ⟨fun z => absurd z (by decide), fun z => ?_⟩
        exact absurd (z.1.resolve_right z.2).1 c
    · intro q p hq hp ho h3 h3' h2
      by_cases c : q < nP R0
      · rw [rsf_l c] at h3'
        exact h3 ((N4 q hq).mpr ⟨c, h3'⟩)
      · obtain ⟨p', hp', ho', h0⟩ := N6 q (by omega) hq
        have : p' = p := (nI_eq (by omega) (by omega)).mp (ho'.symm.trans ho)
        subst this
        by_cases c2 : p' < nP R0
        · rw [rsf_l c2, h0 c2] at h2
          exact absurd h2 (by decide)
        · rw [rsf_g c2] at h2
          exact absurd h2 (by decide)
    · intro q hq ho h3 h3'
      by_cases c : q < nP R0
      · rw [rsf_l c] at h3'
        exact h3 ((N4 q hq).mpr ⟨c, h3'⟩)
      · obtain ⟨p', hp', ho', h0⟩ := N6 q (by omega) hq
        rw [ho'] at ho
        exact nI_pos (by omega) ho
  intro q hq
  have := RT_uq U1 U2 F h4 q (by omega)
  rw [this]
  exact rsf_l hq
end NP
