/-! JOINING, without the heap: what freeing a part keeps; the order of freeing doesn't matter -/
section JN
variable {n p q : Nat} {po pk pk' pk1 pk2 pk3 : Nat → Int32} {o : Int32}
theorem afr_iff : ∀ m, afr po pk o m = true ↔ ∀ q, q < m → po q = o → pk q = 0 ∨ pk q = 3
  | 0 => ⟨fun _ q hq => absurd hq (Nat.not_lt_zero q), fun _ => rfl⟩
  | m + 1 => by
    show (afr po pk o m && (!decide (po m = o) || (decide (pk m = 0) || decide (pk m = 3)))) = true ↔ _
    rw [Bool.and_eq_true, afr_iff m]
    refine ⟨fun h q hq ho => ?_, fun h => ⟨fun q hq => h q (by omega), ?_⟩⟩
    · by_cases e : q = m
      · subst e
        have h2 := h.2
        rw [decide_eq_true ho, Bool.not_true, Bool.false_or, Bool.or_eq_true] at h2
        exact h2.imp of_decide_eq_true of_decide_eq_true
      · exact h.1 q (by omega) ho
    · by_cases ho : po m = o
      · rcases h m (by omega) ho with z | z
        · simp [z]
        · simp [z]
      · simp [ho]
/-- in the midst of joining: o is the next whole to look at -/
abbrev TM (po pk : Nat → Int32) (n : Nat) (o : Int32) : Prop := (∀ q, q < n → pk q = 0 ∨ pk q = 1 ∨ pk q = 2 ∨ pk q = 3) ∧ (∀ q p, q < n → p < n → po q = nI p → pk q ≠ 3 → pk p = 2) ∧ (∀ p, p < n → pk p = 2 → nI p ≠ o → ∃ q, q < n ∧ po q = nI p ∧ (pk q = 1 ∨ pk q = 2)) ∧ (o < 0 ∨ ∃ r, r < n ∧ o = nI r ∧ pk r = 2)
theorem TM.k (h : TM po pk n o) : ∀ q, q < n → pk q = 0 ∨ pk q = 1 ∨ pk q = 2 ∨ pk q = 3 := h.1
theorem TM.pa (h : TM po pk n o) : ∀ q p, q < n → p < n → po q = nI p → pk q ≠ 3 → pk p = 2 := h.2.1
theorem TM.ch (h : TM po pk n o) : ∀ p, p < n → pk p = 2 → nI p ≠ o → ∃ q, q < n ∧ po q = nI p ∧ (pk q = 1 ∨ pk q = 2) := h.2.2.1
theorem TM.oo (h : TM po pk n o) : o < 0 ∨ ∃ r, r < n ∧ o = nI r ∧ pk r = 2 := h.2.2.2
/-- what joining does to the states -/
abbrev FR (po pk pk' : Nat → Int32) (n : Nat) : Prop := (∀ q, q < n → pk q = 3 → pk' q = 3) ∧ (∀ q, q < n → (pk' q = 1 ↔ pk q = 1)) ∧ (∀ q, q < n → pk' q = 2 → pk q = 2) ∧ (∀ q p, q < n → p < n → po q = nI p → pk q ≠ 3 → pk' q = 3 → pk' p ≠ 2) ∧ (∀ q, q < n → po q < 0 → pk q ≠ 3 → pk' q ≠ 3) ∧ ∀ q, n ≤ q → pk' q = pk q
theorem FR.refl : FR po pk pk n := ⟨fun _ _ h => h, fun _ _ => Iff.rfl, fun _ _ h => h, fun _ _ _ _ _ h h2 => absurd h2 h, fun _ _ _ h => h, fun _ _ => rfl⟩
theorem FR.trans (h : FR po pk1 pk2 n) (h2 : FR po pk2 pk3 n) : FR po pk1 pk3 n := by
  obtain ⟨a1, a2, a3, a4, a5, a6⟩ := h
  obtain ⟨b1, b2, b3, b4, b5, b6⟩ := h2
  refine ⟨fun q hq z => b1 q hq (a1 q hq z), fun q hq => (b2 q hq).trans (a2 q hq), fun q hq z => a3 q hq (b3 q hq z), ?_, ?_, fun q hq => (b6 q hq).trans (a6 q hq)⟩
  · intro q p hq hp ho h3 h3'
    by_cases c : pk2 q = 3
    · exact fun z => a4 q p hq hp ho h3 c (b3 p hp z)
    · exact b4 q p hq hp ho c h3'
  · intro q hq ho h3
    exact b5 q hq ho (a5 q hq ho h3)
/-- one step of joining -/
def jst (n : Nat) (po pk : Nat → Int32) (r : Nat) : Nat → Int32 := upd (gon po pk (nI r) n) r 0
theorem jst_r {r : Nat} : jst n po pk r r = 0 := pk_us
theorem jst_o {r : Nat} (h : q ≠ r) : jst n po pk r q = if q < n ∧ po q = nI r then 3 else pk q := pk_un h
theorem jst_TM {r : Nat} (T : TM po pk n (nI r)) (F : frp po n) (hn : n ≤ 400) (hr : r < n) (ha : ∀ q, q < n → po q = nI r → pk q = 0 ∨ pk q = 3) : TM po (jst n po pk r) n (po r) ∧ FR po pk (jst n po pk r) n := by
  have h2 : pk r = 2 := by
    rcases T.oo with z | ⟨r', hr', e, z⟩
    · exact absurd z (nI_pos (by omega))
    · have := (nI_eq (by omega) (by omega)).mp e
      rw [this]; exact z
  have hrr : po r ≠ nI r := frp_no F hn hr (by omega) (Nat.le_refl _)
  refine ⟨⟨?_, ?_, ?_, ?_⟩, ?_, ?_, ?_, ?_, ?_, ?_⟩
  · intro q hq
    by_cases e : q = r
    · rw [e, jst_r]; exact .inl rfl
    · rw [jst_o e]
      by_cases c : q < n ∧ po q = nI r
      · rw [if_pos c]; exact .inr (.inr (.inr rfl))
      · rw [if_neg c]; exact T.k q hq
  · intro q p hq hp ho h3
    have hp2 : pk p = 2 ∧ p ≠ r := by
      by_cases e : q = r
      · rw [e] at ho
        refine ⟨T.pa r p hr hp ho (by rw [h2]; decide), fun z => hrr (by rw [ho, z])⟩
      · rw [jst_o e] at h3
        by_cases c : q < n ∧ po q = nI r
        · rw [if_pos c] at h3; exact absurd rfl h3
        · rw [if_neg c] at h3
          exact ⟨T.pa q p hq hp ho h3, fun z => c ⟨hq, by rw [ho, z]⟩⟩
    rw [jst_o hp2.2, if_neg]
    · exact hp2.1
    · intro c
      rcases ha p hp c.2 with z | z <;> rw [hp2.1] at z <;> exact absurd z (by decide)
  · intro p hp hp2 hne
    have e : p ≠ r := fun z => by
      rw [z, jst_r] at hp2
      exact absurd hp2 (by decide)
    rw [jst_o e] at hp2
    by_cases c : p < n ∧ po p = nI r
    · rw [if_pos c] at hp2; exact absurd hp2 (by decide)
    · rw [if_neg c] at hp2
      obtain ⟨q, hq, ho, hs⟩ := T.ch p hp hp2 (fun z => e ((nI_eq (by omega) (by omega)).mp z))
      refine ⟨q, hq, ho, ?_⟩
      by_cases e2 : q = r
      · exact absurd (by rw [← ho, e2]) hne
      · rw [jst_o e2, if_neg (fun z => e ((nI_eq (by omega) (by omega)).mp (by rw [← ho]; exact z.2)))]
        exact hs
  · rcases F r hr with z | ⟨r', hr', z⟩
    · exact .inl z
    · refine .inr ⟨r', by omega, z, ?_⟩
      have h2' := T.pa r r' hr (by omega) z (by rw [h2]; decide)
      rw [jst_o (by omega), if_neg]
      · exact h2'
      · intro c
        rcases ha r' (by omega) c.2 with w | w <;> rw [h2'] at w <;> exact absurd w (by decide)
  · intro q hq h3
    have e : q ≠ r := fun z => by
      rw [z, h2] at h3
      exact absurd h3 (by decide)
    rw [jst_o e, h3]
    split <;> rfl
  · intro q hq
    by_cases e : q = r
    · rw [e, jst_r, h2]; exact ⟨fun z => absurd z (by decide), fun z => absurd z (by decide)⟩
    · rw [jst_o e]
      by_cases c : q < n ∧ po q = nI r
      · rw [if_pos c]
        refine ⟨fun z => absurd z (by decide), fun z => ?_⟩
        rcases ha q hq c.2 with w | w <;> rw [z] at w <;> exact absurd w (by decide)
      · rw [if_neg c]
  · intro q hq hq2
    by_cases e : q = r
    · rw [e, jst_r] at hq2; exact absurd hq2 (by decide)
    · rw [jst_o e] at hq2
      by_cases c : q < n ∧ po q = nI r
      · rw [if_pos c] at hq2; exact absurd hq2 (by decide)
      · rw [if_neg c] at hq2; exact hq2
  · intro q p hq hp ho h3 h3' hp2
    have e : q ≠ r := fun z => by
      rw [z, jst_r] at h3'
      exact absurd h3' (by decide)
    rw [jst_o e] at h3'
    by_cases c : q < n ∧ po q = nI r
    · have : p = r := (nI_eq (by omega) (by omega)).mp (by rw [← ho]; exact c.2)
      rw [this, jst_r] at hp2
      exact absurd hp2 (by decide)
    · rw [if_neg c] at h3'
      exact h3 h3'
  · intro q hq ho h3
    by_cases e : q = r
    · rw [e, jst_r]; decide
    · rw [jst_o e, if_neg (fun z => nI_pos (n := r) (by omega) (by rw [← z.2]; exact ho))]
      exact h3
  · intro q hq
    rw [jst_o (by omega), if_neg (fun z => by omega)]
theorem clb_ok (F : frp po n) (hn : n ≤ 400) : ∀ (f : Nat) (pk : Nat → Int32) (o : Int32), TM po pk n o → (∀ r, o = nI r → r < n → r < f) → TI po (clb n po f pk o) n ∧ FR po pk (clb n po f pk o) n := by
  have hfin : ∀ (pk : Nat → Int32) (o : Int32), TM po pk n o → ¬ (¬ o < 0 ∧ afr po pk o n = true) → TI po pk n := by
    intro pk o T c
    refine ⟨T.k, T.pa, fun p hp h2 => ?_⟩
    by_cases e : nI p = o
    · subst e
      have h0 : ¬ nI p < 0 := nI_pos (by omega)
      cases ha : afr po pk (nI p) n with
      | true => exact absurd ⟨h0, ha⟩ c
      | false =>
        have hx : ¬ ∀ q, q < n → po q = nI p → pk q = 0 ∨ pk q = 3 := fun z => by
          rw [(afr_iff n).mpr z] at ha
          cases ha
        obtain ⟨q, hx⟩ := Classical.not_forall.mp hx
        obtain ⟨hq, hx⟩ := Classical.not_imp.mp hx
        obtain ⟨ho, hx⟩ := Classical.not_imp.mp hx
        refine ⟨q, hq, ho, ?_⟩
        rcases T.k q hq with z | z | z | z
        · exact absurd (.inl z) hx
        · exact .inl z
        · exact .inr z
        · exact absurd (.inr z) hx
    · exact T.ch p hp h2 e
  intro f
  induction f with
  | zero =>
    intro pk o T hf
    rcases T.oo with z | ⟨r, hr, e, _⟩
    · exact ⟨hfin pk o T (fun w => w.1 z), FR.refl⟩
    · exact absurd (hf r e hr) (Nat.not_lt_zero r)
  | succ f ih =>
    intro pk o T hf
    unfold clb
    by_cases c : ¬ o < 0 ∧ afr po pk o n = true
    · rw [if_pos c]
      rcases T.oo with z | ⟨r, hr, e, h2⟩
      · exact absurd z c.1
      · subst e
        have er : (nI r).toNatClampNeg = r := nI_clamp (by omega)
        rw [er]
        obtain ⟨T1, F1⟩ := jst_TM T F hn hr ((afr_iff n).mp c.2)
        obtain ⟨T2, F2⟩ := ih (jst n po pk r) (po r) T1 (fun r' e' hr' => by
          have h1 := hf r rfl hr
          rcases F r hr with z | ⟨r2, h3, z⟩
          · rw [e'] at z
            exact absurd z (nI_pos (by omega))
          · have := (nI_eq (by omega) (by omega)).mp (e'.symm.trans z)
            omega)
        exact ⟨T2, F1.trans F2⟩
    · rw [if_neg c]
      exact ⟨hfin pk o T c, FR.refl⟩
/-- a part is freed -/
theorem fre_TM (T : TI po pk n) (F : frp po n) (hn : n ≤ 400) (hp : p < n) (h1 : pk p = 1) : TM po (upd pk p 0) n (po p) := by
  refine ⟨?_, ?_, ?_, ?_⟩
  · intro q hq
    by_cases e : q = p
    · rw [e, pk_us]; exact .inl rfl
    · rw [pk_un e]; exact T.k q hq
  · intro q r hq hr ho h3
    have hl : pk q ≠ 3 := by
      by_cases e : q = p
      · rw [e, h1]; decide
      · rw [pk_un e] at h3; exact h3
    have h2 := T.pa q r hq hr ho hl
    rw [pk_un (fun z => by rw [z, h1] at h2; exact absurd h2 (by decide))]
    exact h2
  · intro r hr h2 hne
    have e : r ≠ p := fun z => by
      rw [z, pk_us] at h2
      exact absurd h2 (by decide)
    rw [pk_un e] at h2
    obtain ⟨q, hq, ho, hs⟩ := T.ch r hr h2
    refine ⟨q, hq, ho, ?_⟩
    rw [pk_un (fun z => hne (by rw [← ho, z]))]
    exact hs
  · rcases F p hp with z | ⟨r, hr, z⟩
    · exact .inl z
    · refine .inr ⟨r, by omega, z, ?_⟩
      rw [pk_un (by omega)]
      exact T.pa p r hp (by omega) z (by rw [h1]; decide)
/-- pk out of pk0, the parts of A freed -/
abbrev RT (po pk0 : Nat → Int32) (A : Nat → Prop) (pk : Nat → Int32) (n : Nat) : Prop := TI po pk n ∧ (∀ q, q < n → pk0 q = 3 → pk q = 3) ∧ (∀ q, q < n → (pk q = 1 ↔ pk0 q = 1 ∧ ¬ A q)) ∧ (∀ q p, q < n → p < n → po q = nI p → pk0 q ≠ 3 → pk q = 3 → pk p ≠ 2) ∧ ∀ q, q < n → po q < 0 → pk0 q ≠ 3 → pk q ≠ 3
theorem RT.refl (T : TI po pk n) : RT po pk (fun _ => False) pk n := ⟨T, fun _ _ h => h, fun _ _ => ⟨fun h => ⟨h, id⟩, fun h => h.1⟩, fun _ _ _ _ _ h h2 => absurd h2 h, fun _ _ _ h => h⟩
theorem fre_RT {A : Nat → Prop} (T : RT po pk1 A pk n) (F : frp po n) (hn : n ≤ 400) (hp : p < n) (h1 : pk p = 1) : RT po pk1 (fun q => A q ∨ q = p) (fre n po pk p) n ∧ ∀ q, n ≤ q → fre n po pk p q = pk q := by
  have T1 := fre_TM T.1 F hn hp h1
  obtain ⟨T2, F2⟩ := clb_ok F hn n (upd pk p 0) (po p) T1 (fun r _ hr => hr)
  obtain ⟨b1, b2, b3, b4, b5, b6⟩ := F2
  obtain ⟨_, a1, a2, a4, a5⟩ := T
  have e3 : ∀ q, upd pk p 0 q = 3 ↔ pk q = 3 := by
    intro q
    by_cases e : q = p
    · rw [e, pk_us, h1]; decide
    · rw [pk_un e]
  have e2 : ∀ q, upd pk p 0 q = 2 ↔ pk q = 2 := by
    intro q
    by_cases e : q = p
    · rw [e, pk_us, h1]; decide
    · rw [pk_un e]
  refine ⟨⟨T2, ?_, ?_, ?_, ?_⟩, ?_⟩
  · intro q hq h3
    exact b1 q hq ((e3 q).mpr (a1 q hq h3))
  · intro q hq
    have hb : clb n po n (upd pk p 0) (po p) q = 1 ↔ upd pk p 0 q = 1 := b2 q hq
    show clb n po n (upd pk p 0) (po p) q = 1 ↔ _
    rw [hb]
    by_cases e : q = p
    · rw [e, pk_us]
      exact ⟨fun z => absurd z (by decide), fun z => absurd (.inr rfl) z.2⟩
    · rw [pk_un e, a2 q hq]
      exact ⟨fun z => ⟨z.1, fun w => w.elim z.2 e⟩, fun z => ⟨z.1, fun w => z.2 (.inl w)⟩⟩
  · intro q r hq hr ho h3 h3'
    by_cases c : pk q = 3
    · exact fun z => a4 q r hq hr ho h3 c ((e2 r).mp (b3 r hr z))
    · exact b4 q r hq hr ho (fun z => c ((e3 q).mp z)) h3'
  · intro q hq ho h3
    exact b5 q hq ho (fun z => a5 q hq ho h3 ((e3 q).mp z))
  · intro q hq
    exact (b6 q hq).trans (pk_un (by omega))
/-- such states are one -/
theorem RT_uq {A : Nat → Prop} {pk0 : Nat → Int32} (T1 : RT po pk0 A pk1 n) (T2 : RT po pk0 A pk2 n) (F : frp po n) (hn : n ≤ 400) : ∀ q, q < n → pk1 q = pk2 q := by
  have hlt : ∀ q p, q < n → p < n → po q = nI p → p < q := by
    intro q p hq hp ho
    rcases Nat.lt_or_ge p q with z | z
    · exact z
    · exact absurd ho (frp_no F hn hq (by omega) z)
  have hone : ∀ {pa pb : Nat → Int32}, RT po pk0 A pa n → RT po pk0 A pb n → ∀ m p, p + m = n → (∀ q, p < q → q < n → pa q = 2 → pb q = 2) → p < n → pa p = 2 → pb p = 2 := by
    intro pa pb Ta Tb m p hm ih hp h2
    obtain ⟨q, hq, ho, hs⟩ := Ta.1.ch p hp h2
    refine Tb.1.pa q p hq hp ho ?_
    rcases hs with z | z
    · have := (Tb.2.2.1 q hq).mpr ((Ta.2.2.1 q hq).mp z)
      rw [this]; decide
    · rw [ih q (hlt q p hq hp ho) hq z]; decide
  have hall : ∀ {pa pb : Nat → Int32}, RT po pk0 A pa n → RT po pk0 A pb n → ∀ m p, p + m = n → ∀ q, p ≤ q → q < n → pa q = 2 → pb q = 2 := by
    intro pa pb Ta Tb m
    induction m with
    | zero => intro p hm q hpq hq; omega
    | succ m ih =>
      intro p hm q hpq hq h2
      have ih := ih (p + 1) (by omega)
      by_cases e : q = p
      · subst e
        exact hone Ta Tb (m + 1) q hm (fun q' h1 h2 => ih q' h1 h2) hq h2
      · exact ih q (by omega) hq h2
  intro q hq
  have h2 : pk1 q = 2 ↔ pk2 q = 2 := ⟨hall T1 T2 n 0 (by omega) q (Nat.zero_le _) hq, hall T2 T1 n 0 (by omega) q (Nat.zero_le _) hq⟩
  have h1 : pk1 q = 1 ↔ pk2 q = 1 := (T1.2.2.1 q hq).trans (T2.2.2.1 q hq).symm
  by_cases c3 : pk0 q = 3
  · rw [T1.2.1 q hq c3, T2.2.1 q hq c3]
  · have h3 : pk1 q = 3 ↔ pk2 q = 3 := by
      have hx : ∀ {pa pb : Nat → Int32}, RT po pk0 A pa n → RT po pk0 A pb n → pa q = 3 → pb q = 3 := by
        intro pa pb Ta Tb z
        rcases F q hq with w | ⟨r, hr, w⟩
        · exact absurd z (Ta.2.2.2.2 q hq w c3)
        · have hr2 := Ta.2.2.2.1 q r hq (by omega) w c3 z
          by_cases y : pb q = 3
          · exact y
          · exact absurd (hall Tb Ta n 0 (by omega) r (Nat.zero_le _) (by omega) (Tb.1.pa q r hq (by omega) w y)) hr2
      exact ⟨hx T1 T2, hx T2 T1⟩
    rcases T1.1.k q hq with z | z | z | z
    · rcases T2.1.k q hq with w | w | w | w
      · rw [z, w]
      · exact absurd (h1.mpr w) (by rw [z]; decide)
      · exact absurd (h2.mpr w) (by rw [z]; decide)
      · exact absurd (h3.mpr w) (by rw [z]; decide)
    · rw [z, h1.mp z]
    · rw [z, h2.mp z]
    · rw [z, h3.mp z]
end JN
