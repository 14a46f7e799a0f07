/-! MENDING, without the heap: the reference's strokes and the class's are one; so are the faults -/
section MN
variable {n m p q r j k i t : Nat} {R R0 R' : MR} {f g : Nat → Nat} {x : Int32}
theorem mnd_x {i : Nat} : ∀ (m k : Nat) (R : MR), k + m ≤ 24 → (∀ c, c ≠ 1 → c ≠ 3 → c ≠ 4 → (mnd i m k R).1 c = R.1 c) ∧ (mnd i m k R).2 = R.2 ∧ (∀ q, q ≠ i → (mnd i m k R).1 1 q = R.1 1 q ∧ ∀ j, j < 24 → (mnd i m k R).1 3 (24 * q + j) = R.1 3 (24 * q + j) ∧ (mnd i m k R).1 4 (24 * q + j) = R.1 4 (24 * q + j))
  | 0, k, R, _ => ⟨fun _ _ _ _ => rfl, rfl, fun _ _ => ⟨rfl, fun _ _ => ⟨rfl, rfl⟩⟩⟩
  | m + 1, k, R, h => by
    unfold mnd
    split
    · obtain ⟨a1, a2, a3⟩ := mnd_x (i := i) m k (mA (mA (mA R 1 (upd (R.1 1) i (nI (k + m)))) 3 (shf (R.1 3) (24 * i + k) (24 * i + (k + m)))) 4 (shf (R.1 4) (24 * i + k) (24 * i + (k + m)))) (by omega)
      refine ⟨fun c h1 h3 h4 => ?_, a2, fun q hq => ?_⟩
      · rw [a1 c h1 h3 h4, mA1, if_neg h4, mA1, if_neg h3, mA1, if_neg h1]
      · obtain ⟨b1, b2⟩ := a3 q hq
        refine ⟨b1.trans (pk_un hq), fun j hj => ?_⟩
        obtain ⟨c1, c2⟩ := b2 j hj
        exact ⟨c1.trans (shf_out (by omega)), c2.trans (shf_out (by omega))⟩
    · exact mnd_x m (k + 1) R (by omega)
theorem dqs_hsx (h3 : ∀ j, j < p → R.1 3 (24 * i + j) = nI (f j) ∧ R.1 4 (24 * i + j) = nI (g j) ∧ f j < 1024 ∧ g j < 1024) {a b : Nat} (ha : R.1 3 (24 * i + k) = nI a) (hb : R.1 4 (24 * i + k) = nI b) (ha4 : a < 1024) (hb4 : b < 1024) : ∀ m, m ≤ p → dqs R i k m = hsx f g a b m
  | 0, _ => rfl
  | m + 1, hm => by
    obtain ⟨e1, e2, e3, e4⟩ := h3 m (by omega)
    show (dqs R i k m || dqb R i k m) = (hsx f g a b m || _)
    rw [dqs_hsx h3 ha hb ha4 hb4 m (by omega)]
    unfold dqb
    rw [e1, e2, ha, hb]
    have q1 : decide (nI (f m) = nI a) = decide (f m = a) := decide_eq_decide.mpr (nI_eq (by omega) (by omega))
    have q2 : decide (nI (g m) = nI b) = decide (g m = b) := decide_eq_decide.mpr (nI_eq (by omega) (by omega))
    have q3 : decide (nI (f m) = nI b) = decide (f m = b) := decide_eq_decide.mpr (nI_eq (by omega) (by omega))
    have q4 : decide (nI (g m) = nI a) = decide (g m = a) := decide_eq_decide.mpr (nI_eq (by omega) (by omega))
    rw [q1, q2, q3, q4]
theorem ddk_b {N : Nat} (hb : ∀ k, k < N → f k < 1024 ∧ g k < 1024) : ∀ t, t ≤ N → ∀ j, j < N → (ddk f g t).2.1 j < 1024 ∧ (ddk f g t).2.2 j < 1024
  | 0, _, j, hj => hb j hj
  | t + 1, ht, j, hj => by
    have ih := ddk_b hb t (by omega) j hj
    unfold ddk
    split
    · exact ih
    · show upN _ _ _ j < 1024 ∧ upN _ _ _ j < 1024
      unfold upN
      by_cases e : j = (ddk f g t).1
      · rw [if_pos e, if_pos e]; exact hb t (by omega)
      · rw [if_neg e, if_neg e]; exact ih
theorem mnd_tie {N : Nat} (hb : ∀ k, k < N → f k < 1024 ∧ g k < 1024) (hN : N ≤ 24) : ∀ (m t : Nat) (R : MR), t + m = N → R.1 1 i = nI ((ddk f g t).1 + m) → (∀ j, j < (ddk f g t).1 → R.1 3 (24 * i + j) = nI ((ddk f g t).2.1 j) ∧ R.1 4 (24 * i + j) = nI ((ddk f g t).2.2 j)) → (∀ j, j < m → R.1 3 (24 * i + ((ddk f g t).1 + j)) = nI (f (t + j)) ∧ R.1 4 (24 * i + ((ddk f g t).1 + j)) = nI (g (t + j))) → (mnd i m (ddk f g t).1 R).1 1 i = nI (ddk f g N).1 ∧ ∀ j, j < (ddk f g N).1 → (mnd i m (ddk f g t).1 R).1 3 (24 * i + j) = nI ((ddk f g N).2.1 j) ∧ (mnd i m (ddk f g t).1 R).1 4 (24 * i + j) = nI ((ddk f g N).2.2 j)
  | 0, t, R, ht, h1, h2, _ => by
    have e : t = N := by omega
    rw [← e]
    exact ⟨h1, h2⟩
  | m + 1, t, R, ht, h1, h2, h3 => by
    have hk := ddk_le (f := f) (g := g) t
    have hbt := ddk_b hb t (by omega)
    obtain ⟨e3, e4⟩ := h3 0 (by omega)
    rw [Nat.add_zero, Nat.add_zero] at e3 e4
    have hd := dqs_hsx (R := R) (i := i) (k := (ddk f g t).1) (p := (ddk f g t).1) (f := (ddk f g t).2.1) (g := (ddk f g t).2.2) (fun j hj => ⟨(h2 j hj).1, (h2 j hj).2, (hbt j (by omega)).1, (hbt j (by omega)).2⟩) e3 e4 (hb t (by omega)).1 (hb t (by omega)).2 (ddk f g t).1 (Nat.le_refl _)
    have ed : ddk f g (t + 1) = if hsx (ddk f g t).2.1 (ddk f g t).2.2 (f t) (g t) (ddk f g t).1 = true then ddk f g t else ((ddk f g t).1 + 1, upN (ddk f g t).2.1 (ddk f g t).1 (f t), upN (ddk f g t).2.2 (ddk f g t).1 (g t)) := rfl
    unfold mnd
    rw [hd]
    cases c : hsx (ddk f g t).2.1 (ddk f g t).2.2 (f t) (g t) (ddk f g t).1 with
    | true =>
      rw [c, if_pos rfl] at ed
      rw [if_pos rfl]
      have ih := mnd_tie hb hN m (t + 1) (mA (mA (mA R 1 (upd (R.1 1) i (nI ((ddk f g t).1 + m)))) 3 (shf (R.1 3) (24 * i + (ddk f g t).1) (24 * i + ((ddk f g t).1 + m)))) 4 (shf (R.1 4) (24 * i + (ddk f g t).1) (24 * i + ((ddk f g t).1 + m)))) (by omega)
      rw [ed] at ih
      refine ih pk_us (fun j hj => ?_) (fun j hj => ?_)
      · have := h2 j hj
        exact ⟨(shf_out (by omega)).trans this.1, (shf_out (by omega)).trans this.2⟩
      · have := h3 (j + 1) (by omega)
        rw [show t + (j + 1) = t + 1 + j by omega] at this
        refine ⟨Eq.trans ?_ this.1, Eq.trans ?_ this.2⟩
        · show shf (R.1 3) (24 * i + (ddk f g t).1) (24 * i + ((ddk f g t).1 + m)) (24 * i + ((ddk f g t).1 + j)) = _
          rw [shf_in (by omega) (by omega), if_pos (by omega), Nat.add_assoc]
        · show shf (R.1 4) (24 * i + (ddk f g t).1) (24 * i + ((ddk f g t).1 + m)) (24 * i + ((ddk f g t).1 + j)) = _
          rw [shf_in (by omega) (by omega), if_pos (by omega), Nat.add_assoc]
    | false =>
      rw [c, if_neg (by decide)] at ed
      rw [if_neg (by decide)]
      have ih := mnd_tie hb hN m (t + 1) R (by omega)
      rw [ed] at ih
      refine ih ?_ (fun j hj => ?_) (fun j hj => ?_)
      · rw [h1]
        show nI _ = nI ((ddk f g t).1 + 1 + m)
        rw [show (ddk f g t).1 + (m + 1) = (ddk f g t).1 + 1 + m by omega]
      · have hj : j < (ddk f g t).1 + 1 := hj
        show R.1 3 (24 * i + j) = nI (upN _ _ _ j) ∧ R.1 4 (24 * i + j) = nI (upN _ _ _ j)
        unfold upN
        by_cases e : j = (ddk f g t).1
        · rw [if_pos e, if_pos e, e]
          exact ⟨e3, e4⟩
        · rw [if_neg e, if_neg e]
          exact h2 j (by omega)
      · have := h3 (j + 1) (by omega)
        rw [show (ddk f g t).1 + (j + 1) = (ddk f g t).1 + 1 + j by omega, show t + (j + 1) = t + 1 + j by omega] at this
        exact this
/-! faults -/
theorem hsa_cnt (h : ∀ j, j < m → R.1 3 (24 * i + j) = nI (f j) ∧ R.1 4 (24 * i + j) = nI (g j) ∧ f j < 1024 ∧ g j < 1024 ∧ f j ≠ g j) (hp : p < 1024) : ∀ k, k ≤ m → hsa R i k p = cnt f g p k
  | 0, _ => rfl
  | k + 1, hk => by
    obtain ⟨e1, e2, e3, e4, e5⟩ := h k (by omega)
    show hsa R i k p + (if R.1 3 (24 * i + k) = nI p then 1 else 0) + (if R.1 4 (24 * i + k) = nI p then 1 else 0) = cnt f g p k + _
    rw [hsa_cnt h hp k (by omega), e1, e2]
    have q1 : (nI (f k) = nI p) = (f k = p) := propext (nI_eq (by omega) (by omega))
    have q2 : (nI (g k) = nI p) = (g k = p) := propext (nI_eq (by omega) (by omega))
    simp only [q1, q2]
    by_cases c1 : f k = p
    · rw [if_pos c1, if_neg (fun z => e5 (by rw [c1, z])), if_pos (.inl c1)]
    · rw [if_neg c1]
      by_cases c2 : g k = p
      · rw [if_pos c2, if_pos (.inr c2)]
      · rw [if_neg c2, if_neg (fun z => z.elim c1 c2)]
theorem cnt_pos : ∀ k, cnt f g p k ≠ 0 ↔ ∃ j, j < k ∧ (f j = p ∨ g j = p)
  | 0 => ⟨fun z => absurd rfl z, fun ⟨j, hj, _⟩ => absurd hj (Nat.not_lt_zero j)⟩
  | k + 1 => by
    show cnt f g p k + _ ≠ 0 ↔ _
    have ih := cnt_pos k
    by_cases c : f k = p ∨ g k = p
    · rw [if_pos c]
      exact ⟨fun _ => ⟨k, by omega, c⟩, fun _ => by omega⟩
    · rw [if_neg c, Nat.add_zero, ih]
      refine ⟨fun ⟨j, hj, z⟩ => ⟨j, by omega, z⟩, fun ⟨j, hj, z⟩ => ?_⟩
      by_cases e : j = k
      · rw [e] at z; exact absurd z c
      · exact ⟨j, by omega, z⟩
theorem fwp_lb : ∀ k, ∀ j, j < k → fwp f g m k ≤ wpt f g m (f j) ∧ fwp f g m k ≤ wpt f g m (g j)
  | 0, j, hj => absurd hj (Nat.not_lt_zero j)
  | k + 1, j, hj => by
    have e : fwp f g m (k + 1) = min (min (fwp f g m k) (wpt f g m (f k))) (wpt f g m (g k)) := rfl
    rw [e]
    by_cases c : j = k
    · rw [c]; omega
    · have := fwp_lb k j (by omega)
      omega
theorem fwp_ex : ∀ k, fwp f g m k = 1024 ∨ ∃ j, j < k ∧ (fwp f g m k = wpt f g m (f j) ∨ fwp f g m k = wpt f g m (g j))
  | 0 => .inl rfl
  | k + 1 => by
    have e : fwp f g m (k + 1) = min (min (fwp f g m k) (wpt f g m (f k))) (wpt f g m (g k)) := rfl
    have ih := fwp_ex k
    have hx : ∀ a b : Nat, min a b = a ∨ min a b = b := fun a b => (Nat.le_total a b).elim (fun z => .inl (Nat.min_eq_left z)) fun z => .inr (Nat.min_eq_right z)
    rcases hx (min (fwp f g m k) (wpt f g m (f k))) (wpt f g m (g k)) with z | z
    · rcases hx (fwp f g m k) (wpt f g m (f k)) with w | w
      · rw [e, z, w]
        rcases ih with y | ⟨j, hj, y⟩
        · exact .inl y
        · exact .inr ⟨j, by omega, y⟩
      · exact .inr ⟨k, by omega, .inl (by rw [e, z, w])⟩
    · exact .inr ⟨k, by omega, .inr (by rw [e, z])⟩
theorem flt_spec {F : Nat → Nat} : ∀ k, (∀ p, flt F k = some p → (F p ≠ 0 ∧ F p ≠ 2) ∧ p < k ∧ ∀ q, q < p → ¬ (F q ≠ 0 ∧ F q ≠ 2)) ∧ (flt F k = none → ∀ q, q < k → ¬ (F q ≠ 0 ∧ F q ≠ 2))
  | 0 => ⟨fun p z => (by cases z), fun _ q hq => absurd hq (Nat.not_lt_zero q)⟩
  | k + 1 => by
    obtain ⟨h1, h2⟩ := flt_spec (F := F) k
    cases e : flt F k with
    | some p =>
      have := flt_keep e 1
      refine ⟨fun p' z => ?_, fun z => ?_⟩
      · rw [this] at z
        cases z
        obtain ⟨a, b, c⟩ := h1 p e
        exact ⟨a, by omega, c⟩
      · rw [this] at z
        cases z
    | none =>
      have h2 := h2 e
      rw [flt_one e]
      by_cases c : F k ≠ 0 ∧ F k ≠ 2
      · rw [if_pos c]
        refine ⟨fun p z => ?_, fun z => by cases z⟩
        cases z
        exact ⟨c, by omega, h2⟩
      · rw [if_neg c]
        refine ⟨fun p z => (by cases z), fun _ q hq => ?_⟩
        by_cases e2 : q = k
        · rw [e2]; exact c
        · exact h2 q (by omega)
/-- the class's answer and the reference's -/
theorem fau_tie (h : ∀ j, j < m → R.1 3 (24 * i + j) = nI (f j) ∧ R.1 4 (24 * i + j) = nI (g j) ∧ f j < 1024 ∧ g j < 1024 ∧ f j ≠ g j) : (if m = 0 then 1024 else if fwp f g m m = 1024 then -1 else nI (fwp f g m m)) = fau R i m := by
  have hc : ∀ p, p < 1024 → hsa R i m p = cnt f g p m := fun p hp => hsa_cnt h hp m (Nat.le_refl _)
  obtain ⟨s1, s2⟩ := flt_spec (F := hsa R i m) 1024
  have hlb := fwp_lb (f := f) (g := g) (m := m) m
  have hex := fwp_ex (f := f) (g := g) (m := m) m
  unfold fau
  cases e : flt (hsa R i m) 1024 with
  | none =>
    have s2 := s2 e
    by_cases c : m = 0
    · rw [if_pos c]
      show _ = if m = 0 then (1024 : Int32) else -1
      rw [if_pos c]
    · rw [if_neg c]
      have : fwp f g m m = 1024 := by
        rcases hex with z | ⟨j, hj, z⟩
        · exact z
        · obtain ⟨_, _, e3, e4, _⟩ := h j hj
          have hw : ∀ p, p < 1024 → (f j = p ∨ g j = p) → wpt f g m p = 1024 := by
            intro p hp hj'
            have h0 := (cnt_pos (f := f) (g := g) (p := p) m).mpr ⟨j, hj, hj'⟩
            have hs := s2 p hp
            rw [hc p hp] at hs
            unfold wpt
            rw [if_pos]
            exact Classical.not_not.mp fun z => hs ⟨h0, z⟩
          rcases z with z | z
          · rw [z]; exact hw _ e3 (.inl rfl)
          · rw [z]; exact hw _ e4 (.inr rfl)
      rw [if_pos this]
      show (-1 : Int32) = if m = 0 then (1024 : Int32) else -1
      rw [if_neg c]
  | some p =>
    obtain ⟨⟨a1, a2⟩, hp, hq⟩ := s1 p e
    rw [hc p hp] at a1 a2
    obtain ⟨j, hj, hjp⟩ := (cnt_pos m).mp a1
    have hw : wpt f g m p = p := by
      unfold wpt
      rw [if_neg a2]
    have hle : fwp f g m m ≤ p := by
      have := hlb j hj
      rcases hjp with z | z
      · rw [z, hw] at this; exact this.1
      · rw [z, hw] at this; exact this.2
    have hge : fwp f g m m = p := by
      rcases hex with z | ⟨j', hj', z⟩
      · omega
      · obtain ⟨_, _, e3, e4, _⟩ := h j' hj'
        have hx : ∀ p', p' < 1024 → (f j' = p' ∨ g j' = p') → fwp f g m m = wpt f g m p' → p ≤ fwp f g m m := by
          intro p' hp' hj2 z
          have h0 := (cnt_pos (f := f) (g := g) (p := p') m).mpr ⟨j', hj', hj2⟩
          by_cases c2 : cnt f g p' m = 2
          · have : wpt f g m p' = 1024 := if_pos c2
            omega
          · have : wpt f g m p' = p' := if_neg c2
            rcases Nat.lt_or_ge p' p with w | w
            · have := hq p' w
              rw [hc p' hp'] at this
              exact absurd ⟨h0, c2⟩ this
            · omega
        have : p ≤ fwp f g m m := by
          rcases z with z | z
          · exact hx _ e3 (.inl rfl) z
          · exact hx _ e4 (.inr rfl) z
        omega
    rw [if_neg (by omega), if_neg (by omega), hge]
end MN
