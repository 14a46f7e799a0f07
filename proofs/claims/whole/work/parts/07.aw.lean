/-! RUNS: more fuel changes nothing; the equations of AW and AC, a kind of instruction each -/
def abod (X : ZX) (d : Nat) (call : Nat → List Value → ZS → Option ZR) (mi : Nat) (rc : Nat → List Value → List Value → ZS → Option ZR) (pc : Nat) (L S : List Value) (st : ZS) : Option ZR :=
    match decode (zby mi) pc with
    | .error _ => none
    | .ok il => if zlok il.1 il.2 = false then none else
      match zstep X mi il.1 pc L S st with
      | some q => rc q.1 q.2.1 q.2.2.1 q.2.2.2
      | none => match zfin d mi il.1 pc S st with
        | some r => some r
        | none => match zcal mi il.1 S st with
          | none => none
          | some c => match call c.1 c.2.1 st with
            | none => none
            | some (.inl v, st') => rc (pc + 3) L (v.toList ++ c.2.2) st'
            | some (.inr E, st') => match zhnd mi pc E with
              | some h => if h.2.1 < L.length then rc h.2.2 (L.set h.2.1 zjk) [] st' else none
              | none => if zhh mi = [] then some (.inr E, st') else none
theorem arun_s (X : ZX) (d : Nat) (call : Nat → List Value → ZS → Option ZR) (mi k pc : Nat) (L S : List Value) (st : ZS) : arun X d call mi (k + 1) pc L S st = abod X d call mi (arun X d call mi k) pc L S st := rfl
theorem abod_mono {X : ZX} {d : Nat} {c1 c2 : Nat → List Value → ZS → Option ZR} {mi : Nat} {r1 r2 : Nat → List Value → List Value → ZS → Option ZR} (hc : ∀ y a s r, c1 y a s = some r → c2 y a s = some r) (hr : ∀ pc L S st r, r1 pc L S st = some r → r2 pc L S st = some r) {pc : Nat} {L S : List Value} {st : ZS} {r : ZR} (h : abod X d c1 mi r1 pc L S st = some r) : abod X d c2 mi r2 pc L S st = some r := by
  unfold abod at h ⊢
  cases hd : decode (zby mi) pc with
  | error e => rw [hd] at h; cases h
  | ok il =>
    rw [hd] at h
    dsimp only at h ⊢
    by_cases hl : zlok il.1 il.2 = false
    · rw [if_pos hl] at h; cases h
    · rw [if_neg hl] at h ⊢
      cases hs : zstep X mi il.1 pc L S st with
      | some q => rw [hs] at h; exact hr _ _ _ _ _ h
      | none =>
        rw [hs] at h
        dsimp only at h ⊢
        cases hf : zfin d mi il.1 pc S st with
        | some q => rw [hf] at h; exact h
        | none =>
          rw [hf] at h
          dsimp only at h ⊢
          cases hz : zcal mi il.1 S st with
          | none => rw [hz] at h; cases h
          | some c =>
            rw [hz] at h
            dsimp only at h ⊢
            cases hq : c1 c.1 c.2.1 st with
            | none => rw [hq] at h; cases h
            | some w =>
              rw [hq] at h
              rw [hc _ _ _ _ hq]
              obtain ⟨o, st'⟩ := w
              cases o with
              | inl v => exact hr _ _ _ _ _ h
              | inr E =>
                dsimp only at h ⊢
                cases hh : zhnd mi pc E with
                | none => rw [hh] at h; exact h
                | some g =>
                  rw [hh] at h
                  dsimp only at h ⊢
                  by_cases hg : g.2.1 < L.length
                  · rw [if_pos hg] at h ⊢; exact hr _ _ _ _ _ h
                  · rw [if_neg hg] at h; cases h
theorem arun_mono {X : ZX} {d : Nat} {c1 c2 : Nat → List Value → ZS → Option ZR} {mi : Nat} (hc : ∀ y a s r, c1 y a s = some r → c2 y a s = some r) : ∀ (k k' pc : Nat) (L S : List Value) (st : ZS) (r : ZR), k ≤ k' → arun X d c1 mi k pc L S st = some r → arun X d c2 mi k' pc L S st = some r := by
  intro k
  induction k with
  | zero => intro k' pc L S st r _ h; cases h
  | succ k ih =>
    intro k' pc L S st r hk h
    obtain ⟨k2, rfl⟩ : ∃ z, k' = z + 1 := ⟨k' - 1, by omega⟩
    rw [arun_s] at h ⊢
    exact abod_mono hc (fun pc L S st r h => ih k2 pc L S st r (by omega) h) h
theorem acall_mono {X : ZX} {n n' : Nat} (hn : n ≤ n') : ∀ (d y : Nat) (a : List Value) (s : ZS) (r : ZR), acall X n d y a s = some r → acall X n' d y a s = some r := by
  intro d
  induction d with
  | zero => intro y a s r h; cases h
  | succ d ih =>
    intro y a s r h
    unfold acall at h ⊢
    by_cases c : (a.length ≤ zml y ∧ zml y ≤ 12) ∧ a.all zc1 = true
    · rw [if_pos c] at h ⊢
      exact arun_mono ih n n' 0 _ _ _ _ hn h
    · rw [if_neg c] at h; cases h
def zwith {α : Type} (o : Option α) (f : α → Prop) : Prop := match o with
  | none => False
  | some v => f v
theorem zwith_some {α : Type} (v : α) (f : α → Prop) : zwith (some v) f = f v := rfl
theorem zwith_none {α : Type} (f : α → Prop) : zwith none f = False := rfl
def zif (b : Prop) (p : Prop) : Prop := b ∧ p
theorem zif_true (p : Prop) : zif True p = p := propext ⟨fun h => h.2, fun h => ⟨trivial, h⟩⟩
theorem zif_of {b p : Prop} (hb : b) : zif b p = p := propext ⟨fun h => h.2, fun h => ⟨hb, h⟩⟩
section ZAW
variable {X : ZX} {d mi pc len : Nat} {i : Instr} {L S : List Value} {st : ZS} {P Q : ZO → ZS → Prop}
theorem zAW_step {q : ZQ} (hd : decode (zby mi) pc = .ok (i, len)) (hl : zlok i len = true) (hs : zstep X mi i pc L S st = some q) : AW X d mi pc L S st P = AW X d mi q.1 q.2.1 q.2.2.1 q.2.2.2 P := by
  have e : ∀ n k, arun X d (acall X n d) mi (k + 1) pc L S st = arun X d (acall X n d) mi k q.1 q.2.1 q.2.2.1 q.2.2.2 := by
    intro n k
    rw [arun_s]
    unfold abod
    rw [hd]
    dsimp only
    rw [if_neg (by rw [hl]; decide), hs]
  refine propext ⟨?_, ?_⟩
  · rintro ⟨n, k, r, h, hp⟩
    cases k with
    | zero => cases h
    | succ k => exact ⟨n, k, r, by rw [← e]; exact h, hp⟩
  · rintro ⟨n, k, r, h, hp⟩
    exact ⟨n, k + 1, r, by rw [e]; exact h, hp⟩
theorem zAW_ret {w : ZR} (hd : decode (zby mi) pc = .ok (i, len)) (hl : zlok i len = true) (hs : zstep X mi i pc L S st = none) (hf : zfin d mi i pc S st = some w) : AW X d mi pc L S st P = P w.1 w.2 := by
  have e : ∀ n k, arun X d (acall X n d) mi (k + 1) pc L S st = some w := by
    intro n k
    rw [arun_s]
    unfold abod
    rw [hd]
    dsimp only
    rw [if_neg (by rw [hl]; decide), hs, hf]
  refine propext ⟨?_, ?_⟩
  · rintro ⟨n, k, r, h, hp⟩
    cases k with
    | zero => cases h
    | succ k => rw [e] at h; cases h; exact hp
  · intro hp
    exact ⟨0, 1, w, e 0 0, hp⟩
theorem zAW_stuck (hd : decode (zby mi) pc = .ok (i, len)) (hs : zstep X mi i pc L S st = none) (hf : zfin d mi i pc S st = none) (hc : zcal mi i S st = none) : AW X d mi pc L S st P = False := by
  refine propext ⟨?_, fun h => h.elim⟩
  rintro ⟨n, k, r, h, hp⟩
  cases k with
  | zero => cases h
  | succ k =>
    rw [arun_s] at h
    unfold abod at h
    rw [hd] at h
    dsimp only at h
    by_cases hl : zlok i len = false
    · rw [if_pos hl] at h; cases h
    · rw [if_neg hl, hs, hf, hc] at h; cases h
theorem zAW_opt {α : Type} {o : Option α} {f : α → ZQ} (hd : decode (zby mi) pc = .ok (i, len)) (hl : zlok i len = true) (hs : zstep X mi i pc L S st = o.bind fun v => some (f v)) (hf : zfin d mi i pc S st = none) (hc : zcal mi i S st = none) : AW X d mi pc L S st P = zwith o fun v => AW X d mi (f v).1 (f v).2.1 (f v).2.2.1 (f v).2.2.2 P := by
  cases o with
  | none => rw [zAW_stuck hd hs hf hc]; rfl
  | some v => rw [zAW_step hd hl hs]; rfl
theorem zAW_if {c : Prop} [Decidable c] {q : ZQ} (hd : decode (zby mi) pc = .ok (i, len)) (hl : zlok i len = true) (hs : zstep X mi i pc L S st = if c then some q else none) (hf : zfin d mi i pc S st = none) (hc : zcal mi i S st = none) : AW X d mi pc L S st P = zif c (AW X d mi q.1 q.2.1 q.2.2.1 q.2.2.2 P) := by
  by_cases h : c
  · rw [if_pos h] at hs
    rw [zAW_step hd hl hs, zif_of h]
  · rw [if_neg h] at hs
    rw [zAW_stuck hd hs hf hc]
    exact propext ⟨fun z => z.elim, fun z => absurd z.1 h⟩
theorem zAW_br {c : Prop} [Decidable c] {b : Bool} {t : Nat} {L1 S1 : List Value} (hd : decode (zby mi) pc = .ok (i, len)) (hl : zlok i len = true) (hb : b = decide c) (hs : zstep X mi i pc L S st = some (if b = true then t else pc + 3, L1, S1, st)) : AW X d mi pc L S st P = if c then AW X d mi t L1 S1 st P else AW X d mi (pc + 3) L1 S1 st P := by
  subst hb
  rw [zAW_step hd hl hs]
  by_cases h : c
  · simp only [h, decide_true, if_true]
  · simp only [h, decide_false, if_false, Bool.false_eq_true]
def zaft (X : ZX) (d mi pc : Nat) (L S : List Value) (P : ZO → ZS → Prop) : ZO → ZS → Prop := fun o st' => match o with
  | .inl v => AW X d mi (pc + 3) L (v.toList ++ S) st' P
  | .inr E => match zhnd mi pc E with
    | some h => h.2.1 < L.length ∧ AW X d mi h.2.2 (L.set h.2.1 zjk) [] st' P
    | none => zhh mi = [] ∧ P (.inr E) st'
theorem zAW_call {c : Nat × List Value × List Value} (hd : decode (zby mi) pc = .ok (i, len)) (hl : zlok i len = true) (hs : zstep X mi i pc L S st = none) (hf : zfin d mi i pc S st = none) (hc : zcal mi i S st = some c) : AW X d mi pc L S st P = AC X d c.1 c.2.1 st (zaft X d mi pc L c.2.2 P) := by
  have e : ∀ n k, arun X d (acall X n d) mi (k + 1) pc L S st = match acall X n d c.1 c.2.1 st with
      | none => none
      | some (.inl v, st') => arun X d (acall X n d) mi k (pc + 3) L (v.toList ++ c.2.2) st'
      | some (.inr E, st') => match zhnd mi pc E with
        | some h => if h.2.1 < L.length then arun X d (acall X n d) mi k h.2.2 (L.set h.2.1 zjk) [] st' else none
        | none => if zhh mi = [] then some (.inr E, st') else none := by
    intro n k
    rw [arun_s]
    unfold abod
    rw [hd]
    dsimp only
    rw [if_neg (by rw [hl]; decide), hs, hf, hc]
  refine propext ⟨?_, ?_⟩
  · rintro ⟨n, k, r, h, hp⟩
    cases k with
    | zero => cases h
    | succ k =>
      rw [e] at h
      cases hq : acall X n d c.1 c.2.1 st with
      | none => rw [hq] at h; cases h
      | some w =>
        rw [hq] at h
        refine ⟨n, w, hq, ?_⟩
        obtain ⟨o, st'⟩ := w
        cases o with
        | inl v => exact ⟨n, k, r, h, hp⟩
        | inr E =>
          unfold zaft
          dsimp only at h ⊢
          cases hh : zhnd mi pc E with
          | none =>
            rw [hh] at h
            dsimp only at h ⊢
            by_cases hz : zhh mi = []
            · rw [if_pos hz] at h; cases h; exact ⟨hz, hp⟩
            · rw [if_neg hz] at h; cases h
          | some g =>
            rw [hh] at h
            dsimp only at h ⊢
            by_cases hg : g.2.1 < L.length
            · rw [if_pos hg] at h; exact ⟨hg, n, k, r, h, hp⟩
            · rw [if_neg hg] at h; cases h
  · rintro ⟨n, w, hq, hw⟩
    obtain ⟨o, st'⟩ := w
    cases o with
    | inl v =>
      obtain ⟨n2, k, r, h, hp⟩ := hw
      refine ⟨max n n2, k + 1, r, ?_, hp⟩
      rw [e, acall_mono (Nat.le_max_left n n2) _ _ _ _ _ hq]
      exact arun_mono (fun y a s r h => acall_mono (Nat.le_max_right n n2) _ _ _ _ _ h) k k _ _ _ _ _ (Nat.le_refl k) h
    | inr E =>
      unfold zaft at hw
      dsimp only at hw
      cases hh : zhnd mi pc E with
      | none =>
        rw [hh] at hw
        refine ⟨n, 1, (.inr E, st'), ?_, hw.2⟩
        rw [e, hq]
        dsimp only
        rw [hh]
        dsimp only
        rw [if_pos hw.1]
      | some g =>
        rw [hh] at hw
        obtain ⟨hg, n2, k, r, h, hp⟩ := hw
        refine ⟨max n n2, k + 1, r, ?_, hp⟩
        rw [e, acall_mono (Nat.le_max_left n n2) _ _ _ _ _ hq]
        dsimp only
        rw [hh]
        dsimp only
        rw [if_pos hg]
        exact arun_mono (fun y a s r h => acall_mono (Nat.le_max_right n n2) _ _ _ _ _ h) k k _ _ _ _ _ (Nat.le_refl k) h
theorem zAW_callif {c : Prop} [Decidable c] {w : Nat × List Value × List Value} (hd : decode (zby mi) pc = .ok (i, len)) (hl : zlok i len = true) (hs : zstep X mi i pc L S st = none) (hf : zfin d mi i pc S st = none) (hc : zcal mi i S st = if c then some w else none) : AW X d mi pc L S st P = zif c (AC X d w.1 w.2.1 st (zaft X d mi pc L w.2.2 P)) := by
  by_cases h : c
  · rw [if_pos h] at hc
    rw [zAW_call hd hl hs hf hc, zif_of h]
  · rw [if_neg h] at hc
    rw [zAW_stuck hd hs hf hc]
    exact propext ⟨fun z => z.elim, fun z => absurd z.1 h⟩
theorem AC_eq {y : Nat} {args : List Value} (h : (args.length ≤ zml y ∧ zml y ≤ 12) ∧ args.all zc1 = true) : AC X (d + 1) y args st P = AW X d y 0 (zini y args) [] st P := by
  have e : ∀ n, acall X n (d + 1) y args st = arun X d (acall X n d) y n 0 (zini y args) [] st := fun n => by
    show (if _ then _ else _) = _
    rw [if_pos h]
  refine propext ⟨?_, ?_⟩
  · rintro ⟨n, r, hq, hp⟩
    exact ⟨n, n, r, by rw [← e]; exact hq, hp⟩
  · rintro ⟨n, k, r, hq, hp⟩
    refine ⟨max n k, r, ?_, hp⟩
    rw [e]
    exact arun_mono (fun y a s r h => acall_mono (Nat.le_max_left n k) _ _ _ _ _ h) k _ _ _ _ _ _ (Nat.le_max_right n k) hq
theorem AW_imp (h : AW X d mi pc L S st P) (hpq : ∀ o s, P o s → Q o s) : AW X d mi pc L S st Q := by
  obtain ⟨n, k, r, a, b⟩ := h
  exact ⟨n, k, r, a, hpq _ _ b⟩
theorem AC_imp {y : Nat} {args : List Value} (h : AC X d y args st P) (hpq : ∀ o s, P o s → Q o s) : AC X d y args st Q := by
  obtain ⟨n, r, a, b⟩ := h
  exact ⟨n, r, a, hpq _ _ b⟩
end ZAW
