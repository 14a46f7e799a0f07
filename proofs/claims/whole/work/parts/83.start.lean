/-! THE LAW'S BEGINNING: two new objects, two arrays -/
section ST
variable {X : ZX} {d : Nat} {st st' S : ZS} {P : ZO → ZS → Prop} {k a : Nat}
def dmy : List ZC := [.inr (999, []), .inr (999, []), .inr (999, [])]
def H0 : List ZC := (((dmy ++ kC 3) ++ mcs 9 R00) ++ [.inl (1, .inr (.inl fun _ => 0))]) ++ [.inl (1, .inr (.inr (.inr (.inl fun _ => 0))))]
def S0u : ZS := (4843, H0)
theorem law_in : AW X (d + 14) 139 0 [.ref 1, .retAddr 0, .retAddr 0, .retAddr 0, .retAddr 0, .retAddr 0, .retAddr 0, .retAddr 0, .retAddr 0, .retAddr 0] [] (0, dmy) P = AW X (d + 14) 139 28 [.ref 1, .ref 3, .ref 9, .ref 29, .ref 30, .int 0, .retAddr 0, .retAddr 0, .retAddr 0, .retAddr 0] [] S0u P := by
  obtain ⟨S, hS⟩ : ∃ S : ZS, S = (0, dmy) := ⟨_, rfl⟩
  rw [← hS]
  simp only [E_L_law_0, E_L_law_3, E_L_law_3n, E_L_law_3i, E_L_law_3f, E_L_law_4, E_L_law_7, E_L_law_7n, E_L_law_8, E_L_law_11, E_L_law_11n, E_L_law_11i, E_L_law_11f, E_L_law_12, E_L_law_15, E_L_law_15n, E_L_law_16, E_L_law_17, E_L_law_19, E_L_law_19n, E_L_law_20, E_L_law_21, E_L_law_23, E_L_law_23n, E_L_law_25, E_L_law_26, zwith_some, zwith_none, zif_true, zaft_inl, Option.toList_some, Option.toList_none, List.cons_append, List.nil_append, zc1_int, zc1_ref, zc1_null, zc1_float, List.length_nil, List.length_cons, Nat.reduceAdd, Nat.reduceLeDiff, Nat.zero_add, z1and, z0and, zl00, zl01, zl02, zl03, ze00, ze10, ze20, ze30, if_true, if_false, S_newK, S_newM]
  subst hS
  rfl
def G0A : CK → Nat
  | (0, 0) => 3
  | (2, 0) => 4
  | (2, 1) => 5
  | (2, 2) => 6
  | (1, 0) => 7
  | (2, 3) => 8
  | _ => 0
def G0K (a : Nat) : Option CK := if a = 3 then some .kx else if a = 4 then some (.al 0) else if a = 5 then some (.al 1) else if a = 6 then some (.al 2) else if a = 7 then some .stk else if a = 8 then some (.al 3) else none
def G00 : CG := (G0A, G0K)
def V00 : CV := (fun _ _ => 0, fun _ _ => none, fun _ _ => none, fun _ => 0, fun _ _ => 0, 0)
theorem G0_some {k : CK} (h : G00.K a = some k) : (a = 3 ∧ k = .kx) ∨ (a = 4 ∧ k = .al 0) ∨ (a = 5 ∧ k = .al 1) ∨ (a = 6 ∧ k = .al 2) ∨ (a = 7 ∧ k = .stk) ∨ (a = 8 ∧ k = .al 3) := by
  have h : G0K a = some k := h
  unfold G0K at h
  by_cases c3 : a = 3
  · rw [if_pos c3] at h; exact .inl ⟨c3, (Option.some.inj h).symm⟩
  · rw [if_neg c3] at h
    by_cases c4 : a = 4
    · rw [if_pos c4] at h; exact .inr (.inl ⟨c4, (Option.some.inj h).symm⟩)
    · rw [if_neg c4] at h
      by_cases c5 : a = 5
      · rw [if_pos c5] at h; exact .inr (.inr (.inl ⟨c5, (Option.some.inj h).symm⟩))
      · rw [if_neg c5] at h
        by_cases c6 : a = 6
        · rw [if_pos c6] at h; exact .inr (.inr (.inr (.inl ⟨c6, (Option.some.inj h).symm⟩)))
        · rw [if_neg c6] at h
          by_cases c7 : a = 7
          · rw [if_pos c7] at h; exact .inr (.inr (.inr (.inr (.inl ⟨c7, (Option.some.inj h).symm⟩))))
          · rw [if_neg c7] at h
            by_cases c8 : a = 8
            · rw [if_pos c8] at h; exact .inr (.inr (.inr (.inr (.inr ⟨c8, (Option.some.inj h).symm⟩))))
            · rw [if_neg c8] at h; cases h
theorem G0_none (h : 9 ≤ a) : G00.K a = none := by
  cases e : G00.K a with
  | none => rfl
  | some k => rcases G0_some e with z | z | z | z | z | z <;> omega
theorem H0_len : S0u.2.length = 31 := rfl
theorem cok0 : cok S0u G00 := by
  intro a k h
  rw [H0_len]
  rcases G0_some h with ⟨rfl, rfl⟩ | ⟨rfl, rfl⟩ | ⟨rfl, rfl⟩ | ⟨rfl, rfl⟩ | ⟨rfl, rfl⟩ | ⟨rfl, rfl⟩ <;> exact ⟨rfl, by decide, by decide⟩
theorem cw00 : cw S0u G00 V00 = S0u := by
  refine cw_self fun a k h => ?_
  rcases G0_some h with ⟨rfl, rfl⟩ | ⟨rfl, rfl⟩ | ⟨rfl, rfl⟩ | ⟨rfl, rfl⟩ | ⟨rfl, rfl⟩ | ⟨rfl, rfl⟩ <;> rfl
theorem lok0 {n b : Nat} : lok V00 n 0 b := ⟨rfl, Nat.zero_le _, Nat.zero_le _, .inl rfl, fun i q h => by cases h⟩
theorem live0 (k : CK) : G00.live k ↔ kn V00.c 0 0 0 k := by
  obtain ⟨a, b⟩ := k
  rcases a with _ | _ | _ | _ | _ | _ | _ | _ | _ | a
  · rcases b with _ | b
    · exact ⟨fun _ => trivial, fun _ => rfl⟩
    · exact ⟨fun h => (by cases h), fun h => h.elim⟩
  · rcases b with _ | b
    · exact ⟨fun _ => trivial, fun _ => rfl⟩
    · exact ⟨fun h => (by cases h), fun h => h.elim⟩
  · rcases b with _ | _ | _ | _ | b
    · exact ⟨fun _ => (by show 0 < 0 + 4; omega), fun _ => rfl⟩
    · exact ⟨fun _ => (by show 1 < 0 + 4; omega), fun _ => rfl⟩
    · exact ⟨fun _ => (by show 2 < 0 + 4; omega), fun _ => rfl⟩
    · exact ⟨fun _ => (by show 3 < 0 + 4; omega), fun _ => rfl⟩
    · exact ⟨fun h => (by cases h), fun h => absurd (show b + 4 < 0 + 4 from h) (by omega)⟩
  · exact ⟨fun h => (by cases h), fun h => absurd (show (0 : Nat) = 0 from rfl) (show b < 0 + 4 ∧ (0 : Nat) ≠ 0 from h).2⟩
  · exact ⟨fun h => (by cases h), fun h => absurd (show b < 0 from h) (Nat.not_lt_zero _)⟩
  · refine ⟨fun h => (by cases h), fun h => ?_⟩
    have h : b / 2 < (if b % 2 = 0 then 0 else 0) := h
    split at h <;> exact absurd h (Nat.not_lt_zero _)
  · refine ⟨fun h => (by cases h), fun h => ?_⟩
    have h : b / 2 < (if b % 2 = 0 then 0 else 0) := h
    split at h <;> exact absurd h (Nat.not_lt_zero _)
  · exact ⟨fun h => (by cases h), fun h => absurd (show b < 0 from h) (Nat.not_lt_zero _)⟩
  · exact ⟨fun h => (by cases h), fun h => absurd (show b < 0 from h) (Nat.not_lt_zero _)⟩
  · exact ⟨fun h => (by cases h), fun h => h.elim⟩
theorem CI0 : CI G00 V00 := ⟨live0, ⟨lok0, Nat.zero_le _, fun i h => absurd h (Nat.not_lt_zero i)⟩, ⟨lok0, Nat.zero_le _, fun i h => absurd h (Nat.not_lt_zero i)⟩, lok0, ⟨lok0, Nat.zero_le _, fun i h => absurd h (Nat.not_lt_zero i)⟩, fun j h => absurd h (Nat.not_lt_zero j), fun j h => absurd h (Nat.not_lt_zero j), fun p h => absurd h (Nat.not_lt_zero p), fun p q h => absurd h (Nat.not_lt_zero p)⟩
theorem IR0 : IR R00 := ⟨⟨rfl, Nat.zero_le _⟩, ⟨rfl, Nat.zero_le _⟩, ⟨rfl, Nat.zero_le _⟩, ⟨rfl, Nat.zero_le _⟩, fun i _ => ⟨rfl, Nat.zero_le _⟩, fun i _ _ => ⟨rfl, rfl, rfl⟩, fun i _ => .inl rfl, fun i _ j h => absurd h (Nat.not_lt_zero j), fun p h => absurd h (Nat.not_lt_zero p), fun j h => absurd h (Nat.not_lt_zero j), fun j h => absurd h (Nat.not_lt_zero j), fun j h => absurd h (Nat.not_lt_zero j), fun j _ _ => rfl, fun j h => absurd h (Nat.not_lt_zero j)⟩
theorem REL0 : REL V00 R00 := ⟨⟨rfl, rfl⟩, ⟨rfl, rfl, rfl, by decide⟩, fun i h => absurd h (Nat.not_lt_zero i), fun i h => absurd h (Nat.not_lt_zero i), ⟨⟨rfl, ⟨Nat.zero_le _, Nat.zero_le _⟩, fun p h => absurd h (Nat.not_lt_zero p)⟩, ⟨fun q h => absurd h (Nat.not_lt_zero q), fun q p h => absurd h (Nat.not_lt_zero q), fun p h => absurd h (Nat.not_lt_zero p)⟩, fun q h => absurd h (Nat.not_lt_zero q)⟩, IR0, ⟨fun j i h => absurd h.1 (Nat.not_lt_zero j), fun j i j' i' h => absurd h.1 (Nat.not_lt_zero j)⟩, fun p h => absurd h (Nat.not_lt_zero p), ⟨fun n _ => rfl, rfl, fun i h => absurd h (Nat.not_lt_zero i), fun i j h => by cases h⟩⟩
theorem H0_at {j : Nat} (hj : j < 20) : S0u.2[9 + j]? = (mcs 9 R00)[j]? := by
  show ((((dmy ++ kC 3) ++ mcs 9 R00) ++ [_]) ++ [_])[9 + j]? = _
  have e1 : (dmy ++ kC 3).length = 9 := rfl
  have e2 : ((dmy ++ kC 3) ++ mcs 9 R00).length = 29 := rfl
  rw [List.getElem?_append_left (by rw [List.length_append, e2]; omega), List.getElem?_append_left (by rw [e2]; omega), List.getElem?_append_right (by rw [e1]; omega), e1, show 9 + j - 9 = j by omega]
theorem WI0 : WI S0u G00 V00 3 9 29 30 R00 R00 0 (fun _ => 0) (fun _ => 0) := ⟨cok0, CI0, REL0, rfl, ⟨⟨⟨by decide, by rw [H0_len]; decide⟩, fun j hj => ⟨G0_none (by omega), H0_at hj⟩⟩, ⟨by decide, by decide, by decide, by rw [H0_len]; decide⟩, ⟨G0_none (by decide), G0_none (by decide)⟩, rfl, rfl⟩, Nat.zero_le _, by show 4843 ≤ _; omega⟩
theorem pure_all (hX2 : X.1 ≤ 2048) : AW X 15 139 0 [.ref 1, .retAddr 0, .retAddr 0, .retAddr 0, .retAddr 0, .retAddr 0, .retAddr 0, .retAddr 0, .retAddr 0, .retAddr 0] [] (0, dmy) fun o st' => o = .inl (some (.int 1)) ∧ st'.1 ≤ 601024 := by
  have h := LH_all (X := X) (d := 1) (ka := 3) (mo := 9) (ao := 29) (aD := 30) hX2 513 0 rfl S0u G00 V00 R00 (fun _ => 0) (fun _ => 0) (.retAddr 0) (.retAddr 0) (.retAddr 0) (.retAddr 0) WI0
  rw [cw00] at h
  exact (law_in (X := X) (d := 1)).mpr h
end ST
