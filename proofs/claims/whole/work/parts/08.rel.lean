/-! WHAT THE REAL HEAP HOLDS of an abstract one -/
def zcv (ad : Nat → Nat) (v : Value) : Value := match v with
  | .ref k => .ref (ad k)
  | v => v
def zce (tc : Nat → ClassId) (ad : Nat → Nat) (c : ZC) : va_E := match c with
  | .inl (n, .inl f) => .inl (tc 0, n, .inl f)
  | .inl (n, .inr (.inl f)) => .inl (tc 1, n, .inr (.inl f))
  | .inl (n, .inr (.inr (.inl f))) => .inl (tc 4, n, .inr (.inr (.inl f)))
  | .inl (n, .inr (.inr (.inr (.inl f)))) => .inl (tc 2, n, .inr (.inr (.inr (.inl f))))
  | .inl (n, .inr (.inr (.inr (.inr f)))) => .inl (tc 3, n, .inr (.inr (.inr (.inr fun i => (f i).map ad))))
  | .inr (c, fs) => .inr (c, fs.map (zcv ad))
def zws (tc : Nat → ClassId) (ad : Nat → Nat) (h : List ZC) : va_W := (h.drop 3).mapIdx fun k c => (ad (k + 3), zce tc ad c)
def zvok (n : Nat) (v : Value) : Prop := ∀ k : Nat, v = .ref k → k < n
def zcok (n : Nat) (c : ZC) : Prop := match c with
  | .inl (_, .inr (.inr (.inr (.inr f)))) => ∀ i k : Nat, f i = some k → k < n
  | .inl (_, .inr (.inr (.inl _))) => False
  | .inl _ => True
  | .inr o => ∀ v ∈ o.2, zvok n v
def zhok (h : List ZC) : Prop := ∀ c ∈ h, zcok h.length c
def zspc (h : List ZC) : Prop := 3 ≤ h.length ∧ ∀ a, a < 3 → h[a]? = some (.inr (999, []))
theorem zws_at {tc : Nat → ClassId} {ad : Nat → Nat} {h : List ZC} {a : Nat} {c : ZC} (ha : 3 ≤ a) (hc : h[a]? = some c) : (zws tc ad h)[a - 3]? = some (ad a, zce tc ad c) := by
  unfold zws
  rw [List.getElem?_mapIdx, List.getElem?_drop, show 3 + (a - 3) = a by omega, hc, show a - 3 + 3 = a by omega]
  rfl
theorem zws_of {tc : Nat → ClassId} {ad : Nat → Nat} {h : List ZC} {k : Nat} {q : Nat × va_E} (hq : (zws tc ad h)[k]? = some q) : ∃ c, h[k + 3]? = some c ∧ q = (ad (k + 3), zce tc ad c) := by
  unfold zws at hq
  rw [List.getElem?_mapIdx, List.getElem?_drop, show 3 + k = k + 3 by omega] at hq
  cases hc : h[k + 3]? with
  | none => rw [hc] at hq; cases hq
  | some c => rw [hc] at hq; exact ⟨c, rfl, (Option.some.inj hq).symm⟩
theorem zws_set {tc : Nat → ClassId} {ad : Nat → Nat} {h : List ZC} {a : Nat} (c : ZC) (ha : 3 ≤ a) (hl : a < h.length) : zws tc ad (h.set a c) = (zws tc ad h).set (a - 3) (ad a, zce tc ad c) := by
  refine List.ext_getElem? fun k => ?_
  have e1 : (zws tc ad (h.set a c))[k]? = ((h.set a c)[k + 3]?).map fun c => (ad (k + 3), zce tc ad c) := by
    unfold zws
    rw [List.getElem?_mapIdx, List.getElem?_drop, show 3 + k = k + 3 by omega]
  have e2 : (zws tc ad h)[k]? = (h[k + 3]?).map fun c => (ad (k + 3), zce tc ad c) := by
    unfold zws
    rw [List.getElem?_mapIdx, List.getElem?_drop, show 3 + k = k + 3 by omega]
  have el : (zws tc ad h).length = h.length - 3 := by simp [zws]
  rw [e1, List.getElem?_set, List.getElem?_set]
  by_cases hk : a = k + 3
  · subst hk
    rw [if_pos rfl, if_pos hl, if_pos (by omega), if_pos (by omega)]
    rfl
  · rw [if_neg hk, if_neg (by omega), e2]
theorem zws_push {tc : Nat → ClassId} {ad : Nat → Nat} {h : List ZC} (c : ZC) (hl : 3 ≤ h.length) : zws tc ad (h ++ [c]) = zws tc ad h ++ [(ad h.length, zce tc ad c)] := by
  unfold zws
  rw [List.drop_append_of_le_length hl, List.mapIdx_append]
  simp only [List.length_drop, List.mapIdx_cons, List.mapIdx_nil, Nat.zero_add]
  rw [show h.length - 3 + 3 = h.length by omega]
theorem zcv_ad {ad ad' : Nat → Nat} {n : Nat} {v : Value} (hv : zvok n v) (h : ∀ k, k < n → ad' k = ad k) : zcv ad' v = zcv ad v := by
  cases v with
  | ref k => simp only [zcv, h k (hv k rfl)]
  | _ => rfl
theorem zce_ad {tc : Nat → ClassId} {ad ad' : Nat → Nat} {n : Nat} {c : ZC} (hc : zcok n c) (h : ∀ k, k < n → ad' k = ad k) : zce tc ad' c = zce tc ad c := by
  match c, hc with
  | .inl (n, .inl f), _ => rfl
  | .inl (n, .inr (.inl f)), _ => rfl
  | .inl (n, .inr (.inr (.inl f))), _ => rfl
  | .inl (n, .inr (.inr (.inr (.inl f)))), _ => rfl
  | .inl (n, .inr (.inr (.inr (.inr f)))), hc =>
    simp only [zce]
    have e : (fun i => (f i).map ad') = fun i => (f i).map ad := by
      funext i
      cases hi : f i with
      | none => rfl
      | some k => simp only [Option.map_some, h k (hc i k hi)]
    rw [e]
  | .inr (c, fs), hc =>
    simp only [zce]
    rw [List.map_congr_left fun v hv => zcv_ad (hc v hv) h]
theorem zws_ad {tc : Nat → ClassId} {ad ad' : Nat → Nat} {h : List ZC} (hc : zhok h) (he : ∀ k, k < h.length → ad' k = ad k) : zws tc ad' h = zws tc ad h := by
  refine List.ext_getElem? fun k => ?_
  unfold zws
  rw [List.getElem?_mapIdx, List.getElem?_mapIdx]
  cases hk : (h.drop 3)[k]? with
  | none => rfl
  | some c =>
    rw [List.getElem?_drop] at hk
    have hl : 3 + k < h.length := (List.getElem?_eq_some_iff.mp hk).1
    simp only [Option.map_some]
    rw [he (k + 3) (by omega), zce_ad (hc c (List.mem_of_getElem? hk)) he]
theorem zvok_mono {n n' : Nat} {v : Value} (h : zvok n v) (hn : n ≤ n') : zvok n' v := fun k e => Nat.lt_of_lt_of_le (h k e) hn
theorem zcok_mono {n n' : Nat} {c : ZC} (h : zcok n c) (hn : n ≤ n') : zcok n' c := by
  match c, h with
  | .inl (n, .inl f), _ => trivial
  | .inl (n, .inr (.inl f)), _ => trivial
  | .inl (n, .inr (.inr (.inl f))), h => exact h
  | .inl (n, .inr (.inr (.inr (.inl f)))), _ => trivial
  | .inl (n, .inr (.inr (.inr (.inr f)))), h => exact fun i k e => Nat.lt_of_lt_of_le (h i k e) hn
  | .inr o, h => exact fun v hv => zvok_mono (h v hv) hn
theorem zhok_set {h : List ZC} {a : Nat} {c : ZC} (hh : zhok h) (hc : zcok h.length c) : zhok (h.set a c) := by
  intro x hx
  rw [List.length_set]
  rcases List.mem_or_eq_of_mem_set hx with q | q
  · exact hh x q
  · rw [q]; exact hc
theorem zhok_push {h : List ZC} {c : ZC} (hh : zhok h) (hc : zcok (h.length + 1) c) : zhok (h ++ [c]) := by
  intro x hx
  rw [List.length_append]
  rcases List.mem_append.mp hx with q | q
  · exact zcok_mono (hh x q) (Nat.le_add_right _ _)
  · rw [List.mem_singleton.mp q]; exact hc
theorem zspc_set {h : List ZC} {a : Nat} {c : ZC} (hh : zspc h) (ha : 3 ≤ a) : zspc (h.set a c) := by
  refine ⟨by rw [List.length_set]; exact hh.1, fun k hk => ?_⟩
  rw [List.getElem?_set_ne (by omega)]
  exact hh.2 k hk
theorem zspc_push {h : List ZC} {c : ZC} (hh : zspc h) : zspc (h ++ [c]) := by
  refine ⟨by rw [List.length_append]; exact Nat.le_trans hh.1 (Nat.le_add_right _ _), fun k hk => ?_⟩
  rw [List.getElem?_append_left (Nat.lt_of_lt_of_le hk hh.1)]
  exact hh.2 k hk
/-! locals -/
def zvalB (L : List Value) (i : Nat) (v : Value) : Bool := match v with
  | .retAddr _ => false
  | .long _ => decide (L[i + 1]? = some (.retAddr 1))
  | .double _ => decide (L[i + 1]? = some (.retAddr 1))
  | _ => true
def zlv (ad : Nat → Nat) (L : List Value) : List (Nat × Value) := (List.range L.length).filterMap fun i => match L[i]? with
  | some v => if zvalB L i v = true then some (i, zcv ad v) else none
  | none => none
theorem zlv_mem {ad : Nat → Nat} {L : List Value} {q : Nat × Value} : q ∈ zlv ad L ↔ ∃ v, L[q.1]? = some v ∧ zvalB L q.1 v = true ∧ q.2 = zcv ad v := by
  unfold zlv
  rw [List.mem_filterMap]
  refine ⟨?_, ?_⟩
  · rintro ⟨i, hi, h⟩
    cases hv : L[i]? with
    | none => rw [hv] at h; cases h
    | some v =>
      rw [hv] at h
      dsimp only at h
      by_cases c : zvalB L i v = true
      · rw [if_pos c] at h
        have e := Option.some.inj h
        subst e
        exact ⟨v, hv, c, rfl⟩
      · rw [if_neg c] at h; cases h
  · rintro ⟨v, h1, h2, h3⟩
    refine ⟨q.1, List.mem_range.mpr (List.getElem?_eq_some_iff.mp h1).1, ?_⟩
    rw [h1]
    dsimp only
    rw [if_pos h2, ← h3]
def ZL (ad : Nat → Nat) (nL : Nat) (L : List Value) (ls : Array Slot) : Prop := L.length = nL ∧ lv_has ls nL (zlv ad L)
theorem ZL.at {ad : Nat → Nat} {nL : Nat} {L : List Value} {ls : Array Slot} (h : ZL ad nL L ls) {i : Nat} {v : Value} (hv : L[i]? = some v) (hz : zvalB L i v = true) : ls[i]? = some (.val (zcv ad v)) :=
  h.2.2.2 (i, zcv ad v) (zlv_mem.mpr ⟨v, hv, hz, rfl⟩)
theorem zcv_cat {ad : Nat → Nat} {v : Value} : (zcv ad v).category = v.category := by cases v <;> rfl
theorem ZL.st1 {ad : Nat → Nat} {nL : Nat} {L : List Value} {ls ls' : Array Slot} {i : Nat} {v w : Value} (h : ZL ad nL L ls) (hw : w = zcv ad v) (hc : ∀ k, v ≠ .retAddr k) (hi : i < nL) (hl : lv_has ls' nL ((i, w) :: (zlv ad L).filter (fun q => !(q.1 == i) && !(q.1 + 1 == i && q.2.category == 2)))) : ZL ad nL (L.set i v) ls' := by
  refine ⟨by rw [List.length_set]; exact h.1, hl.1, hl.2.1, ?_⟩
  rintro ⟨j, x⟩ hq
  obtain ⟨y, h1, h2, h3⟩ := zlv_mem.mp hq
  dsimp only at h1 h2 h3
  refine hl.2.2 (j, x) ?_
  by_cases e : i = j
  · subst e
    rw [List.getElem?_set_self (by rw [h.1]; exact hi)] at h1
    cases h1
    rw [h3, ← hw]
    exact List.mem_cons_self
  · rw [List.getElem?_set_ne e] at h1
    refine List.mem_cons_of_mem _ (List.mem_filter.mpr ⟨zlv_mem.mpr ⟨y, h1, ?_, h3⟩, ?_⟩)
    · have hk : (L.set i v)[j + 1]? = some (.retAddr 1) → L[j + 1]? = some (.retAddr 1) := by
        intro z
        by_cases e2 : i = j + 1
        · subst e2
          rw [List.getElem?_set_self (by rw [h.1]; exact hi)] at z
          exact absurd (Option.some.inj z) (hc 1)
        · rw [List.getElem?_set_ne e2] at z; exact z
      cases y <;> simp_all [zvalB]
    · have hne : ¬ j = i := fun z => e z.symm
      by_cases e2 : j + 1 = i
      · have : y.category ≠ 2 := by
          intro c2
          have hz : (L.set i v)[j + 1]? = some (.retAddr 1) := by
            cases y <;> simp_all [zvalB, Value.category]
          rw [← e2, List.getElem?_set_self (by rw [h.1, e2]; exact hi)] at hz
          exact hc 1 (Option.some.inj hz)
        have : x.category ≠ 2 := by rw [h3, zcv_cat]; exact this
        simp [hne, this]
      · simp [hne, e2]
theorem ZL.st2 {ad : Nat → Nat} {nL : Nat} {L : List Value} {ls ls' : Array Slot} {i : Nat} {v w : Value} (h : ZL ad nL L ls) (hw : w = zcv ad v) (hc : ∀ k, v ≠ .retAddr k) (hi : i + 1 < nL) (hl : lv_has ls' nL ((i, w) :: (zlv ad L).filter (fun q => !(q.1 == i) && (!(q.1 == i + 1) && !(q.1 + 1 == i && q.2.category == 2))))) : ZL ad nL ((L.set i v).set (i + 1) (.retAddr 1)) ls' := by
  refine ⟨by rw [List.length_set, List.length_set]; exact h.1, hl.1, hl.2.1, ?_⟩
  rintro ⟨j, x⟩ hq
  obtain ⟨y, h1, h2, h3⟩ := zlv_mem.mp hq
  dsimp only at h1 h2 h3
  refine hl.2.2 (j, x) ?_
  have hn : ¬ i + 1 = j := by
    intro e
    subst e
    rw [List.getElem?_set_self (by rw [List.length_set, h.1]; exact hi)] at h1
    cases h1
    simp [zvalB] at h2
  rw [List.getElem?_set_ne hn] at h1
  by_cases e : i = j
  · subst e
    rw [List.getElem?_set_self (by rw [h.1]; omega)] at h1
    cases h1
    rw [h3, ← hw]
    exact List.mem_cons_self
  · rw [List.getElem?_set_ne e] at h1
    refine List.mem_cons_of_mem _ (List.mem_filter.mpr ⟨zlv_mem.mpr ⟨y, h1, ?_, h3⟩, ?_⟩)
    · have hk : ((L.set i v).set (i + 1) (.retAddr 1))[j + 1]? = some (.retAddr 1) → L[j + 1]? = some (.retAddr 1) := by
        intro z
        rw [List.getElem?_set_ne (by omega)] at z
        by_cases e2 : i = j + 1
        · subst e2
          rw [List.getElem?_set_self (by rw [h.1]; omega)] at z
          exact absurd (Option.some.inj z) (hc 1)
        · rw [List.getElem?_set_ne e2] at z; exact z
      cases y <;> simp_all [zvalB]
    · have hne : ¬ j = i := fun z => e z.symm
      have hne1 : ¬ j = i + 1 := fun z => hn z.symm
      by_cases e2 : j + 1 = i
      · have : y.category ≠ 2 := by
          intro c2
          have hz : ((L.set i v).set (i + 1) (.retAddr 1))[j + 1]? = some (.retAddr 1) := by
            cases y <;> simp_all [zvalB, Value.category]
          rw [List.getElem?_set_ne (by omega), ← e2, List.getElem?_set_self (by rw [h.1]; omega)] at hz
          exact hc 1 (Option.some.inj hz)
        have : x.category ≠ 2 := by rw [h3, zcv_cat]; exact this
        simp [hne, hne1, this]
      · simp [hne, hne1, e2]
theorem ZL.ad {ad ad' : Nat → Nat} {nL n : Nat} {L : List Value} {ls : Array Slot} (h : ZL ad nL L ls) (hv : ∀ v ∈ L, zvok n v) (he : ∀ k, k < n → ad' k = ad k) : ZL ad' nL L ls := by
  refine ⟨h.1, h.2.1, h.2.2.1, ?_⟩
  rintro ⟨j, x⟩ hq
  obtain ⟨y, h1, h2, h3⟩ := zlv_mem.mp hq
  refine h.2.2.2 (j, x) (zlv_mem.mpr ⟨y, h1, h2, ?_⟩)
  rw [h3, zcv_ad (hv y (List.mem_of_getElem? h1)) he]
/-- a cell of the locals that is no longer looked at -/
theorem ZL.junk {ad : Nat → Nat} {nL : Nat} {L : List Value} {ls ls' : Array Slot} {i : Nat} {w : Value} (h : ZL ad nL L ls) (hi : i < nL) (hl : lv_has ls' nL ((i, w) :: (zlv ad L).filter (fun q => !(q.1 == i) && !(q.1 + 1 == i && q.2.category == 2)))) : ZL ad nL (L.set i (.retAddr 0)) ls' := by
  refine ⟨by rw [List.length_set]; exact h.1, hl.1, hl.2.1, ?_⟩
  rintro ⟨j, x⟩ hq
  obtain ⟨y, h1, h2, h3⟩ := zlv_mem.mp hq
  dsimp only at h1 h2 h3
  refine hl.2.2 (j, x) ?_
  by_cases e : i = j
  · subst e
    rw [List.getElem?_set_self (by rw [h.1]; exact hi)] at h1
    cases h1
    simp [zvalB] at h2
  · rw [List.getElem?_set_ne e] at h1
    refine List.mem_cons_of_mem _ (List.mem_filter.mpr ⟨zlv_mem.mpr ⟨y, h1, ?_, h3⟩, ?_⟩)
    · have hk : (L.set i (.retAddr 0))[j + 1]? = some (.retAddr 1) → L[j + 1]? = some (.retAddr 1) := by
        intro z
        by_cases e2 : i = j + 1
        · subst e2
          rw [List.getElem?_set_self (by rw [h.1]; exact hi)] at z
          cases z
        · rw [List.getElem?_set_ne e2] at z; exact z
      cases y <;> simp_all [zvalB]
    · have hne : ¬ j = i := fun z => e z.symm
      by_cases e2 : j + 1 = i
      · have : y.category ≠ 2 := by
          intro c2
          have hz : (L.set i (.retAddr 0))[j + 1]? = some (.retAddr 1) := by
            cases y <;> simp_all [zvalB, Value.category]
          rw [← e2, List.getElem?_set_self (by rw [h.1, e2]; exact hi)] at hz
          cases hz
        have : x.category ≠ 2 := by rw [h3, zcv_cat]; exact this
        simp [hne, this]
      · simp [hne, e2]
