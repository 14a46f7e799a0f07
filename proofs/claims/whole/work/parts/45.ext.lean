/-! STEPS OF THE CLASS'S WORLD: what stays when cells are made; a heap that agrees with the cells is theirs -/
abbrev Ext (st : ZS) (G : CG) (st' : ZS) (G' : CG) : Prop := cok st' G' ∧ st.2.length ≤ st'.2.length ∧ (∀ a, a < st.2.length → G.K a = none → G'.K a = none ∧ st'.2[a]? = st.2[a]?) ∧ (∀ k, G.live k → G'.live k) ∧ (∀ k, k.1 ≠ 3 → G.live k → G'.A k = G.A k)
theorem Ext.ok {st : ZS} {G : CG} {st' : ZS} {G' : CG} (h : Ext st G st' G') : cok st' G' := h.1
theorem Ext.len {st : ZS} {G : CG} {st' : ZS} {G' : CG} (h : Ext st G st' G') : st.2.length ≤ st'.2.length := h.2.1
theorem Ext.raw {st : ZS} {G : CG} {st' : ZS} {G' : CG} (h : Ext st G st' G') : ∀ a, a < st.2.length → G.K a = none → G'.K a = none ∧ st'.2[a]? = st.2[a]? := h.2.2.1
theorem Ext.lv {st : ZS} {G : CG} {st' : ZS} {G' : CG} (h : Ext st G st' G') : ∀ k, G.live k → G'.live k := h.2.2.2.1
theorem Ext.A {st : ZS} {G : CG} {st' : ZS} {G' : CG} (h : Ext st G st' G') : ∀ k, k.1 ≠ 3 → G.live k → G'.A k = G.A k := h.2.2.2.2
theorem Ext.refl {st : ZS} {G : CG} (h : cok st G) : Ext st G st G := ⟨h, Nat.le_refl _, fun _ _ h => ⟨h, rfl⟩, fun _ h => h, fun _ _ _ => rfl⟩
theorem Ext.trans {s1 s2 s3 : ZS} {G1 G2 G3 : CG} (h : Ext s1 G1 s2 G2) (h2 : Ext s2 G2 s3 G3) : Ext s1 G1 s3 G3 := by
  refine ⟨h2.ok, Nat.le_trans h.len h2.len, ?_, fun k hk => h2.lv k (h.lv k hk), ?_⟩
  · intro a ha hK
    obtain ⟨e1, e2⟩ := h.raw a ha hK
    obtain ⟨e3, e4⟩ := h2.raw a (Nat.lt_of_lt_of_le ha h.len) e1
    exact ⟨e3, e4.trans e2⟩
  · intro k hk hl
    exact (h2.A k hk (h.lv k hl)).trans (h.A k hk hl)
/-- the count of room against what the lists and objects may cost -/
def sm (c : Nat → Nat) : Nat → Nat
  | 0 => 0
  | n + 1 => sm c n + c n
theorem sm_eq {c d : Nat → Nat} : ∀ m, (∀ n, n < m → c n = d n) → sm c m = sm d m
  | 0, _ => rfl
  | m + 1, h => by
    show sm c m + c m = sm d m + d m
    rw [sm_eq m fun n hn => h n (by omega), h m (by omega)]
theorem sm_up {c d : Nat → Nat} {n : Nat} (h : ∀ k, k ≠ n → d k = c k) : ∀ m, n < m → sm d m + c n = sm c m + d n
  | 0, hm => absurd hm (Nat.not_lt_zero n)
  | m + 1, hm => by
    show sm d m + d m + c n = sm c m + c m + d n
    rcases Nat.lt_or_ge n m with q | q
    · have := sm_up h m q
      rw [h m (by omega)]
      omega
    · have e : n = m := by omega
      subst e
      rw [sm_eq n fun k hk => h k (by omega)]
      omega
theorem sm_le {c : Nat → Nat} {b : Nat} (h : ∀ n, c n ≤ b) : ∀ m, sm c m ≤ m * b
  | 0 => Nat.zero_le _
  | m + 1 => by
    have := sm_le h m
    have := h m
    show sm c m + c m ≤ _
    rw [Nat.add_mul, Nat.one_mul]
    omega
def pot (V : CV) : Nat := 4 * sm V.c 34 + (12 * tN (V.i 1 3) + (33 * tN (V.i 1 0) + 39 * tN (V.i 1 1)))
abbrev Sta (st : ZS) (G : CG) (V : CV) (st' : ZS) (G' : CG) (V' : CV) : Prop := Ext st G st' G' ∧ st'.1 + pot V ≤ st.1 + pot V'
theorem Sta.ex {st : ZS} {G : CG} {V : CV} {st' : ZS} {G' : CG} {V' : CV} (h : Sta st G V st' G' V') : Ext st G st' G' := h.1
theorem Sta.ok {st : ZS} {G : CG} {V : CV} {st' : ZS} {G' : CG} {V' : CV} (h : Sta st G V st' G' V') : cok st' G' := h.1.1
theorem Sta.pt {st : ZS} {G : CG} {V : CV} {st' : ZS} {G' : CG} {V' : CV} (h : Sta st G V st' G' V') : st'.1 + pot V ≤ st.1 + pot V' := h.2
theorem Sta.same {st : ZS} {G : CG} {V V' : CV} (h : cok st G) (hp : pot V ≤ pot V') : Sta st G V st G V' := ⟨Ext.refl h, by omega⟩
theorem Sta.trans {s1 s2 s3 : ZS} {G1 G2 G3 : CG} {V1 V2 V3 : CV} (h : Sta s1 G1 V1 s2 G2 V2) (h2 : Sta s2 G2 V2 s3 G3 V3) : Sta s1 G1 V1 s3 G3 V3 := by
  refine ⟨h.ex.trans h2.ex, ?_⟩
  have := h.pt
  have := h2.pt
  omega
theorem cw_self {S : ZS} {G : CG} {V : CV} (h : ∀ a k, G.K a = some k → S.2[a]? = some (cell G.A V k)) : cw S G V = S := by
  refine Prod.ext rfl (List.ext_getElem? fun a => ?_)
  unfold cw
  dsimp only
  rw [List.getElem?_mapIdx]
  cases hK : G.K a with
  | none => cases S.2[a]? <;> rfl
  | some k => rw [h a k hK]; rfl
/-- a new or moved key -/
def gset (G : CG) (k : CK) (a : Nat) : CG := (fun k' => if k' = k then a else G.A k', fun a' => if a' = a then some k else if G.K a' = some k then none else G.K a')
theorem gset_A {G : CG} {k : CK} {a : Nat} : (gset G k a).A k = a := if_pos rfl
theorem gset_A' {G : CG} {k k' : CK} {a : Nat} (h : k' ≠ k) : (gset G k a).A k' = G.A k' := if_neg h
theorem gset_K {G : CG} {k : CK} {a : Nat} : (gset G k a).K a = some k := if_pos rfl
theorem gset_K' {G : CG} {k : CK} {a a' : Nat} (h : a' ≠ a) : (gset G k a).K a' = if G.K a' = some k then none else G.K a' := if_neg h
theorem gset_l {G : CG} {k : CK} {a : Nat} : (gset G k a).live k := by
  show (gset G k a).K ((gset G k a).A k) = some k
  rw [gset_A, gset_K]
theorem gset_Ext {st st' : ZS} {G : CG} {k : CK} {a : Nat} (h : cok st G) (ha : st.2.length ≤ a) (ha2 : a < st'.2.length) (h3 : 3 ≤ a) (hr : ∀ b, b < st.2.length → G.K b = none → st'.2[b]? = st.2[b]?) (hk : k.1 = 3 ∨ ¬ G.live k) : Ext st G st' (gset G k a) := by
  have hne : ∀ k', G.live k' → G.A k' ≠ a := fun k' hl => by
    have := (h.ka _ _ hl).2.2
    omega
  refine ⟨?_, by omega, ?_, ?_, ?_⟩
  · intro b k' hb
    by_cases e : b = a
    · subst e
      rw [gset_K] at hb
      cases hb
      exact ⟨gset_A, h3, ha2⟩
    · rw [gset_K' e] at hb
      by_cases e2 : G.K b = some k
      · rw [if_pos e2] at hb; cases hb
      · rw [if_neg e2] at hb
        have := h.ka b k' hb
        refine ⟨?_, this.2.1, by omega⟩
        rw [gset_A' (fun z => e2 (by rw [← z]; exact hb))]
        exact this.1
  · intro b hb hK
    refine ⟨?_, hr b hb hK⟩
    rw [gset_K' (by omega), if_neg (by rw [hK]; exact fun z => by cases z), hK]
  · intro k' hl
    by_cases e : k' = k
    · subst e; exact gset_l
    · show (gset G k a).K ((gset G k a).A k') = some k'
      rw [gset_A' e, gset_K' (hne k' hl), if_neg (by rw [show G.K (G.A k') = some k' from hl]; exact fun z => e (Option.some.inj z))]
      exact hl
  · intro k' hk' hl
    refine gset_A' fun z => ?_
    subst z
    rcases hk with q | q
    · exact hk' q
    · exact q hl
/-! raw cells at the heap's end -/
def zap (st : ZS) (L : List ZC) (x : Nat) : ZS := (st.1 + x, st.2 ++ L)
def zgL (o : Option ZC) (ci k : Nat) : Option Value := match o with
  | some (.inr o) => if o.1 = ci then o.2[k]? else none
  | _ => none
def zpL (L : List ZC) (j k : Nat) (v : Value) : List ZC := match L[j]? with
  | some (.inr o) => L.set j (.inr (o.1, o.2.set k v))
  | _ => L
section ZAP
variable {st : ZS} {L : List ZC} {x : Nat}
theorem zap_0 : zap st [] 0 = st := by
  unfold zap
  rw [List.append_nil]
  rfl
theorem zap_len : (zap st L x).2.length = st.2.length + L.length := List.length_append
theorem zap_new {ci : Nat} : znew (zap st L x) ci = zap st (L ++ [.inr (ci, znewf ci)]) (x + (znewf ci).length + 1) := by
  unfold znew zap
  dsimp only
  rw [List.append_assoc, Nat.add_assoc, Nat.add_assoc, Nat.add_assoc]
theorem zap_nwa {n : Nat} {y : ZA} : znwa (zap st L x) n y = zap st (L ++ [.inl (n, y)]) (x + n + 1) := by
  unfold znwa zap
  dsimp only
  rw [List.append_assoc, Nat.add_assoc, Nat.add_assoc, Nat.add_assoc]
theorem zap_at {j : Nat} (hj : j < L.length) : (zap st L x).2[st.2.length + j]? = L[j]? := by
  show (st.2 ++ L)[st.2.length + j]? = _
  rw [List.getElem?_append_right (by omega), show st.2.length + j - st.2.length = j by omega]
theorem zap_get {j ci k : Nat} (hj : j < L.length) : zget (zap st L x) (st.2.length + j) ci k = zgL L[j]? ci k := by
  unfold zget
  rw [zap_at hj]
  rfl
theorem zap_put {j k : Nat} {v : Value} (hj : j < L.length) : zput (zap st L x) (st.2.length + j) k v = zap st (zpL L j k v) x := by
  unfold zput zpL
  rw [zap_at hj]
  cases L[j]? with
  | none => rfl
  | some c =>
    cases c with
    | inl c => rfl
    | inr o =>
      dsimp only
      unfold zap
      dsimp only
      rw [List.set_append_right _ _ (by omega), show st.2.length + j - st.2.length = j by omega]
theorem zap_old {a : Nat} (ha : a < st.2.length) : (zap st L x).2[a]? = st.2[a]? := List.getElem?_append_left ha
end ZAP
