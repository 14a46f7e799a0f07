/-! THE LAW'S WORLD: the class's cells, the reference's, the two arrays for the answers, side by side -/
section WD
variable {X : ZX} {d : Nat} {st st' S : ZS} {G G' : CG} {V V' : CV} {P : ZO → ZS → Prop} {x y z : Int32} {n m p q r j k a i b mo ao aD ka : Nat} {R R' : MR} {f : Nat → Int64} {g : Nat → UInt64} {u w : UInt32}
theorem mw_out (h : mok st mo) (ha : a < mo ∨ mo + 20 ≤ a) : (mw st mo R).2[a]? = st.2[a]? := by
  have h2 := h.2
  have h1 : (st.2.take mo).length = mo := by rw [List.length_take]; omega
  show (st.2.take mo ++ (mcs mo R ++ st.2.drop (mo + 20)))[a]? = _
  rcases ha with c | c
  · rw [List.getElem?_append_left (by omega), List.getElem?_take_of_lt c]
  · rw [List.getElem?_append_right (by omega), List.getElem?_append_right (by rw [mcs_len]; omega), List.getElem?_drop, h1, mcs_len]
    congr 1
    omega
theorem mw_in (h : mok st mo) (ha : mo ≤ a ∧ a < mo + 20) : (mw st mo R).2[a]? = (mcs mo R)[a - mo]? := by
  have e := mw_at (R := R) h (a - mo) (by omega)
  rw [show mo + (a - mo) = a by omega] at e
  exact e
theorem mw_self (h : mok S mo) (hc : ∀ j, j < 20 → S.2[mo + j]? = (mcs mo R)[j]?) : mw S mo R = S := by
  refine Prod.ext rfl (List.ext_getElem? fun a => ?_)
  by_cases c : mo ≤ a ∧ a < mo + 20
  · rw [mw_in h c, ← hc _ (by omega), show mo + (a - mo) = a by omega]
  · exact mw_out h (by omega)
theorem mok_cw (h : mok st mo) : mok (cw st G V) mo := ⟨h.1, by rw [cw_len]; exact h.2⟩
theorem mok_mw (h : mok st mo) : mok (mw st mo R) mo := ⟨h.1, by rw [mw_len h]; exact h.2⟩
theorem cw_some {k : CK} (hK : G.K a = some k) : (cw st G V).2[a]? = st.2[a]?.map fun _ => cell G.A V k := by
  unfold cw
  dsimp only
  rw [List.getElem?_mapIdx, hK]
theorem cw_mw (h : mok st mo) (hK : ∀ j, j < 20 → G.K (mo + j) = none) : mw (cw st G V) mo R = cw (mw st mo R) G V := by
  refine Prod.ext rfl (List.ext_getElem? fun a => ?_)
  by_cases c : mo ≤ a ∧ a < mo + 20
  · have e := hK (a - mo) (by omega)
    rw [show mo + (a - mo) = a by omega] at e
    rw [mw_in (mok_cw h) c, cw_raw e, mw_in h c]
  · rw [mw_out (mok_cw h) (by omega)]
    cases e : G.K a with
    | none => rw [cw_raw e, cw_raw e, mw_out h (by omega)]
    | some k => rw [cw_some e, cw_some e, mw_out h (by omega)]
theorem cw_zsta {x : Nat × ZA} (hK : G.K a = none) : zsta (cw st G V) a x = cw (zsta st a x) G V := by
  refine Prod.ext rfl (List.ext_getElem? fun b => ?_)
  by_cases c : a = b
  · subst c
    rw [cw_raw hK]
    show ((cw st G V).2.set a (.inl x))[a]? = (st.2.set a (.inl x))[a]?
    rw [List.getElem?_set, List.getElem?_set, cw_len, if_pos rfl, if_pos rfl]
  · have hz : ∀ S : ZS, (zsta S a x).2[b]? = S.2[b]? := fun S => List.getElem?_set_ne c
    rw [hz]
    cases e : G.K b with
    | none => rw [cw_raw e, cw_raw e, hz]
    | some k => rw [cw_some e, cw_some e, hz]
/-- cells of the reference, arrays for answers -/
abbrev RB (st : ZS) (G : CG) (mo ao aD : Nat) (R : MR) (f : Nat → Int64) (g : Nat → UInt64) : Prop := (mok st mo ∧ ∀ j, j < 20 → G.K (mo + j) = none ∧ st.2[mo + j]? = (mcs mo R)[j]?) ∧ (3 < mo ∧ mo + 20 ≤ ao ∧ ao < aD ∧ aD < st.2.length) ∧ (G.K ao = none ∧ G.K aD = none) ∧ st.2[ao]? = some (.inl (1, .inr (.inl f))) ∧ st.2[aD]? = some (.inl (1, .inr (.inr (.inr (.inl g)))))
theorem RB_ex (B : RB st G mo ao aD R f g) (E : Ext st G st' G') : RB st' G' mo ao aD R f g := by
  obtain ⟨⟨h, hc⟩, ⟨b1, b2, b3, b4⟩, ⟨k1, k2⟩, e1, e2⟩ := B
  have hl := E.len
  have r1 := E.raw ao (by omega) k1
  have r2 := E.raw aD b4 k2
  refine ⟨⟨⟨h.1, Nat.le_trans h.2 hl⟩, fun j hj => ?_⟩, ⟨b1, b2, b3, by omega⟩, ⟨r1.1, r2.1⟩, r1.2.trans e1, r2.2.trans e2⟩
  have hh := h.2
  have r := E.raw (mo + j) (by omega) (hc j hj).1
  exact ⟨r.1, r.2.trans (hc j hj).2⟩
theorem RB_u (B : RB st G mo ao aD R f g) {x : Nat} : RB (x, st.2) G mo ao aD R f g := B
theorem RB_mw (B : RB st G mo ao aD R f g) : RB (mw st mo R') G mo ao aD R' f g := by
  obtain ⟨⟨h, hc⟩, ⟨b1, b2, b3, b4⟩, ⟨k1, k2⟩, e1, e2⟩ := B
  refine ⟨⟨mok_mw h, fun j hj => ⟨(hc j hj).1, mw_at h j hj⟩⟩, ⟨b1, b2, b3, by rw [mw_len h]; exact b4⟩, ⟨k1, k2⟩, ?_, ?_⟩
  · rw [mw_out h (.inr (by omega))]; exact e1
  · rw [mw_out h (.inr (by omega))]; exact e2
theorem zsta_at {x : Nat × ZA} : (zsta st a x).2[b]? = if a = b then (if a < st.2.length then some (.inl x) else none) else st.2[b]? := List.getElem?_set
theorem RB_ao (B : RB st G mo ao aD R f g) {f' : Nat → Int64} : RB (zsta st ao (1, .inr (.inl f'))) G mo ao aD R f' g := by
  obtain ⟨⟨h, hc⟩, ⟨b1, b2, b3, b4⟩, ⟨k1, k2⟩, e1, e2⟩ := B
  have hl : (zsta st ao (1, .inr (.inl f'))).2.length = st.2.length := List.length_set
  refine ⟨⟨⟨h.1, by rw [hl]; exact h.2⟩, fun j hj => ⟨(hc j hj).1, ?_⟩⟩, ⟨b1, b2, b3, by rw [hl]; exact b4⟩, ⟨k1, k2⟩, ?_, ?_⟩
  · rw [zsta_at, if_neg (by omega)]; exact (hc j hj).2
  · rw [zsta_at, if_pos rfl, if_pos (by omega)]
  · rw [zsta_at, if_neg (by omega)]; exact e2
theorem RB_aD (B : RB st G mo ao aD R f g) {g' : Nat → UInt64} : RB (zsta st aD (1, .inr (.inr (.inr (.inl g'))))) G mo ao aD R f g' := by
  obtain ⟨⟨h, hc⟩, ⟨b1, b2, b3, b4⟩, ⟨k1, k2⟩, e1, e2⟩ := B
  have hl : (zsta st aD (1, .inr (.inr (.inr (.inl g'))))).2.length = st.2.length := List.length_set
  refine ⟨⟨⟨h.1, by rw [hl]; exact h.2⟩, fun j hj => ⟨(hc j hj).1, ?_⟩⟩, ⟨b1, b2, b3, by rw [hl]; exact b4⟩, ⟨k1, k2⟩, ?_, ?_⟩
  · rw [zsta_at, if_neg (by omega)]; exact (hc j hj).2
  · rw [zsta_at, if_neg (by omega)]; exact e1
  · rw [zsta_at, if_pos rfl, if_pos b4]
/-- R: what the reference's cells hold; R': what the class's cells are related to; k calls so far -/
abbrev WI (st : ZS) (G : CG) (V : CV) (ka mo ao aD : Nat) (R R' : MR) (k : Nat) (f : Nat → Int64) (g : Nat → UInt64) : Prop := cok st G ∧ CI G V ∧ REL V R' ∧ G.A .kx = ka ∧ RB st G mo ao aD R f g ∧ nC V ≤ k ∧ st.1 ≤ pot V + 7 * k + 5000
theorem WI.ok (W : WI st G V ka mo ao aD R R' k f g) : cok st G := W.1
theorem WI.ci (W : WI st G V ka mo ao aD R R' k f g) : CI G V := W.2.1
theorem WI.rl (W : WI st G V ka mo ao aD R R' k f g) : REL V R' := W.2.2.1
theorem WI.ke (W : WI st G V ka mo ao aD R R' k f g) : G.A .kx = ka := W.2.2.2.1
theorem WI.rb (W : WI st G V ka mo ao aD R R' k f g) : RB st G mo ao aD R f g := W.2.2.2.2.1
theorem WI.nc (W : WI st G V ka mo ao aD R R' k f g) : nC V ≤ k := W.2.2.2.2.2.1
theorem WI.ub (W : WI st G V ka mo ao aD R R' k f g) : st.1 ≤ pot V + 7 * k + 5000 := W.2.2.2.2.2.2
/-- a call that throws -/
theorem WI_thr (W : WI st G V ka mo ao aD R R k f g) : WI (st.1 + 7, st.2) G V ka mo ao aD R (mF R 25 x) (k + 1) f g := by
  refine ⟨W.ok, W.ci, REL_25 W.rl, W.ke, RB_u W.rb, Nat.le_succ_of_le W.nc, ?_⟩
  have := W.ub
  show st.1 + 7 ≤ _
  omega
/-- a call that answers -/
theorem WI_sta (W : WI st G V ka mo ao aD R R k f g) (E : Sta st G V st' G' V') (I : CI G' V') (L : REL V' R') (hn : nC V' ≤ nC V + 1) : WI st' G' V' ka mo ao aD R R' (k + 1) f g := by
  refine ⟨E.ok, I, L, (E.ex.A .kx (by decide) W.ci.kx).trans W.ke, RB_ex W.rb E.ex, Nat.le_trans hn (Nat.succ_le_succ W.nc), ?_⟩
  have := W.ub
  have := E.pt
  omega
theorem WI_ao (W : WI st G V ka mo ao aD R R' k f g) {f' : Nat → Int64} : WI (zsta st ao (1, .inr (.inl f'))) G V ka mo ao aD R R' k f' g := by
  refine ⟨fun a k h => ?_, W.ci, W.rl, W.ke, RB_ao W.rb, W.nc, W.ub⟩
  have hl : (zsta st ao (1, .inr (.inl f'))).2.length = st.2.length := List.length_set
  rw [hl]
  exact W.ok a k h
theorem WI_aD (W : WI st G V ka mo ao aD R R' k f g) {g' : Nat → UInt64} : WI (zsta st aD (1, .inr (.inr (.inr (.inl g'))))) G V ka mo ao aD R R' k f g' := by
  refine ⟨fun a k h => ?_, W.ci, W.rl, W.ke, RB_aD W.rb, W.nc, W.ub⟩
  have hl : (zsta st aD (1, .inr (.inr (.inr (.inl g'))))).2.length = st.2.length := List.length_set
  rw [hl]
  exact W.ok a k h
theorem WI_mw (W : WI st G V ka mo ao aD R R' k f g) : WI (mw st mo R') G V ka mo ao aD R' R' k f g := by
  refine ⟨fun a k h => ?_, W.ci, W.rl, W.ke, RB_mw W.rb, W.nc, W.ub⟩
  rw [mw_len W.rb.1.1]
  exact W.ok a k h
theorem WI_q (W : WI st G V ka mo ao aD R R k f g) : WI st G V ka mo ao aD R (mF R 25 x) (k + 1) f g := by
  refine ⟨W.ok, W.ci, REL_25 W.rl, W.ke, W.rb, Nat.le_succ_of_le W.nc, ?_⟩
  have := W.ub
  omega
/-- the reference's form of the whole heap, and back -/
theorem WI_m (W : WI st G V ka mo ao aD R R' k f g) : cw st G V = mw (cw st G V) mo R := by
  refine (mw_self (mok_cw W.rb.1.1) fun j hj => ?_).symm
  rw [cw_raw (W.rb.1.2 j hj).1]
  exact (W.rb.1.2 j hj).2
theorem WI_c (W : WI st G V ka mo ao aD R R' k f g) : mw (cw st G V) mo R' = cw (mw st mo R') G V := cw_mw W.rb.1.1 fun j hj => (W.rb.1.2 j hj).1
theorem WI_L (W : WI st G V ka mo ao aD R R' k f g) : zaL (cw st G V) ao = some (1, f) := by
  have e : (cw st G V).2[ao]? = some (.inl (1, .inr (.inl f))) := (cw_raw W.rb.2.2.1.1).trans W.rb.2.2.2.1
  unfold zaL zarr
  rw [e]
theorem WI_D (W : WI st G V ka mo ao aD R R' k f g) : zaD (cw st G V) aD = some (1, g) := by
  have e : (cw st G V).2[aD]? = some (.inl (1, .inr (.inr (.inr (.inl g))))) := (cw_raw W.rb.2.2.1.2).trans W.rb.2.2.2.2
  unfold zaD zarr
  rw [e]
theorem WI_Lm (W : WI st G V ka mo ao aD R R' k f g) : zaL (mw (cw st G V) mo R') ao = some (1, f) := by
  rw [WI_c W]
  exact WI_L (WI_mw W)
theorem WI_Dm (W : WI st G V ka mo ao aD R R' k f g) : zaD (mw (cw st G V) mo R') aD = some (1, g) := by
  rw [WI_c W]
  exact WI_D (WI_mw W)
theorem zsta_u {x : Nat × ZA} : zsta (n, st.2) a x = (n, (zsta st a x).2) := rfl
theorem lg_self (x : Int64) : lg_cmp x x = 0 := by
  unfold lg_cmp
  rw [if_neg (Int64.lt_irrefl), if_pos rfl]
theorem dc_self (hu : u ≤ 2139095040) {op : CmpOp} : Op.cmpValue (FP.dcmp (FP.f2d u) (FP.f2d u)) op = 0 := by
  rw [(fp_f2d hu).2]
  rfl
theorem zi01 : zix 0 1 = some 0 := by decide
theorem zai_1 : zai X st 1 = some X := if_pos rfl
/-! the field of what was thrown -/
theorem lay_25 {w hh : Int32} : (layX R n p w hh).2.1 25 = R.2.1 25 := by
  unfold layX
  split
  · split <;> rfl
  · split <;> rfl
theorem nsl_25 {w hh : Int32} : ∀ (m k : Nat) (R : MR), (nsl j w hh m k R).1.2.1 25 = R.2.1 25
  | 0, k, R => rfl
  | m + 1, k, R => by
    unfold nsl
    cases layP R (nP R) w hh with
    | none => rfl
    | some p =>
      show (nsl j w hh m (k + 1) _).1.2.1 25 = _
      rw [nsl_25 m]
      exact lay_25
theorem nsF_25 : (nsF R j).2.1 25 = R.2.1 25 := by
  unfold nsF nsE
  split
  · exact nsl_25 _ _ _
  · exact nsl_25 _ _ _
theorem trl_25 : ∀ (m j : Nat) (R : MR), (trl m j R).2.1 25 = R.2.1 25
  | 0, j, R => rfl
  | m + 1, j, R => by
    show (trl m (j + 1) (if R.1 15 j = 0 ∧ R.1 0 (tN (R.1 13 j)) = 1 then nsF R j else R)).2.1 25 = _
    rw [trl_25 m]
    split
    · exact nsF_25
    · rfl
theorem trF_25 : (trF R).2.1 25 = R.2.1 25 := trl_25 _ _ _
end WD
