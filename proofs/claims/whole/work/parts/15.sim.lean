/-! RUNS ARE SOUND: what the abstract machine answers, the real one does -/
def zrm (d n : Nat) : Room := { frames := d + 1, cells := n, slots := n, locals := 31 * d + 100 }
def zcw (y : Nat) : Cond := match zhh y with
  | [] => .code (znm y) (zby y) (zml y) (zrt y)
  | h => .codeWith (znm y) (zby y) (zml y) (zrt y) h
def zwo (y : Nat) : List Cond := zcw y :: zgw
def ZPre (G : va_G) (tc : Nat → ClassId) (ad : Nat → Nat) (X : ZX) (st : ZS) (A : Nat → Prop) (U : State) : Prop := va_P G vwCl (zws tc ad st.2) U.heap ∧ va_K G vwCl (ztys tc) U ∧ va_D (fun _ => True) (zws tc ad st.2) ∧ ZCh U A U.heap ad X ∧ ZCv U (ad 2)
def ZPo (G : va_G) (tc : Nat → ClassId) (ad ad' : Nat → Nat) (st st' : ZS) (A : Nat → Prop) (t : State) : Prop := (∀ k, k < st.2.length → ad' k = ad k) ∧ va_P G vwCl (zws tc ad' st'.2) t.heap ∧ va_D A (zws tc ad' st'.2) ∧ (zhok st'.2 ∧ zspc st'.2) ∧ st.2.length ≤ st'.2.length
def zQ (G : va_G) (tc : Nat → ClassId) (ad : Nat → Nat) (st : ZS) (r : ZR) (A : Nat → Prop) : Array Value → State → Outcome → State → Prop := fun _ st0 o t => (∃ (v : Option Value) (ad' : Nat → Nat), r.1 = .inl v ∧ o = .returned (v.map (zcv ad')) ∧ (∀ w, v = some w → zvok r.2.2.length w) ∧ ZPo G tc ad ad' st r.2 A t) ∧ va_F A st0 t
def zXo (G : va_G) (tc : Nat → ClassId) (ad : Nat → Nat) (st : ZS) (r : ZR) (A : Nat → Prop) : String → State → State → Prop := fun E st0 t => (∃ ad', r.1 = .inr E ∧ ZPo G tc ad ad' st r.2 A t) ∧ va_F A st0 t
def ZCt (l : Launch) (G : va_G) (tc : Nat → ClassId) (X : ZX) (d y : Nat) (args : List Value) (st : ZS) (r : ZR) : Prop := ∀ (ad : Nat → Nat) (sz : Nat), zhok st.2 → zspc st.2 → (∀ v ∈ args, zvok st.2.length v) →
  vx_Met l (znm y) (zwo y) (zrm d (r.2.1 - st.1)) (va_Pc (args.map (zcv ad)) (fun U => U.heap.size = sz ∧ ZPre G tc ad X st (va_A (zws tc ad st.2) sz) U)) (zQ G tc ad st r (va_A (zws tc ad st.2) sz)) (zXo G tc ad st r (va_A (zws tc ad st.2) sz)) (r.2.1 - st.1) (r.2.1 - st.1) (va_A (zws tc ad st.2) sz)
theorem ZCv.warm {s U : State} {mr : Nat} (hW : s.WarmedH U.vm) (h : ZCv s mr) : ZCv U mr := by
  obtain ⟨h1, h2, h3, h4, h5, h6, h7, h8, h9⟩ := h
  exact ⟨h1.moved hW.alike, h2.moved hW.alike, h3.moved hW.alike, fun w hw => (h4 w hw).imp fun sa h => h.warm hW, fun C hC => (h5 C hC).warmC hW, fun w hw => (h6 w hw).warmM hW, fun E hE => (h7 E hE).warmC hW, fun E hE F hF n => (h8 E hE F hF n).moved hW.alike, fun x hx => (h9 x hx).warmD hW⟩
theorem ZCh.moved {u U : State} {A : Nat → Prop} {H : Heap} {ad : Nat → Nat} {X : ZX} (hvm : u.vm.Alike U.vm) (h : ZCh u A H ad X) : ZCh U A H ad X :=
  ⟨⟨h.1.1.moved hvm, h.1.2.moved hvm⟩, ⟨h.2.1.1.moved hvm, h.2.1.2⟩, h.2.2.1.moved hvm, h.2.2.2.moved hvm⟩
theorem ZCh.kept {u : State} {A : Nat → Prop} {H H1 : Heap} {ad : Nat → Nat} {X : ZX} (h : ZCh u A H ad X) (hz : H.size ≤ H1.size) (hq : ∀ a : Nat, a < H.size → ¬ A a → H1[a]? = H[a]?) : ZCh u A H1 ad X :=
  ⟨⟨h.1.1.kept hq, h.1.2.kept hq⟩, ⟨h.2.1.1.kept (hq _ h.2.1.2.1 h.2.1.2.2), Nat.lt_of_lt_of_le h.2.1.2.1 hz, h.2.1.2.2⟩, h.2.2.1.kept hq, h.2.2.2.kept hq⟩
theorem ZCh.narrow {u : State} {A B : Nat → Prop} {H : Heap} {ad : Nat → Nat} {X : ZX} (h : ZCh u A H ad X) (hAB : ∀ q, B q → A q) : ZCh u B H ad X :=
  ⟨⟨h.1.1.narrow hAB, h.1.2.narrow hAB⟩, ⟨h.2.1.1, h.2.1.2.1, fun z => h.2.1.2.2 (hAB _ z)⟩, h.2.2.1.narrow hAB, h.2.2.2.narrow hAB⟩
theorem ZCh.ad {u : State} {A : Nat → Prop} {H : Heap} {ad ad' : Nat → Nat} {X : ZX} (h : ZCh u A H ad X) (e0 : ad' 0 = ad 0) (e1 : ad' 1 = ad 1) : ZCh u A H ad' X := by
  unfold ZCh at h ⊢
  rw [e0, e1]
  exact h
theorem ZPre.blind {G : va_G} {tc : Nat → ClassId} {ad : Nat → Nat} {X : ZX} {st : ZS} {A : Nat → Prop} {sz : Nat} {av : List Value} : FrameBlind (va_Pc av (fun U => U.heap.size = sz ∧ ZPre G tc ad X st A U)) := by
  intro a U g mk h
  obtain ⟨h0, h1, h2, h3, h4, h5, h6⟩ := h
  exact ⟨h0, h1, h2, va_K.moved (u := U) (U := U.calling g mk a) (Vm.Alike.refl U.vm) h3, h4, ZCh.moved (u := U) (U := U.calling g mk a) (Vm.Alike.refl U.vm) h5, ZCv.warm (s := U) (U := U.calling g mk a) (State.WarmedH.refl U) h6⟩
def ZWx (p : Program) (l : Launch) (e : Env) (R : Room) (s : State) (m : MethodId) (args : Array Value) (below : List Frame) (meth : Method) (c : Code) (G : va_G) (tc : Nat → ClassId) (A : Nat → Prop) (ad0 : Nat → Nat) (n0 u0 mi : Nat) (Q : State → Prop) (pc : Nat) (L : List Value) (st : ZS) (E : String) : Prop :=
  ∀ (ad : Nat → Nat) (H : Heap) (locs : List Loc) (ls : Array Slot) (q : Addr) (ce : Cell) (rest : List Value), ZPt G tc A s ad0 n0 u0 (zml mi) ad st L [] H locs ls → H[q]? = some ce → ce.vm = .none → s.vm.findClass E = some ce.cls → vx_W p l e R s m args below meth c H locs (st.1 - u0) (st.1 - u0) Q (F0 m pc ls rest) q
section ZN1
variable {p : Program} {l : Launch} {e : Env} {R : Room} {s : State} {m : MethodId} {args : Array Value} {below : List Frame} {meth : Method} {c : Code} {G : va_G} {tc : Nat → ClassId} {A : Nat → Prop} {ad0 : Nat → Nat} {n0 u0 mi : Nat} {Q : State → Prop} {X : ZX} {pc : Nat} {L S : List Value} {st : ZS} {q : ZQ}
theorem zfreeA {ad : Nat → Nat} {H : Heap} {locs : List Loc} {ls : Array Slot} (F : ZEv p l s m args meth c G tc A ad0 X mi) (h : ZPt G tc A s ad0 n0 u0 (zml mi) ad st L S H locs ls) : ∀ q, va_A (zws tc ad st.2) H.size q → A q := by
  obtain ⟨-, ⟨-, hA, -⟩, -⟩ := F
  rintro q (⟨k, ee, hk⟩ | hk)
  · exact h.1.2.1.2 k (q, ee) hk
  · exact hA q (Nat.le_trans h.1.2.2.1 hk)
/-- behind a call -/
theorem z_aft {ad : Nat → Nat} {H : Heap} {locs : List Loc} {ls : Array Slot} {r : ZR} {rest stk : List Value} {a' : Array Value} (F : ZEv p l s m args meth c G tc A ad0 X mi) (h : ZPt G tc A s ad0 n0 u0 (zml mi) ad st L S H locs ls) (hrest : ∀ v ∈ rest, zvok st.2.length v) (hu : st.1 ≤ r.2.1)
    (hr : vx_Run p l e R s m args below meth c H locs (st.1 - u0) (st.1 - u0) (r.2.1 - st.1) (r.2.1 - st.1) (F0 m pc ls stk) (rest.map (zcv ad)) (zQ G tc ad st r (va_A (zws tc ad st.2) H.size) a') (zXo G tc ad st r (va_A (zws tc ad st.2) H.size)) (va_A (zws tc ad st.2) H.size))
    (hk : ∀ v, r.1 = .inl v → ZW p l e R s m args below meth c G tc A ad0 n0 u0 mi Q (pc + 3) L (v.toList ++ rest) r.2)
    (hx : ∀ E, r.1 = .inr E → ZWx p l e R s m args below meth c G tc A ad0 n0 u0 mi Q pc L r.2 E) : W p l e R s m args below meth c H locs (st.1 - u0) (st.1 - u0) Q (F0 m pc ls stk) := by
  have hfr := zfreeA F h
  obtain ⟨g1, g2, g3, g4⟩ := h.2.2.2
  have hsum : st.1 - u0 + (r.2.1 - st.1) = r.2.1 - u0 := by omega
  have hpt : ∀ (ad' : Nat → Nat) (t : State) (locs1 : List Loc) (S' : List Value), ZPo G tc ad ad' st r.2 (va_A (zws tc ad st.2) H.size) t → va_S A s.heap t.heap locs1 → (∀ v ∈ S', zvok r.2.2.length v) → ZPt G tc A s ad0 n0 u0 (zml mi) ad' r.2 L S' t.heap locs1 ls := by
    intro ad' t locs1 S' hpo hS hS'
    obtain ⟨q1, q2, q3, ⟨q4, q5⟩, q6⟩ := hpo
    exact ⟨⟨q2, q3.weaken fun k q _ hq => hfr _ hq, hS⟩, ⟨q4, q5⟩, ⟨h.zl.ad h.lok q1, fun v hv => zvok_mono (h.lok v hv) q6, hS'⟩, ⟨fun k hk => by rw [q1 k (Nat.lt_of_lt_of_le hk g2)]; exact g1 k hk, Nat.le_trans g2 q6, g3, Nat.le_trans g4 hu⟩⟩
  intro T hT X'
  rcases hr T hT X' with ⟨v, st₀, t, T', L', h0, X'', hL, e1, e2, hq, stp⟩ | ⟨q9, st₀, t, T', L', E, ce, h0, X'', hL, e1, e2, hq, hce, hcv, hcl, stp⟩
  · obtain ⟨⟨v0, ad', hr1, ho, hv, hpo⟩, hF⟩ := hq
    cases ho
    obtain ⟨k1, k2, k3⟩ := vx_keep h0 e1 h.1.2.2 (fun q _ hq => hfr q hq) hfr hL hF
    rw [e1] at k3
    have hS' : ∀ w ∈ v0.toList ++ rest, zvok r.2.2.length w := by
      intro w hw
      rcases List.mem_append.mp hw with z | z
      · cases v0 with
        | none => simp at z
        | some w0 => simp only [Option.toList_some, List.mem_singleton] at z; exact hv w (by rw [z])
      · exact zvok_mono (hrest w z) hpo.2.2.2.2
    have k9 := hk v0 hr1 ad' t.heap (locs ++ L') ls (hpt ad' t _ _ hpo k3 hS')
    rw [hsum] at X''
    obtain ⟨t2, a1, b1⟩ := k9 T' e1 X''
    refine ⟨t2, stp t2 ?_, b1⟩
    have ev : (v0.toList ++ rest).map (zcv ad') = (v0.map (zcv ad')).toList ++ rest.map (zcv ad) := by
      rw [List.map_append, List.map_congr_left fun v hv => zcv_ad (hrest v hv) hpo.1]
      cases v0 <;> rfl
    rw [ev] at a1
    exact a1
  · obtain ⟨⟨ad', hr1, hpo⟩, hF⟩ := hq
    obtain ⟨k1, k2, k3⟩ := vx_keep h0 e1 h.1.2.2 (fun q _ hq => hfr q hq) hfr hL hF
    rw [e1] at k3
    rw [hsum] at X''
    obtain ⟨t2, a1, b1⟩ := hx E hr1 ad' t.heap (locs ++ L') ls q9 ce (rest.map (zcv ad)) (hpt ad' t _ [] hpo k3 (fun v hv => absurd hv List.not_mem_nil)) hce hcv hcl T' e1 X''
    exact ⟨t2, stp.trans a1, b1⟩
/-- what a call needs -/
theorem z_pre {ad : Nat → Nat} {H : Heap} {locs : List Loc} {ls : Array Slot} {U : State} (F : ZEv p l s m args meth c G tc A ad0 X mi) (h : ZPt G tc A s ad0 n0 u0 (zml mi) ad st L S H locs ls) (hU : U.heap = H) (hW : s.WarmedH U.vm) : U.heap.size = H.size ∧ ZPre G tc ad X st (va_A (zws tc ad st.2) H.size) U := by
  have hfr := zfreeA F h
  obtain ⟨-, ⟨hK, -⟩, hch, hcv⟩ := F
  obtain ⟨g1, g2, g3, g4⟩ := h.2.2.2
  subst hU
  refine ⟨rfl, h.1.1, va_K.moved hW.alike hK, h.1.2.1.weaken (fun _ _ _ _ => trivial), ?_, ?_⟩
  · exact (((hch.kept h.1.2.2.1 h.1.2.2.2.1).narrow hfr).ad (g1 0 (by omega)) (g1 1 (by omega))).moved hW.alike
  · rw [g1 2 (by omega)]
    exact hcv.warm hW
theorem z_good {y : Nat} (hy : zcw y ∈ zgw) : ∀ w ∈ zwo y, w ∈ zgw ∧ ((w.onTables && w.keeps) = true ∨ ∃ ty, w = .arrayClass ty) := by
  have hg : ∀ w ∈ zgw, w ∈ zgw ∧ ((w.onTables && w.keeps) = true ∨ ∃ ty, w = .arrayClass ty) := fun w hw => ⟨hw, good_of_word (List.mem_filter.mp hw).2⟩
  intro w hw
  rcases List.mem_cons.mp hw with e | e
  · rw [e]; exact hg _ hy
  · exact hg w e
end ZN1
