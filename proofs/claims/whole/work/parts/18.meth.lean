/-! methods' contracts: each call of the abstract machine that answers is one of the real machine -/
def zNM : List String := ["java/lang/RuntimeException", "java/lang/Exception"]
def zT3 : List (String × Nat × String) := [(RX5, 37, "java/lang/IllegalStateException"), (RX5, 61, "java/lang/IndexOutOfBoundsException"), (RX5, 66, "java/lang/IllegalArgumentException")]
set_option maxRecDepth 100000 in
theorem zT3_in : zT3.all (fun t => (vx_atS t.1 t.2.1 t.2.2 zNM).all fun w => lw_tbl.contains w) = true := by decide +kernel
set_option maxRecDepth 100000 in
theorem zT3_good : zT3.all (fun t => (vx_atS t.1 t.2.1 t.2.2 zNM).all fun w => goodWord w || (match w with
  | .castable a b => decide (a = t.2.2) && decide (b = t.2.2)
  | .declares _ => true
  | _ => false)) = true := by decide +kernel
set_option maxRecDepth 100000 in
theorem zT3_ot : zT3.all (fun t => (vx_atS t.1 t.2.1 t.2.2 zNM).all vx_ot && (Bundle.fit t.2.2 && decide (t.2.2 ∈ zEX))) = true := by decide +kernel
def zTh (x : ((Nat × Nat × Nat × Nat) × String) × (String × List Nat)) : Bool := zhas (.classLink (zow x.1.1.1) x.1.1.2.1 x.1.2) (x.2.2.getD 0 0) && (zhas (.initialized x.1.2) (x.2.2.getD 1 0) && decide ((zow x.1.1.1, x.1.1.2.2.2, x.1.2) ∈ zT3))
set_option maxRecDepth 100000 in
theorem zTh_all : (zXL.zip zXP).all zTh = true := by decide +kernel
section ZQ1
variable {p : Program} {l : Launch} {e : Env} {R : Room} {s : State} {m : MethodId} {args : Array Value} {below : List Frame} {meth : Method} {c : Code} {G : va_G} {tc : Nat → ClassId} {A : Nat → Prop} {ad0 : Nat → Nat} {n0 u0 mi : Nat} {Q : State → Prop} {X : ZX} {pc : Nat} {L S : List Value} {st : ZS} {q : ZQ}
theorem zthrow {d : Nat} {r : ZR} {E : String} {ik : Nat} {u1 : ZS} (F : ZEv p l s m args meth c G tc A ad0 X mi) (hT : c.exceptionTable.toList.map (fun h => (h.startPc, h.endPc, h.handlerPc, h.catchType)) = zhh mi) (hh : zhh mi = []) (hd5 : 5 ≤ d) (hRf : R.frames = d + 1) (hRl : 31 * d + 100 ≤ R.locals) (hRc : r.2.1 - u0 ≤ R.cells ∧ r.2.1 - u0 ≤ R.slots)
    (hS4 : S.length ≤ 4) (hz : zthr mi ik pc = some E) (hd : decode (zby mi) pc = .ok (.new ik, 3)) (hr : r = (.inr E, (st.1 + 7, st.2))) (hn : n0 = u1.2.length) (hu1 : u0 = u1.1) (hQ : Q = vx_MQ below (zQ G tc ad0 u1 r A) (zXo G tc ad0 u1 r A) args s (r.2.1 - u0) (r.2.1 - u0) A) : ZW p l e R s m args below meth c G tc A ad0 n0 u0 mi Q pc L S st := by
  obtain ⟨⟨hx, hb, hml, hown, hts⟩, ⟨hK, hA, hlk, hst, hrt, hin⟩, ⟨hch1, hch2, hU, hN⟩, hcv⟩ := F
  subst hQ
  unfold zthr at hz
  split at hz
  · rename_i it ic e3 e4 e6 e9
    obtain ⟨cp, hcp⟩ := zzip (r := zXP) (by decide +kernel) (zlk hz)
    have h1 := List.all_eq_true.mp zTh_all _ hcp
    simp only [zTh, Bool.and_eq_true] at h1
    obtain ⟨w1, w2, w3⟩ := h1
    have w3 := of_decide_eq_true w3
    have a1 := List.all_eq_true.mp zT3_in _ w3
    have a2 := List.all_eq_true.mp zT3_good _ w3
    have a3 := List.all_eq_true.mp zT3_ot _ w3
    dsimp only at a1 a2 a3
    rw [Bool.and_eq_true, Bool.and_eq_true] at a3
    have hEX : E ∈ zEX := of_decide_eq_true a3.2.2
    obtain ⟨sa, hsa⟩ := hcv.2.2.2.1 (zow (zoc mi), it, cp.1) (List.mem_map.mpr ⟨_, hcp, rfl⟩)
    have hat : ∀ w ∈ vx_atS (zow (zoc mi)) ic E zNM, w.before args s = true := by
      intro w hw
      have b1 : w ∈ lw_tbl := List.contains_iff_mem.mp (List.all_eq_true.mp a1 w hw)
      have b2 := List.all_eq_true.mp a2 w hw
      rw [Bool.or_eq_true] at b2
      rcases b2 with b | b
      · exact hts w (List.mem_filter.mpr ⟨b1, b⟩)
      · split at b
        · rw [Bool.and_eq_true] at b
          rw [of_decide_eq_true b.1, of_decide_eq_true b.2]
          exact (hcv.2.2.2.2.2.2.1 E hEX).use rfl
        · rename_i x
          exact (hcv.2.2.2.2.2.2.2.2 x (List.mem_filterMap.mpr ⟨_, b1, rfl⟩)).use rfl
        · cases b
    have hout : ∀ x ∈ c.exceptionTable.toList, False := by
      intro x hx9
      have : (x.startPc, x.endPc, x.handlerPc, x.catchType) ∈ zhh mi := by rw [← hT]; exact List.mem_map.mpr ⟨x, hx9, rfl⟩
      rw [hh] at this
      exact List.not_mem_nil this
    intro ad H locs ls h
    have hsum : ((S.map (zcv ad)).map fun v => v.category).sum ≤ 8 := zsum (by rw [List.length_map]; exact hS4)
    obtain ⟨g1, g2, g3, g4⟩ := h.2.2.2
    have hr1 : r.2.1 = st.1 + 7 := by rw [hr]
    refine vx_throwS (text := cp.1) (names := zNM) (ik := ik) (is := it) (ic := ic) (sa := sa) (A := A) hx hb hst hown a3.2.1 (by decide +kernel) (hts _ (zhas_mem w1)) (hts _ (zhas_mem w2)) hsa hat (fun w hw => ?_) hU hN h.1.2.2 (by rw [hml]; exact h.zl.2.1) hd e3 e4 e6 e9 (fun x hx9 => (hout x hx9).elim) (by rw [hRf]; show 2 + 3 < d + 1; omega) (by show _ + (13 * (2 + 1) + 43) ≤ R.locals; omega) (by omega) (by omega) hlk (fun t hal hsz hq => ?_) h.1.2.2.2.2 (by omega) (by omega)
    · rcases List.mem_cons.mp hw with e | hw
      · rw [e]; rfl
      · rcases List.mem_cons.mp hw with e | hw
        · rw [e]; rfl
        · exact List.all_eq_true.mp a3.1 w hw
    · refine ⟨⟨ad, by rw [hr], ?_⟩, ?_⟩
      · rw [hr]
        refine ⟨fun k hk => g1 k (by rw [hn]; exact hk), ?_, h.1.2.1, h.2.1, by rw [← hn]; exact g2⟩
        intro k q hq9
        exact (h.1.1 k q hq9).kept (hq q.1 (h.1.1 k q hq9).lt)
      · refine ⟨Nat.le_trans h.1.2.2.1 hsz, fun q h1 h2 => ?_⟩
        rw [hq q (Nat.lt_of_lt_of_le h1 h.1.2.2.1)]
        exact h.1.2.2.2.1 q h1 h2
  · cases hz
/-- the ends of a method -/
theorem zend {d len : Nat} {r : ZR} {i : Instr} {u1 : ZS} (F : ZEv p l s m args meth c G tc A ad0 X mi) (hT : c.exceptionTable.toList.map (fun h => (h.startPc, h.endPc, h.handlerPc, h.catchType)) = zhh mi) (hRf : R.frames = d + 1) (hRl : 31 * d + 100 ≤ R.locals) (hRc : r.2.1 - u0 ≤ R.cells ∧ r.2.1 - u0 ≤ R.slots)
    (hd : decode (zby mi) pc = .ok (i, len)) (hl : zlok i len = true) (hf : zfin d mi i pc S st = some r) (hn : n0 = u1.2.length) (hu1 : u0 = u1.1) (hQ : Q = vx_MQ below (zQ G tc ad0 u1 r A) (zXo G tc ad0 u1 r A) args s (r.2.1 - u0) (r.2.1 - u0) A) : ZW p l e R s m args below meth c G tc A ad0 n0 u0 mi Q pc L S st := by
  have F' := F
  obtain ⟨⟨hx, hb, hml, hown, hts⟩, ⟨hK, hA, hlk, hst, hrt, hin⟩, hch, hcv⟩ := F
  have hq : ∀ (v : Option Value) (ad : Nat → Nat) (H : Heap) (locs : List Loc) (ls : Array Slot), r = (.inl v, st) → (∀ w, v = some w → zvok st.2.length w) → ZPt G tc A s ad0 n0 u0 (zml mi) ad st L S H locs ls → ∀ t : State, t.heap = H → s.WarmedH t.vm → zQ G tc ad0 u1 r A args s (.returned (v.map (zcv ad))) t := by
    intro v ad H locs ls hr hv h t ht hW
    obtain ⟨g1, g2, g3, g4⟩ := h.2.2.2
    refine ⟨⟨v, ad, by rw [hr], rfl, by rw [hr]; exact hv, ?_⟩, h.1.2.2.F ht⟩
    rw [hr]
    exact ⟨fun k hk => g1 k (by rw [hn]; exact hk), by rw [ht]; exact h.1.1, h.1.2.1, h.2.1, by rw [← hn]; exact g2⟩
  cases i with
  | return_ =>
    have e := eq_of_beq hl
    subst e
    simp only [zfin] at hf
    split at hf
    · rename_i hz
      cases hf
      subst hQ
      intro ad H locs ls h
      exact vx_ret (W.vret hx hb (by rw [hrt, hz]) (hq none ad H locs ls rfl (fun w e => by cases e) h) h.1.2.2.2.2 hd)
    · cases hf
  | ireturn =>
    have e := eq_of_beq hl
    subst e
    simp only [zfin] at hf
    split at hf
    · rename_i v hz
      cases hf
      subst hQ
      intro ad H locs ls h
      exact vx_ret (W.iret hx hb (by rw [hrt, hz]) (hq (some (.int v)) ad H locs ls rfl (fun w e => by cases e; exact zvok_int) h) h.1.2.2.2.2 hd)
    · rename_i v hz
      split at hf
      · rename_i hv1
        cases hf
        subst hQ
        intro ad H locs ls h
        exact vx_ret (W.zret (ty := .boolean) hx hb (by rw [hrt, hz]) (by show Value.int (v &&& 1) = .int v; rw [hv1]) (hq (some (.int v)) ad H locs ls rfl (fun w e => by cases e; exact zvok_int) h) h.1.2.2.2.2 hd)
      · cases hf
    · cases hf
  | freturn =>
    have e := eq_of_beq hl
    subst e
    simp only [zfin] at hf
    split at hf
    · rename_i v hz
      cases hf
      subst hQ
      intro ad H locs ls h
      exact vx_ret (W.fret hx hb (by rw [hrt, hz]) (hq (some (.float v)) ad H locs ls rfl (fun w e => by cases e; exact zvok_float) h) h.1.2.2.2.2 hd)
    · cases hf
  | dreturn =>
    have e := eq_of_beq hl
    subst e
    simp only [zfin] at hf
    split at hf
    · rename_i v hz
      cases hf
      subst hQ
      intro ad H locs ls h
      exact vx_ret (W.dret hx hb (by rw [hrt, hz]) (hq (some (.double v)) ad H locs ls rfl (fun w e => by cases e; exact zvok_double) h) h.1.2.2.2.2 hd)
    · cases hf
  | areturn =>
    have e := eq_of_beq hl
    subst e
    simp only [zfin] at hf
    split at hf
    · rename_i v x hz
      cases hf
      subst hQ
      intro ad H locs ls h
      exact vx_ret (W.aret hx hb (by rw [hrt, hz]) (Or.inl ⟨_, rfl⟩) (Or.inr ⟨_, rfl⟩) (hq (some (.ref v)) ad H locs ls rfl (fun w e => by cases e; exact zall_hd h.sok) h) h.1.2.2.2.2 hd)
    · rename_i v x hz
      cases hf
      subst hQ
      intro ad H locs ls h
      exact vx_ret (W.aret hx hb (by rw [hrt, hz]) (Or.inr ⟨_, rfl⟩) (Or.inr ⟨_, rfl⟩) (hq (some (.ref v)) ad H locs ls rfl (fun w e => by cases e; exact zall_hd h.sok) h) h.1.2.2.2.2 hd)
    · rename_i x hz
      cases hf
      subst hQ
      intro ad H locs ls h
      exact vx_ret (W.aret hx hb (by rw [hrt, hz]) (Or.inl ⟨_, rfl⟩) (Or.inl rfl) (hq (some .null) ad H locs ls rfl (fun w e => by cases e; exact zvok_null) h) h.1.2.2.2.2 hd)
    · rename_i x hz
      cases hf
      subst hQ
      intro ad H locs ls h
      exact vx_ret (W.aret hx hb (by rw [hrt, hz]) (Or.inr ⟨_, rfl⟩) (Or.inl rfl) (hq (some .null) ad H locs ls rfl (fun w e => by cases e; exact zvok_null) h) h.1.2.2.2.2 hd)
    · cases hf
  | new ik =>
    have e := eq_of_beq hl
    subst e
    simp only [zfin] at hf
    split at hf
    · rename_i hc
      cases hz : zthr mi ik pc with
      | none => rw [hz] at hf; cases hf
      | some E =>
        rw [hz] at hf
        exact zthrow (u1 := u1) F' hT hc.1 hc.2.1 hRf hRl hRc hc.2.2 hz hd (Option.some.inj hf).symm hn hu1 hQ
    · cases hf
  | _ => exact absurd hf (by intro z; simp [zfin] at z)
end ZQ1
