/-! LISTS: size, get, add, clear -/
section CL
variable {X : ZX} {d : Nat} {st : ZS} {G : CG} {V : CV} {P : ZO → ZS → Prop} {x y : Int32} {n m q b : Nat}
abbrev lok (V : CV) (n m b : Nat) : Prop := V.i 1 n = nI m ∧ m ≤ V.c n ∧ V.c n ≤ 1000 ∧ (V.c n = 0 ∨ 10 ≤ V.c n) ∧ ∀ i q, V.e n i = some q → i < m ∧ q < b
theorem lok.sz (h : lok V n m b) : V.i 1 n = nI m := h.1
theorem lok.le (h : lok V n m b) : m ≤ V.c n := h.2.1
theorem lok.cp (h : lok V n m b) : V.c n ≤ 1000 := h.2.2.1
theorem lok.c0 (h : lok V n m b) : V.c n = 0 ∨ 10 ≤ V.c n := h.2.2.2.1
theorem lok.el (h : lok V n m b) : ∀ i q, V.e n i = some q → i < m ∧ q < b := h.2.2.2.2
theorem eld_n {c x : Nat} (h : c ≠ 0) : eld c x = x := if_neg h
theorem eld_0 {x : Nat} : eld 0 x = 0 := if_pos rfl
theorem C_size (h : cok st G) (hl : G.live (.al n)) : AC X (d + 1) 115 [.ref (G.A (.al n))] (cw st G V) P = P (.inl (some (.int (V.i 1 n)))) (cw st G V) := by
  rw [A_Jx4a65c_size_8abf5]
  simp only [E_Jx4a65c_size_8abf5_0, E_Jx4a65c_size_8abf5_0n, E_Jx4a65c_size_8abf5_1, E_Jx4a65c_size_8abf5_4, zwith_some, zwith_none, zif_true, zaft_inl, Option.toList_some, Option.toList_none, List.cons_append, List.nil_append, zc1_int, zc1_ref, zc1_null, zc1_float, List.length_nil, List.length_cons, Nat.reduceAdd, Nat.reduceLeDiff, Nat.zero_add, z1and, z0and, zl00, zl01, zl02, zl03, ze00, ze10, ze20, ze30, if_true, if_false, cg_al h hl]
theorem C_get (h : cok st G) (hal : G.live (.al n)) (har : G.live (.ar n)) (hl : lok V n m b) {j : Nat} (hj : j < m) (he : V.e n j = some q) : AC X (d + 3) 117 [.ref (G.A (.al n)), .int (nI j)] (cw st G V) P = P (.inl (some (.ref (G.A (ek n q))))) (cw st G V) := by
  have hm := hl.le
  have hc := hl.cp
  have hc0 : V.c n ≠ 0 := by omega
  have h1 : ¬ nI j < 0 := nI_pos (by omega)
  have h2 : nI j < nI m := nI_lt hj (by omega)
  have h3 : ¬ nI m ≤ nI j := nI_ge hj (by omega)
  have hz := zix_nI (show j < V.c n by omega) (by omega)
  rw [A_Jx4a65c_get_915e3]
  simp only [E_Jx4a65c_get_915e3_0, E_Jx4a65c_get_915e3_1, E_Jx4a65c_get_915e3_1n, E_Jx4a65c_get_915e3_2, E_Jx4a65c_get_915e3_5, E_Jx4a65c_get_915e3_8, E_Jx4a65c_get_915e3_8n, E_Jx4a65c_get_915e3_8i, E_Jx4a65c_get_915e3_8f, E_Jx4a65c_get_915e3_9, E_Jx4a65c_get_915e3_9n, E_Jx4a65c_get_915e3_10, E_Jx4a65c_get_915e3_11, E_Jx4a65c_get_915e3_14, E_Jx4a65c_get_915e3_14n, zwith_some, zwith_none, zif_true, zaft_inl, Option.toList_some, Option.toList_none, List.cons_append, List.nil_append, zc1_int, zc1_ref, zc1_null, zc1_float, List.length_nil, List.length_cons, Nat.reduceAdd, Nat.reduceLeDiff, Nat.zero_add, z1and, z0and, zl00, zl01, zl02, zl03, ze00, ze10, ze20, ze30, if_true, if_false, cg_al h hal, hl.sz]
  rw [A_J15_checkIndex_7cf53]
  simp only [E_J15_checkIndex_7cf53_0, E_J15_checkIndex_7cf53_1, E_J15_checkIndex_7cf53_2, E_J15_checkIndex_7cf53_3, E_J15_checkIndex_7cf53_6, zwith_some, zwith_none, zif_true, zaft_inl, Option.toList_some, Option.toList_none, List.cons_append, List.nil_append, zc1_int, zc1_ref, zc1_null, zc1_float, List.length_nil, List.length_cons, Nat.reduceAdd, Nat.reduceLeDiff, Nat.zero_add, z1and, z0and, zl00, zl01, zl02, zl03, ze00, ze10, ze20, ze30, if_true, if_false]
  rw [A_J3_checkIndex_8e157 rfl]
  simp only [E_J3_checkIndex_8e157_0, E_J3_checkIndex_8e157_1, E_J3_checkIndex_8e157_4, E_J3_checkIndex_8e157_5, E_J3_checkIndex_8e157_6, E_J3_checkIndex_8e157_9, E_J3_checkIndex_8e157_9n, E_J3_checkIndex_8e157_10, E_J3_checkIndex_8e157_11, E_J3_checkIndex_8e157_16, E_J3_checkIndex_8e157_17, E_Jx4a65c_get_915e3_0, E_Jx4a65c_get_915e3_1, E_Jx4a65c_get_915e3_1n, E_Jx4a65c_get_915e3_2, E_Jx4a65c_get_915e3_5, E_Jx4a65c_get_915e3_8, E_Jx4a65c_get_915e3_8n, E_Jx4a65c_get_915e3_8i, E_Jx4a65c_get_915e3_8f, E_Jx4a65c_get_915e3_9, E_Jx4a65c_get_915e3_9n, E_Jx4a65c_get_915e3_10, E_Jx4a65c_get_915e3_11, E_Jx4a65c_get_915e3_14, E_Jx4a65c_get_915e3_14n, E_J15_checkIndex_7cf53_0, E_J15_checkIndex_7cf53_1, E_J15_checkIndex_7cf53_2, E_J15_checkIndex_7cf53_3, E_J15_checkIndex_7cf53_6, zwith_some, zwith_none, zif_true, zaft_inl, Option.toList_some, Option.toList_none, List.cons_append, List.nil_append, zc1_int, zc1_ref, zc1_null, zc1_float, List.length_nil, List.length_cons, Nat.reduceAdd, Nat.reduceLeDiff, Nat.zero_add, z1and, z0and, zl00, zl01, zl02, zl03, ze00, ze10, ze20, ze30, if_true, if_false, h1, h2, h3, cg_al h hal]
  rw [A_Jx4a65c_elementData_915e3]
  simp only [E_Jx4a65c_elementData_915e3_0, E_Jx4a65c_elementData_915e3_0n, E_Jx4a65c_elementData_915e3_1, E_Jx4a65c_elementData_915e3_4, E_Jx4a65c_elementData_915e3_5, E_Jx4a65c_elementData_915e3_6, E_Jx4a65c_elementData_915e3_6n, E_Jx4a65c_get_915e3_0, E_Jx4a65c_get_915e3_1, E_Jx4a65c_get_915e3_1n, E_Jx4a65c_get_915e3_2, E_Jx4a65c_get_915e3_5, E_Jx4a65c_get_915e3_8, E_Jx4a65c_get_915e3_8n, E_Jx4a65c_get_915e3_8i, E_Jx4a65c_get_915e3_8f, E_Jx4a65c_get_915e3_9, E_Jx4a65c_get_915e3_9n, E_Jx4a65c_get_915e3_10, E_Jx4a65c_get_915e3_11, E_Jx4a65c_get_915e3_14, E_Jx4a65c_get_915e3_14n, zwith_some, zwith_none, zif_true, zaft_inl, Option.toList_some, Option.toList_none, List.cons_append, List.nil_append, zc1_int, zc1_ref, zc1_null, zc1_float, List.length_nil, List.length_cons, Nat.reduceAdd, Nat.reduceLeDiff, Nat.zero_add, z1and, z0and, zl00, zl01, zl02, zl03, ze00, ze10, ze20, ze30, if_true, if_false, cg_al h hal, eld_n hc0, ca_ar (X := X) h har, hz, he, Option.map_some, va_rf]
/-- a list's values with one more -/
def vL (V : CV) (n m q c : Nat) : CV := vI (vE (vC (vI V 0 n (V.i 0 n + 1)) n c) n fun i => if i = m then some q else V.e n i) 1 n (nI (m + 1))
theorem vL_i {c a j : Nat} : (vL V n m q c).i a j = if a = 1 ∧ j = n then nI (m + 1) else if a = 0 ∧ j = n then V.i 0 n + 1 else V.i a j := rfl
theorem vL_i' {c a j : Nat} (h : ¬ ((a = 0 ∨ a = 1) ∧ j = n)) : (vL V n m q c).i a j = V.i a j := by
  rw [vL_i, if_neg (fun z => h ⟨.inr z.1, z.2⟩), if_neg (fun z => h ⟨.inl z.1, z.2⟩)]
theorem vL_r {c : Nat} : (vL V n m q c).r = V.r := rfl
theorem vL_s {c : Nat} : (vL V n m q c).s = V.s := rfl
theorem vL_u {c : Nat} : (vL V n m q c).u = V.u := rfl
theorem vL_e {c k : Nat} : (vL V n m q c).e k = if k = n then (fun i => if i = m then some q else V.e n i) else V.e k := rfl
theorem vL_c {c k : Nat} : (vL V n m q c).c k = if k = n then c else V.c k := rfl
/-- how long the array is when one is added -/
def nwc (c m : Nat) : Nat := if m = c then (if c = 0 then 10 else c + c / 2) else c
theorem lok_add (hl : lok V n m b) (hq : q < b) (hm : m < 600) : lok (vL V n m q (nwc (V.c n) m)) n (m + 1) b := by
  have h1 := hl.le
  have h2 := hl.cp
  have h3 := hl.c0
  have e : (vL V n m q (nwc (V.c n) m)).c n = nwc (V.c n) m := by rw [vL_c, if_pos rfl]
  have hw : m + 1 ≤ nwc (V.c n) m ∧ nwc (V.c n) m ≤ 1000 ∧ (nwc (V.c n) m = 0 ∨ 10 ≤ nwc (V.c n) m) := by
    unfold nwc
    split
    · split <;> omega
    · omega
  refine ⟨?_, ?_, ?_, ?_, ?_⟩
  · rw [vL_i, if_pos ⟨rfl, rfl⟩]
  · rw [e]; exact hw.1
  · rw [e]; exact hw.2.1
  · rw [e]; exact hw.2.2
  · intro i q' hq'
    rw [vL_e, if_pos rfl] at hq'
    by_cases c : i = m
    · rw [if_pos c] at hq'
      cases hq'
      exact ⟨by omega, hq⟩
    · rw [if_neg c] at hq'
      have := hl.el i q' hq'
      exact ⟨by omega, this.2⟩
theorem lok_o {V' : CV} (hl : lok V n m b) {b' : Nat} (hb : b ≤ b') (h1 : V'.i 1 n = V.i 1 n) (h2 : V'.c n = V.c n) (h3 : V'.e n = V.e n) : lok V' n m b' := by
  refine ⟨by rw [h1]; exact hl.sz, by rw [h2]; exact hl.le, by rw [h2]; exact hl.cp, by rw [h2]; exact hl.c0, ?_⟩
  intro i q hq
  rw [h3] at hq
  have := hl.el i q hq
  exact ⟨this.1, by omega⟩
theorem lok_addo (hl : lok V n m b) {n' m' c' : Nat} (h : n ≠ n') : lok (vL V n' m' q c') n m b := lok_o hl (Nat.le_refl _) (vL_i' fun z => h z.2) (by rw [vL_c, if_neg h]) (by rw [vL_e, if_neg h])
theorem pot_vL {c : Nat} (hn : n < 34) (hs : V.i 1 n = nI m) (hm : m < 1000) : pot (vL V n m q c) + 4 * V.c n = pot V + 4 * c + (if n = 3 then 12 else if n = 0 then 33 else if n = 1 then 39 else 0) := by
  have hsm := sm_up (c := V.c) (d := (vL V n m q c).c) (n := n) (fun k hk => by rw [vL_c, if_neg hk]) 34 hn
  rw [show (vL V n m q c).c n = c by rw [vL_c, if_pos rfl]] at hsm
  have hi : ∀ j, (vL V n m q c).i 1 j = if j = n then nI (m + 1) else V.i 1 j := by
    intro j
    by_cases e : j = n
    · rw [vL_i, if_pos ⟨rfl, e⟩, if_pos e]
    · rw [vL_i' (fun z => e z.2), if_neg e]
  have h1 : tN (nI (m + 1)) = m + 1 := tN_nI (by omega)
  have h2 : tN (V.i 1 n) = m := by rw [hs]; exact tN_nI (by omega)
  unfold pot
  rw [hi 3, hi 0, hi 1]
  by_cases e3 : n = 3
  · subst e3
    simp only [if_true, h1, h2]
    rw [if_neg (by omega), if_neg (by omega)]
    omega
  · rw [if_neg (fun z => e3 z.symm), if_neg e3]
    by_cases e0 : n = 0
    · subst e0
      simp only [if_true, h1, h2]
      rw [if_neg (by omega)]
      omega
    · rw [if_neg (fun z => e0 z.symm), if_neg e0]
      by_cases e1 : n = 1
      · subst e1
        simp only [if_true, h1, h2]
        omega
      · rw [if_neg (fun z => e1 z.symm), if_neg e1]
        omega
theorem zob_ek (h : cok st G) (hq : G.live (ek n q)) : zob (cw st G V) (G.A (ek n q)) = true := by
  unfold zob
  rcases n with _ | _ | _ | n
  · rw [show ek 0 q = CK.dr q from rfl, cis_dr h (show G.live (.dr q) from hq)]; rfl
  · rw [show ek (0 + 1) q = CK.jb q from rfl, cis_jb h (show G.live (.jb q) from hq), Bool.true_or, Bool.or_true]
  · rw [show ek (0 + 1 + 1) q = CK.jb q from rfl, cis_jb h (show G.live (.jb q) from hq), Bool.true_or, Bool.or_true]
  · rw [show ek (n + 1 + 1 + 1) q = CK.pc q from rfl, cis_pc h (show G.live (.pc q) from hq), Bool.true_or, Bool.or_true, Bool.or_true, Bool.or_true]
/-- the private add, where there is room -/
theorem C_addp (h : cok st G) (hal : G.live (.al n)) (har : G.live (.ar n)) (hq : G.live (ek n q)) (hm : m < V.c n) (hc : V.c n ≤ 1000) {l2 : Value} : AW X d 118 11 [.ref (G.A (.al n)), .ref (G.A (ek n q)), .ref (G.A (.ar n)), .int (nI m)] [] (cw st G V) P = P (.inl none) (cw st G (vI (vE V n fun i => if i = m then some q else V.e n i) 1 n (nI (m + 1)))) := by
  have hz := zix_nI hm (by omega)
  have hob := zob_ek (V := V) h hq
  have hw := (ca_ar (X := X) h har).2.2.2.1 V m q
  simp only [E_Jx4a65c_add_72be8_0, E_Jx4a65c_add_72be8_1, E_Jx4a65c_add_72be8_1n, E_Jx4a65c_add_72be8_2, E_Jx4a65c_add_72be8_3, E_Jx4a65c_add_72be8_6, E_Jx4a65c_add_72be8_6n, E_Jx4a65c_add_72be8_7, E_Jx4a65c_add_72be8_10, E_Jx4a65c_add_72be8_10n, E_Jx4a65c_add_72be8_11, E_Jx4a65c_add_72be8_11n, E_Jx4a65c_add_72be8_12, E_Jx4a65c_add_72be8_13, E_Jx4a65c_add_72be8_13n, E_Jx4a65c_add_72be8_14, E_Jx4a65c_add_72be8_14n, E_Jx4a65c_add_72be8_15, E_Jx4a65c_add_72be8_15n, E_Jx4a65c_add_72be8_16, E_Jx4a65c_add_72be8_17, E_Jx4a65c_add_72be8_18, E_Jx4a65c_add_72be8_19, E_Jx4a65c_add_72be8_22, zwith_some, zwith_none, zif_true, zaft_inl, Option.toList_some, Option.toList_none, List.cons_append, List.nil_append, zc1_int, zc1_ref, zc1_null, zc1_float, List.length_nil, List.length_cons, Nat.reduceAdd, Nat.reduceLeDiff, Nat.zero_add, z1and, z0and, zl00, zl01, zl02, zl03, ze00, ze10, ze20, ze30, if_true, if_false, cg_al h hal, cp_al h hal, ca_ar (X := X) h har, hz, E_Jx4a65c_add_72be8_14 hob, hw, nI_1]
theorem vC_id : vC V n (V.c n) = V := by
  unfold vC
  refine Prod.ext rfl (Prod.ext rfl (Prod.ext rfl (Prod.ext (funext fun k => ?_) rfl)))
  show (if k = n then V.c n else V.c k) = V.c k
  by_cases c : k = n
  · rw [if_pos c, c]
  · rw [if_neg c]
theorem C_add0 (h : cok st G) (hal : G.live (.al n)) (har : G.live (.ar n)) (hl : lok V n m b) (hq : G.live (ek n q)) (hm : m < V.c n) : AC X (d + 2) 119 [.ref (G.A (.al n)), .ref (G.A (ek n q))] (cw st G V) P = P (.inl (some (.int 1))) (cw st G (vL V n m q (V.c n))) := by
  have hc := hl.cp
  have hc0 : V.c n ≠ 0 := by omega
  have hne : ¬ nI m = nI (V.c n) := fun z => by have := (nI_eq (by omega) (by omega)).mp z; omega
  have hs : (vI V 0 n (V.i 0 n + 1)).i 1 n = nI m := (vI_oo (by omega)).trans hl.sz
  have hp := fun {d} {P} => C_addp (X := X) (d := d) (P := P) (V := vI V 0 n (V.i 0 n + 1)) (l2 := .null) h hal har hq hm hc
  rw [A_Jx4a65c_add_9ea2d rfl]
  simp only [E_Jx4a65c_add_9ea2d_0, E_Jx4a65c_add_9ea2d_0n, E_Jx4a65c_add_9ea2d_1, E_Jx4a65c_add_9ea2d_1n, E_Jx4a65c_add_9ea2d_1i, E_Jx4a65c_add_9ea2d_1f, E_Jx4a65c_add_9ea2d_2, E_Jx4a65c_add_9ea2d_5, E_Jx4a65c_add_9ea2d_6, E_Jx4a65c_add_9ea2d_7, E_Jx4a65c_add_9ea2d_10, E_Jx4a65c_add_9ea2d_10n, E_Jx4a65c_add_9ea2d_11, E_Jx4a65c_add_9ea2d_11n, E_Jx4a65c_add_9ea2d_12, E_Jx4a65c_add_9ea2d_12n, E_Jx4a65c_add_9ea2d_13, E_Jx4a65c_add_9ea2d_16, E_Jx4a65c_add_9ea2d_16n, E_Jx4a65c_add_9ea2d_17, E_Jx4a65c_add_9ea2d_20, E_Jx4a65c_add_9ea2d_23, E_Jx4a65c_add_9ea2d_24, zwith_some, zwith_none, zif_true, zaft_inl, Option.toList_some, Option.toList_none, List.cons_append, List.nil_append, zc1_int, zc1_ref, zc1_null, zc1_float, List.length_nil, List.length_cons, Nat.reduceAdd, Nat.reduceLeDiff, Nat.zero_add, z1and, z0and, zl00, zl01, zl02, zl03, ze00, ze10, ze20, ze30, if_true, if_false, cg_al h hal, cp_al h hal, vI_c, hs, eld_n hc0]
  rw [A_Jx4a65c_add_72be8 rfl rfl]
  simp only [E_Jx4a65c_add_72be8_0, E_Jx4a65c_add_72be8_1, E_Jx4a65c_add_72be8_1n, E_Jx4a65c_add_72be8_2, E_Jx4a65c_add_72be8_3, E_Jx4a65c_add_72be8_6, E_Jx4a65c_add_72be8_6n, E_Jx4a65c_add_72be8_7, E_Jx4a65c_add_72be8_10, E_Jx4a65c_add_72be8_10n, zwith_some, zwith_none, zif_true, zaft_inl, Option.toList_some, Option.toList_none, List.cons_append, List.nil_append, zc1_int, zc1_ref, zc1_null, zc1_float, List.length_nil, List.length_cons, Nat.reduceAdd, Nat.reduceLeDiff, Nat.zero_add, z1and, z0and, zl00, zl01, zl02, zl03, ze00, ze10, ze20, ze30, if_true, if_false, ca_ar (X := X) h har, vI_c, show Int32.ofNat (V.c n) = nI (V.c n) from rfl, hne, not_false_iff, if_true, hp]
  simp only [E_Jx4a65c_add_9ea2d_0, E_Jx4a65c_add_9ea2d_0n, E_Jx4a65c_add_9ea2d_1, E_Jx4a65c_add_9ea2d_1n, E_Jx4a65c_add_9ea2d_1i, E_Jx4a65c_add_9ea2d_1f, E_Jx4a65c_add_9ea2d_2, E_Jx4a65c_add_9ea2d_5, E_Jx4a65c_add_9ea2d_6, E_Jx4a65c_add_9ea2d_7, E_Jx4a65c_add_9ea2d_10, E_Jx4a65c_add_9ea2d_10n, E_Jx4a65c_add_9ea2d_11, E_Jx4a65c_add_9ea2d_11n, E_Jx4a65c_add_9ea2d_12, E_Jx4a65c_add_9ea2d_12n, E_Jx4a65c_add_9ea2d_13, E_Jx4a65c_add_9ea2d_16, E_Jx4a65c_add_9ea2d_16n, E_Jx4a65c_add_9ea2d_17, E_Jx4a65c_add_9ea2d_20, E_Jx4a65c_add_9ea2d_23, E_Jx4a65c_add_9ea2d_24, zwith_some, zwith_none, zif_true, zaft_inl, Option.toList_some, Option.toList_none, List.cons_append, List.nil_append, zc1_int, zc1_ref, zc1_null, zc1_float, List.length_nil, List.length_cons, Nat.reduceAdd, Nat.reduceLeDiff, Nat.zero_add, z1and, z0and, zl00, zl01, zl02, zl03, ze00, ze10, ze20, ze30, if_true, if_false]
  unfold vL
  rw [show vC (vI V 0 n (V.i 0 n + 1)) n (V.c n) = vI V 0 n (V.i 0 n + 1) from vC_id (V := vI V 0 n (V.i 0 n + 1))]
  rfl
end CL
