/-! LISTS: a new array -/
/-- which keys a cell names -/
def cref (V : CV) (k k2 : CK) : Prop := match k with
  | (0, 0) => k2 = .al 0 ∨ k2 = .al 1 ∨ k2 = .al 2 ∨ k2 = .stk
  | (1, 0) => k2 = .al 3
  | (2, n) => V.c n ≠ 0 ∧ k2 = .ar n
  | (3, n) => ∃ j q, V.e n j = some q ∧ k2 = ek n q
  | (4, i) => k2 = .ou (2 * i)
  | (5, n) => k2 = .sk n
  | (7, j) => (∃ i, V.r 0 j = some i ∧ k2 = .dr i) ∨ k2 = .al (j + 4) ∨ k2 = .ou (2 * j + 1)
  | (8, p) => ∃ a q, (a = 1 ∨ a = 2 ∨ a = 3 ∨ a = 4) ∧ V.r a p = some q ∧ k2 = .pc q
  | _ => False
theorem rfv_c {A A' : CK → Nat} {f : Nat → CK} {o : Option Nat} (h : ∀ i, o = some i → A' (f i) = A (f i)) : rfv A' f o = rfv A f o := by
  cases o with
  | none => rfl
  | some i => unfold rfv; dsimp only; rw [h i rfl]
theorem cell_c {A A' : CK → Nat} {V : CV} {k : CK} (h : ∀ k2, cref V k k2 → A' k2 = A k2) : cell A' V k = cell A V k := by
  unfold cref at h
  unfold cell
  split
  · rw [h _ (.inl rfl), h _ (.inr (.inl rfl)), h _ (.inr (.inr (.inl rfl))), h _ (.inr (.inr (.inr rfl)))]
  · rw [h _ rfl]
  · rename_i n
    by_cases c : V.c n = 0
    · rw [c]; rfl
    · rw [h _ ⟨c, rfl⟩]
  · rename_i n
    refine congrArg Sum.inl (Prod.ext rfl (congrArg Sum.inr (congrArg Sum.inr (congrArg Sum.inr (congrArg Sum.inr (funext fun j => ?_))))))
    cases e : V.e n j with
    | none => rfl
    | some q => exact congrArg some (h _ ⟨j, q, e, rfl⟩)
  · rw [h _ rfl]
  · rw [h _ rfl]
  · rfl
  · rename_i j
    rw [rfv_c (f := CK.dr) (o := V.r 0 j) fun i hi => h _ (.inl ⟨i, hi, rfl⟩), h _ (.inr (.inl rfl)), h _ (.inr (.inr rfl))]
  · rename_i p
    rw [rfv_c (f := CK.pc) (o := V.r 1 p) fun i hi => h _ ⟨1, i, .inl rfl, hi, rfl⟩, rfv_c (f := CK.pc) (o := V.r 2 p) fun i hi => h _ ⟨2, i, .inr (.inl rfl), hi, rfl⟩, rfv_c (f := CK.pc) (o := V.r 3 p) fun i hi => h _ ⟨3, i, .inr (.inr (.inl rfl)), hi, rfl⟩, rfv_c (f := CK.pc) (o := V.r 4 p) fun i hi => h _ ⟨4, i, .inr (.inr (.inr rfl)), hi, rfl⟩]
  · rfl
theorem cell_vC {A : CK → Nat} {V : CV} {n c : Nat} {k : CK} (h : k ≠ CK.ar n) (h2 : k ≠ CK.al n) : cell A (vC V n c) k = cell A V k := by
  unfold cell
  split
  · rfl
  · rfl
  · rename_i m
    rw [vC_c, if_neg (fun z => h2 (by rw [z]; rfl))]; rfl
  · rename_i m
    rw [vC_c, if_neg (fun z => h (by rw [z]; rfl))]; rfl
  all_goals rfl
section CL2
variable {X : ZX} {d : Nat} {st : ZS} {G : CG} {V : CV} {P : ZO → ZS → Prop} {x y : Int32} {n m q b : Nat}
/-- the heap when list n has got an array of c cells -/
def grT (st : ZS) (G : CG) (V : CV) (n c : Nat) : ZS := ((cw st G V).1 + c + 1, ((cw st G V).2 ++ [(.inl (c, .inr (.inr (.inr (.inr fun j => (V.e n j).map fun i => G.A (ek n i))))) : ZC)]).set (G.A (.al n)) (.inr (0, [.int (V.i 0 n), .ref st.2.length, .int (V.i 1 n)])))
theorem ek_3 {i : Nat} : (ek n i).1 ≠ 3 := by
  rcases n with _ | _ | _ | n
  · exact show (4 : Nat) ≠ 3 by decide
  · exact show (7 : Nat) ≠ 3 by decide
  · exact show (7 : Nat) ≠ 3 by decide
  · exact show (8 : Nat) ≠ 3 by decide
theorem gr_cw (h : cok st G) (hal : G.live (.al n)) {c : Nat} (hc : c ≠ 0) : cw (grT st G V n c) (gset G (.ar n) st.2.length) (vC V n c) = grT st G V n c ∧ Ext st G (grT st G V n c) (gset G (.ar n) st.2.length) := by
  have hb := h.ka _ _ hal
  have hlen : (grT st G V n c).2.length = st.2.length + 1 := by
    unfold grT
    dsimp only
    rw [List.length_set, List.length_append, cw_len]
    rfl
  have hat : ∀ a, a ≠ G.A (.al n) → a < st.2.length → (grT st G V n c).2[a]? = (cw st G V).2[a]? := by
    intro a h1 h2
    unfold grT
    dsimp only
    rw [List.getElem?_set_ne (fun z => h1 z.symm), List.getElem?_append_left (by rw [cw_len]; exact h2)]
  refine ⟨cw_self ?_, gset_Ext h (Nat.le_refl _) (by omega) (by omega) ?_ (.inl rfl)⟩
  · intro a k hK
    by_cases e : a = st.2.length
    · subst e
      rw [gset_K] at hK
      cases hK
      unfold grT
      dsimp only
      rw [List.getElem?_set_ne (by omega), List.getElem?_append_right (by rw [cw_len]; exact Nat.le_refl _), cw_len, Nat.sub_self]
      show some _ = some _
      refine congrArg some ?_
      rw [cell_ar, vC_c, if_pos rfl, vC_e]
      refine congrArg (fun z => (Sum.inl (c, .inr (.inr (.inr (.inr z)))) : ZC)) (funext fun j => ?_)
      cases V.e n j with
      | none => rfl
      | some q =>
        refine congrArg some ?_
        exact (gset_A' (fun z => ek_3 (n := n) (i := q) (by rw [z]; rfl))).symm
    · rw [gset_K' e] at hK
      by_cases e2 : G.K a = some (CK.ar n)
      · rw [if_pos e2] at hK; cases hK
      · rw [if_neg e2] at hK
        have hka := h.ka a k hK
        have hl : G.live k := by
          show G.K (G.A k) = some k
          rw [hka.1]; exact hK
        have hne : k ≠ CK.ar n := fun z => e2 (by rw [← z]; exact hK)
        by_cases e3 : k = CK.al n
        · subst e3
          unfold grT
          dsimp only
          rw [hka.1, List.getElem?_set_self (by rw [List.length_append, cw_len]; omega)]
          refine congrArg some ?_
          rw [cell_al, vC_c, if_pos rfl, eld_n hc, vC_i, gset_A]
        · rw [hat a (fun z => e3 (by have : G.K (G.A (.al n)) = some (.al n) := hal; rw [← z] at this; exact Option.some.inj (hK.symm.trans this))) hka.2.2]
          have := cw_at (V := V) h hl
          rw [hka.1] at this
          rw [this, cell_vC hne e3]
          refine congrArg some (cell_c fun k2 h2 => gset_A' fun z => ?_).symm
          subst z
          unfold cref at h2
          split at h2
          · rcases h2 with z | z | z | z <;> exact absurd (congrArg Prod.fst z) (show (3 : Nat) ≠ _ by decide)
          · exact absurd (congrArg Prod.fst h2) (show (3 : Nat) ≠ 2 by decide)
          · exact e3 (by rw [show n = _ from congrArg Prod.snd h2.2]; rfl)
          · obtain ⟨j, q, _, z⟩ := h2
            exact ek_3 (by rw [← z]; rfl)
          · exact absurd (congrArg Prod.fst h2) (show (3 : Nat) ≠ 5 by decide)
          · exact absurd (congrArg Prod.fst h2) (show (3 : Nat) ≠ 6 by decide)
          · rcases h2 with ⟨_, _, z⟩ | z | z
            · exact absurd (congrArg Prod.fst z) (show (3 : Nat) ≠ 4 by decide)
            · exact absurd (congrArg Prod.fst z) (show (3 : Nat) ≠ 2 by decide)
            · exact absurd (congrArg Prod.fst z) (show (3 : Nat) ≠ 5 by decide)
          · obtain ⟨_, _, _, _, z⟩ := h2
            exact absurd (congrArg Prod.fst z) (show (3 : Nat) ≠ 8 by decide)
          · exact h2
  · intro a ha hK
    rw [hat a (fun z => by rw [z, show G.K (G.A (.al n)) = some (.al n) from hal] at hK; cases hK) ha]
    exact cw_raw hK
theorem zget_nwa {S : ZS} {a ci f k : Nat} {y : ZA} (ha : a < S.2.length) : zget (znwa S k y) a ci f = zget S a ci f := by
  unfold zget znwa
  dsimp only
  rw [List.getElem?_append_left ha]
theorem ga_put (h : cok st G) (hal : G.live (.al n)) {c : Nat} {y : ZA} : zput (znwa (cw st G V) c y) (G.A (.al n)) 1 (.ref st.2.length) = ((cw st G V).1 + c + 1, ((cw st G V).2 ++ [(.inl (c, y) : ZC)]).set (G.A (.al n)) (.inr (0, [.int (V.i 0 n), .ref st.2.length, .int (V.i 1 n)]))) := by
  have hb := (h.ka _ _ hal).2.2
  rw [zput_eq (show (znwa (cw st G V) c y).2[G.A (.al n)]? = some (.inr (0, [.int (V.i 0 n), .ref (eld (V.c n) (G.A (.ar n))), .int (V.i 1 n)])) from (List.getElem?_append_left (by rw [cw_len]; exact hb)).trans (cw_at h hal))]
  rfl
theorem sta_nwa {S : ZS} {k : Nat} {y z : ZA} {a : Nat} (ha : a = S.2.length) : zsta (znwa S k y) a (k, z) = znwa S k z := by
  subst ha
  unfold zsta znwa
  dsimp only
  rw [List.set_append_right _ _ (Nat.le_refl _), Nat.sub_self]
  rfl
theorem zob_nwa {S : ZS} {a k : Nat} {y : ZA} (ha : a < S.2.length) : zob (znwa S k y) a = zob S a := by
  unfold zob zis
  simp only [zget_nwa ha]
theorem zarr_nwa {S : ZS} {a k : Nat} {y : ZA} (ha : a < S.2.length) : zarr (znwa S k y) a = zarr S a := by
  unfold zarr znwa
  dsimp only
  rw [List.getElem?_append_left ha]
theorem zarr_nwn {S : ZS} {a k : Nat} {y : ZA} (ha : a = S.2.length) : zarr (znwa S k y) a = some (k, y) := by
  subst ha
  unfold zarr znwa
  dsimp only
  rw [List.getElem?_append_right (Nat.le_refl _), Nat.sub_self]
  rfl
theorem E_getClass {l0 l1 : Value} {S : List Value} {a k : Nat} {f : Nat → Option Nat} (ha : zarr st a = some (k, .inr (.inr (.inr (.inr f))))) (hS : S.length ≤ 4) : AW X d 121 3 [l0, l1] (.ref a :: S) st P = AW X d 121 6 [l0, l1] (.ref 2 :: S) st P := by
  have e : zstep X 121 (.invokevirtual 86) 3 [l0, l1] (.ref a :: S) st = (if zoc 121 = 11 ∧ 86 = 86 ∧ S.length ≤ 4 then (match zarr st a with
      | some (_, .inr (.inr (.inr (.inr _)))) => some (3 + 3, [l0, l1], .ref 2 :: S, st)
      | _ => none) else none) := rfl
  refine zAW_st (zd_of zb_J7_copyOf_1904c dJ7_copyOf_1904c_3) rfl ?_
  rw [e, if_pos ⟨zo_J7_copyOf_1904c, rfl, hS⟩, ha]
theorem E_arraycopy {l0 l1 l2 l3 : Value} {a b k n0 n1 : Nat} {f g : Nat → Option Nat} (ha : zarr st a = some (n0, .inr (.inr (.inr (.inr f))))) (hb : zarr st b = some (n1, .inr (.inr (.inr (.inr g))))) (h1 : k ≤ n0) (h2 : k ≤ n1) (hk : k < 2 ^ 31) (hz : zel st f 0 k = true) : AW X d 122 35 [l0, l1, l2, l3] [.int (nI k), .int 0, .ref b, .int 0, .ref a] st P = AW X d 122 38 [l0, l1, l2, l3] [] (zsta st b (n1, .inr (.inr (.inr (.inr (va_cpy f g 0 0 k)))))) P := by
  have ek : (nI k).toNatClampNeg = k := nI_clamp hk
  have e0 : (0 : Int32).toNatClampNeg = 0 := rfl
  have e : zstep X 122 (.invokestatic 150) 35 [l0, l1, l2, l3] [.int (nI k), .int 0, .ref b, .int 0, .ref a] st = zcpyr 35 [l0, l1, l2, l3] [.int (nI k), .int 0, .ref b, .int 0, .ref a] st := by
    unfold zstep
    exact (if_neg (show ¬ (zoc 122 = 2 ∧ 150 = 19) from fun z => absurd z.2 (by decide))).trans (if_pos (show zoc 122 = 11 ∧ 150 = 150 from ⟨zo_J7_copyOf_6403c, rfl⟩))
  refine zAW_st (zd_of zb_J7_copyOf_6403c dJ7_copyOf_6403c_35) rfl (e.trans ?_)
  unfold zcpyr
  dsimp only
  rw [ha, hb]
  dsimp only
  rw [ek, e0, hz, if_neg]
  rintro (z | z | z | z | z | z | z)
  · exact absurd z (by decide)
  · exact absurd z (by decide)
  · exact nI_pos hk z
  · omega
  · omega
  · exact absurd z (by decide)
  · exact absurd z (by decide)
def gwc (c : Nat) : Nat := if c = 0 then 10 else c + c / 2
theorem C_growi (h : cok st G) (hal : G.live (.al n)) (har : V.c n ≠ 0 → G.live (.ar n)) (hl : lok V n m b) (hb : ∀ q, q < b → G.live (ek n q)) (hm : m = V.c n) (hm4 : m < 600) : AC X (d + 3) 113 [.ref (G.A (.al n)), .int (nI (m + 1))] (cw st G V) P = P (.inl (some (.ref st.2.length))) (grT st G V n (gwc (V.c n))) := by
  have hbA := h.ka _ _ hal
  have hA : G.A (.al n) < (cw st G V).2.length := by rw [cw_len]; exact hbA.2.2
  rw [A_Jx4a65c_grow_92f84]
  by_cases c0 : V.c n = 0
  · have hz : zlen X (cw st G V) 0 = some 0 := rfl
    have hpt := ga_put (V := V) h hal (c := 10) (y := .inr (.inr (.inr (.inr fun _ => none))))
    have hgt : grT st G V n 10 = ((cw st G V).1 + 10 + 1, ((cw st G V).2 ++ [(.inl (10, .inr (.inr (.inr (.inr fun _ => none)))) : ZC)]).set (G.A (.al n)) (.inr (0, [.int (V.i 0 n), .ref st.2.length, .int (V.i 1 n)]))) := by
      unfold grT
      have : (fun j => (V.e n j).map fun i => G.A (ek n i)) = fun _ => none := by
        funext j
        cases e : V.e n j with
        | none => rfl
        | some q => exact absurd (hl.el j q e).1 (by omega)
      rw [this]
    have hm1 : (if (10 : Int32) < nI (m + 1) then nI (m + 1) else 10) = 10 := by
      rw [show m + 1 = 1 by omega]; decide
    simp only [E_Jx4a65c_grow_92f84_0, E_Jx4a65c_grow_92f84_0n, E_Jx4a65c_grow_92f84_1, E_Jx4a65c_grow_92f84_4, E_Jx4a65c_grow_92f84_5, E_Jx4a65c_grow_92f84_6, E_Jx4a65c_grow_92f84_7, E_Jx4a65c_grow_92f84_10, E_Jx4a65c_grow_92f84_10n, E_Jx4a65c_grow_92f84_11, E_Jx4a65c_grow_92f84_14, E_Jx4a65c_grow_92f84_17, E_Jx4a65c_grow_92f84_20, E_Jx4a65c_grow_92f84_21, E_Jx4a65c_grow_92f84_22, E_Jx4a65c_grow_92f84_23, E_Jx4a65c_grow_92f84_24, E_Jx4a65c_grow_92f84_25, E_Jx4a65c_grow_92f84_26, E_Jx4a65c_grow_92f84_27, E_Jx4a65c_grow_92f84_30, E_Jx4a65c_grow_92f84_31, E_Jx4a65c_grow_92f84_31n, E_Jx4a65c_grow_92f84_32, E_Jx4a65c_grow_92f84_32n, E_Jx4a65c_grow_92f84_33, E_Jx4a65c_grow_92f84_36, E_Jx4a65c_grow_92f84_37, E_Jx4a65c_grow_92f84_40, E_Jx4a65c_grow_92f84_40i, E_Jx4a65c_grow_92f84_40j, E_Jx4a65c_grow_92f84_41, E_Jx4a65c_grow_92f84_41n, E_Jx4a65c_grow_92f84_44, E_Jx4a65c_grow_92f84_44n, E_Jx4a65c_grow_92f84_45, E_Jx4a65c_grow_92f84_45n, E_Jx4a65c_grow_92f84_46, E_Jx4a65c_grow_92f84_48, E_Jx4a65c_grow_92f84_49, E_Jx4a65c_grow_92f84_52, E_Jx4a65c_grow_92f84_55, E_Jx4a65c_grow_92f84_55i, E_Jx4a65c_grow_92f84_55j, E_Jx4a65c_grow_92f84_56, E_Jx4a65c_grow_92f84_56n, E_Jx4a65c_grow_92f84_59, E_Jx4a65c_grow_92f84_59n, zwith_some, zwith_none, zif_true, zaft_inl, Option.toList_some, Option.toList_none, List.cons_append, List.nil_append, zc1_int, zc1_ref, zc1_null, zc1_float, List.length_nil, List.length_cons, Nat.reduceAdd, Nat.reduceLeDiff, Nat.zero_add, z1and, z0and, zl00, zl01, zl02, zl03, ze00, ze10, ze20, ze30, if_true, if_false, cg_al h hal, c0, eld_0, hz, show ¬ (0 : Int32) < Int32.ofNat 0 from by decide, true_or, hm1, show ¬ ((10 : Int32) < 0 ∨ 1000000 < 10) from by decide, not_false_iff, show (10 : Int32).toNatClampNeg = 10 from by decide, zget_nwa hA, cw_len, hpt]
    unfold gwc
    rw [if_pos rfl, hgt]
  · have hc1 := hl.cp
    have hc2 := hl.c0
    have ha := har c0
    have haA : G.A (.ar n) < (cw st G V).2.length := by rw [cw_len]; exact (h.ka _ _ ha).2.2
    have h0 : 0 < nI (V.c n) := nI_lt (a := 0) (by omega) (by omega)
    have e1 : nI (m + 1) - nI (V.c n) = nI 1 := by rw [pk_sub (by omega), hm, show V.c n + 1 - V.c n = 1 by omega]
    have e2 : nI (V.c n) >>> ((1 : Int32) &&& 31) = nI (V.c n / 2) := by
      rw [show (1 : Int32) &&& 31 = 1 from by decide]
      exact pk_shrN (by omega) 1 1 (by decide)
    have e3 : nI 1 < nI (V.c n / 2) := nI_lt (by omega) (by omega)
    have e4 : ¬ nI (V.c n + V.c n / 2) ≤ 0 := nI_nle (by omega) (by omega)
    have e5 : ¬ (2147483639 : Int32) < nI (V.c n + V.c n / 2) := by
      rw [show (2147483639 : Int32) = nI 2147483639 from rfl]
      exact nI_nlt (by omega) (by omega)
    have e6 : ¬ (nI (V.c n + V.c n / 2) < 0 ∨ 1000000 < V.c n + V.c n / 2) := by
      rintro (z | z)
      · exact nI_pos (by omega) z
      · omega
    have e7 : (nI (V.c n + V.c n / 2)).toNatClampNeg = V.c n + V.c n / 2 := nI_clamp (by omega)
    have e8 : ¬ nI (V.c n + V.c n / 2) < nI (V.c n) := nI_nlt (by omega) (by omega)
    have hzl : ∀ {y : ZA}, zlen X (znwa (cw st G V) (V.c n + V.c n / 2) y) (G.A (.ar n)) = some (V.c n) := by
      intro y
      have h3 := cw_ge h ha
      unfold zlen
      rw [if_neg (by omega), if_neg (by omega), zarr_nwa haA, (ca_ar (X := X) h ha).1]
      rfl
    have hel : zel (znwa (cw st G V) (V.c n + V.c n / 2) (.inr (.inr (.inr (.inr fun _ => none))))) (fun j => (V.e n j).map fun i => G.A (ek n i)) 0 (V.c n) = true := by
      unfold zel
      refine List.all_eq_true.mpr fun i _ => ?_
      dsimp only
      cases e : V.e n (0 + i) with
      | none => rfl
      | some q =>
        have hq := hb q (hl.el _ _ e).2
        show zob _ (G.A (ek n q)) = true
        rw [zob_nwa (by rw [cw_len]; exact (h.ka _ _ hq).2.2)]
        exact zob_ek h hq
    have hcp : va_cpy (fun j => (V.e n j).map fun i => G.A (ek n i)) (fun _ => none) 0 0 (V.c n) = fun j => (V.e n j).map fun i => G.A (ek n i) := by
      funext j
      by_cases c : j < V.c n
      · rw [pk_cpy_in (Nat.zero_le _) (by omega), show 0 + (j - 0) = j by omega]
      · rw [pk_cpy_out (.inr (by omega))]
        cases e : V.e n j with
        | none => rfl
        | some q => exact absurd (hl.el j q e).1 (by omega)
    have hpt := ga_put (V := V) h hal (c := V.c n + V.c n / 2) (y := .inr (.inr (.inr (.inr fun j => (V.e n j).map fun i => G.A (ek n i)))))
    have hac := fun {d} {P} {l0 l1 l2 l3 : Value} => E_arraycopy (X := X) (d := d) (P := P) (l0 := l0) (l1 := l1) (l2 := l2) (l3 := l3) (st := znwa (cw st G V) (V.c n + V.c n / 2) (.inr (.inr (.inr (.inr fun _ => none))))) (a := G.A (.ar n)) (b := st.2.length) (k := V.c n) ((zarr_nwa haA).trans ((ca_ar (X := X) h ha).1 V)) (zarr_nwn cw_len.symm) (Nat.le_refl _) (by omega) (by omega) hel
    have hgc := fun {d} {P} {l0 l1 : Value} {S : List Value} hS => E_getClass (X := X) (d := d) (P := P) (l0 := l0) (l1 := l1) (S := S) ((ca_ar (X := X) h ha).1 V) hS
    rw [hcp] at hac
    simp only [E_Jx4a65c_grow_92f84_0, E_Jx4a65c_grow_92f84_0n, E_Jx4a65c_grow_92f84_1, E_Jx4a65c_grow_92f84_4, E_Jx4a65c_grow_92f84_5, E_Jx4a65c_grow_92f84_6, E_Jx4a65c_grow_92f84_7, E_Jx4a65c_grow_92f84_10, E_Jx4a65c_grow_92f84_10n, E_Jx4a65c_grow_92f84_11, E_Jx4a65c_grow_92f84_14, E_Jx4a65c_grow_92f84_17, E_Jx4a65c_grow_92f84_20, E_Jx4a65c_grow_92f84_21, E_Jx4a65c_grow_92f84_22, E_Jx4a65c_grow_92f84_23, E_Jx4a65c_grow_92f84_24, E_Jx4a65c_grow_92f84_25, E_Jx4a65c_grow_92f84_26, E_Jx4a65c_grow_92f84_27, E_Jx4a65c_grow_92f84_30, E_Jx4a65c_grow_92f84_31, E_Jx4a65c_grow_92f84_31n, E_Jx4a65c_grow_92f84_32, E_Jx4a65c_grow_92f84_32n, E_Jx4a65c_grow_92f84_33, E_Jx4a65c_grow_92f84_36, E_Jx4a65c_grow_92f84_37, E_Jx4a65c_grow_92f84_40, E_Jx4a65c_grow_92f84_40i, E_Jx4a65c_grow_92f84_40j, E_Jx4a65c_grow_92f84_41, E_Jx4a65c_grow_92f84_41n, E_Jx4a65c_grow_92f84_44, E_Jx4a65c_grow_92f84_44n, E_Jx4a65c_grow_92f84_45, E_Jx4a65c_grow_92f84_45n, E_Jx4a65c_grow_92f84_46, E_Jx4a65c_grow_92f84_48, E_Jx4a65c_grow_92f84_49, E_Jx4a65c_grow_92f84_52, E_Jx4a65c_grow_92f84_55, E_Jx4a65c_grow_92f84_55i, E_Jx4a65c_grow_92f84_55j, E_Jx4a65c_grow_92f84_56, E_Jx4a65c_grow_92f84_56n, E_Jx4a65c_grow_92f84_59, E_Jx4a65c_grow_92f84_59n, zwith_some, zwith_none, zif_true, zaft_inl, Option.toList_some, Option.toList_none, List.cons_append, List.nil_append, zc1_int, zc1_ref, zc1_null, zc1_float, List.length_nil, List.length_cons, Nat.reduceAdd, Nat.reduceLeDiff, Nat.zero_add, z1and, z0and, zl00, zl01, zl02, zl03, ze00, ze10, ze20, ze30, if_true, if_false, cg_al h hal, eld_n c0, ca_ar (X := X) h ha, show Int32.ofNat (V.c n) = nI (V.c n) from rfl, h0, e1, e2]
    rw [A_J8_newLength_cabcc]
    simp only [E_J8_newLength_cabcc_0, E_J8_newLength_cabcc_1, E_J8_newLength_cabcc_2, E_J8_newLength_cabcc_3, E_J8_newLength_cabcc_6, E_J8_newLength_cabcc_7, E_J8_newLength_cabcc_8, E_J8_newLength_cabcc_9, E_J8_newLength_cabcc_10, E_J8_newLength_cabcc_13, E_J8_newLength_cabcc_14, E_J8_newLength_cabcc_16, E_J8_newLength_cabcc_19, E_J8_newLength_cabcc_20, E_J8_newLength_cabcc_21, E_J8_newLength_cabcc_22, E_J8_newLength_cabcc_26, E_Jx4a65c_grow_92f84_0, E_Jx4a65c_grow_92f84_0n, E_Jx4a65c_grow_92f84_1, E_Jx4a65c_grow_92f84_4, E_Jx4a65c_grow_92f84_5, E_Jx4a65c_grow_92f84_6, E_Jx4a65c_grow_92f84_7, E_Jx4a65c_grow_92f84_10, E_Jx4a65c_grow_92f84_10n, E_Jx4a65c_grow_92f84_11, E_Jx4a65c_grow_92f84_14, E_Jx4a65c_grow_92f84_17, E_Jx4a65c_grow_92f84_20, E_Jx4a65c_grow_92f84_21, E_Jx4a65c_grow_92f84_22, E_Jx4a65c_grow_92f84_23, E_Jx4a65c_grow_92f84_24, E_Jx4a65c_grow_92f84_25, E_Jx4a65c_grow_92f84_26, E_Jx4a65c_grow_92f84_27, E_Jx4a65c_grow_92f84_30, E_Jx4a65c_grow_92f84_31, E_Jx4a65c_grow_92f84_31n, E_Jx4a65c_grow_92f84_32, E_Jx4a65c_grow_92f84_32n, E_Jx4a65c_grow_92f84_33, E_Jx4a65c_grow_92f84_36, E_Jx4a65c_grow_92f84_37, E_Jx4a65c_grow_92f84_40, E_Jx4a65c_grow_92f84_40i, E_Jx4a65c_grow_92f84_40j, E_Jx4a65c_grow_92f84_41, E_Jx4a65c_grow_92f84_41n, E_Jx4a65c_grow_92f84_44, E_Jx4a65c_grow_92f84_44n, E_Jx4a65c_grow_92f84_45, E_Jx4a65c_grow_92f84_45n, E_Jx4a65c_grow_92f84_46, E_Jx4a65c_grow_92f84_48, E_Jx4a65c_grow_92f84_49, E_Jx4a65c_grow_92f84_52, E_Jx4a65c_grow_92f84_55, E_Jx4a65c_grow_92f84_55i, E_Jx4a65c_grow_92f84_55j, E_Jx4a65c_grow_92f84_56, E_Jx4a65c_grow_92f84_56n, E_Jx4a65c_grow_92f84_59, E_Jx4a65c_grow_92f84_59n, zwith_some, zwith_none, zif_true, zaft_inl, Option.toList_some, Option.toList_none, List.cons_append, List.nil_append, zc1_int, zc1_ref, zc1_null, zc1_float, List.length_nil, List.length_cons, Nat.reduceAdd, Nat.reduceLeDiff, Nat.zero_add, z1and, z0and, zl00, zl01, zl02, zl03, ze00, ze10, ze20, ze30, if_true, if_false, e3, nI_add, e4, e5, cg_al h hal, eld_n c0]
    rw [A_J7_copyOf_1904c rfl]
    simp only [E_J7_copyOf_1904c_0, E_J7_copyOf_1904c_0n, E_J7_copyOf_1904c_1, E_J7_copyOf_1904c_2, E_J7_copyOf_1904c_2n, E_J7_copyOf_1904c_6, E_J7_copyOf_1904c_9, E_J7_copyOf_1904c_9n, zwith_some, zwith_none, zif_true, zaft_inl, Option.toList_some, Option.toList_none, List.cons_append, List.nil_append, zc1_int, zc1_ref, zc1_null, zc1_float, List.length_nil, List.length_cons, Nat.reduceAdd, Nat.reduceLeDiff, Nat.zero_add, z1and, z0and, zl00, zl01, zl02, zl03, ze00, ze10, ze20, ze30, if_true, if_false]
    rw [hgc (S := [_, _]) (show 2 ≤ 4 by decide)]
    simp only [E_J7_copyOf_1904c_0, E_J7_copyOf_1904c_0n, E_J7_copyOf_1904c_1, E_J7_copyOf_1904c_2, E_J7_copyOf_1904c_2n, E_J7_copyOf_1904c_6, E_J7_copyOf_1904c_9, E_J7_copyOf_1904c_9n, zwith_some, zwith_none, zif_true, zaft_inl, Option.toList_some, Option.toList_none, List.cons_append, List.nil_append, zc1_int, zc1_ref, zc1_null, zc1_float, List.length_nil, List.length_cons, Nat.reduceAdd, Nat.reduceLeDiff, Nat.zero_add, z1and, z0and, zl00, zl01, zl02, zl03, ze00, ze10, ze20, ze30, if_true, if_false]
    rw [A_J7_copyOf_6403c rfl rfl]
    simp only [E_J7_copyOf_6403c_0, E_J7_copyOf_6403c_0n, E_J7_copyOf_6403c_1, E_J7_copyOf_6403c_3, E_J7_copyOf_6403c_6, E_J7_copyOf_6403c_7, E_J7_copyOf_6403c_10, E_J7_copyOf_6403c_13, E_J7_copyOf_6403c_13n, E_J7_copyOf_6403c_17, E_J7_copyOf_6403c_24, E_J7_copyOf_6403c_24n, E_J7_copyOf_6403c_25, E_J7_copyOf_6403c_25n, E_J7_copyOf_6403c_26, E_J7_copyOf_6403c_27, E_J7_copyOf_6403c_27n, E_J7_copyOf_6403c_28, E_J7_copyOf_6403c_29, E_J7_copyOf_6403c_29n, E_J7_copyOf_6403c_30, E_J7_copyOf_6403c_31, E_J7_copyOf_6403c_32, E_J7_copyOf_6403c_38, E_J7_copyOf_6403c_38n, E_J7_copyOf_6403c_39, E_J7_copyOf_6403c_39n, zwith_some, zwith_none, zif_true, zaft_inl, Option.toList_some, Option.toList_none, List.cons_append, List.nil_append, zc1_int, zc1_ref, zc1_null, zc1_float, List.length_nil, List.length_cons, Nat.reduceAdd, Nat.reduceLeDiff, Nat.zero_add, z1and, z0and, zl00, zl01, zl02, zl03, ze00, ze10, ze20, ze30, if_true, if_false, true_or, e6, not_false_iff, e7, cw_len, hzl, show Int32.ofNat (V.c n) = nI (V.c n) from rfl, e8, hac, sta_nwa (cw_len (st := st) (G := G) (V := V)).symm, E_J7_copyOf_1904c_0, E_J7_copyOf_1904c_0n, E_J7_copyOf_1904c_1, E_J7_copyOf_1904c_2, E_J7_copyOf_1904c_2n, E_J7_copyOf_1904c_6, E_J7_copyOf_1904c_9, E_J7_copyOf_1904c_9n, E_Jx4a65c_grow_92f84_0, E_Jx4a65c_grow_92f84_0n, E_Jx4a65c_grow_92f84_1, E_Jx4a65c_grow_92f84_4, E_Jx4a65c_grow_92f84_5, E_Jx4a65c_grow_92f84_6, E_Jx4a65c_grow_92f84_7, E_Jx4a65c_grow_92f84_10, E_Jx4a65c_grow_92f84_10n, E_Jx4a65c_grow_92f84_11, E_Jx4a65c_grow_92f84_14, E_Jx4a65c_grow_92f84_17, E_Jx4a65c_grow_92f84_20, E_Jx4a65c_grow_92f84_21, E_Jx4a65c_grow_92f84_22, E_Jx4a65c_grow_92f84_23, E_Jx4a65c_grow_92f84_24, E_Jx4a65c_grow_92f84_25, E_Jx4a65c_grow_92f84_26, E_Jx4a65c_grow_92f84_27, E_Jx4a65c_grow_92f84_30, E_Jx4a65c_grow_92f84_31, E_Jx4a65c_grow_92f84_31n, E_Jx4a65c_grow_92f84_32, E_Jx4a65c_grow_92f84_32n, E_Jx4a65c_grow_92f84_33, E_Jx4a65c_grow_92f84_36, E_Jx4a65c_grow_92f84_37, E_Jx4a65c_grow_92f84_40, E_Jx4a65c_grow_92f84_40i, E_Jx4a65c_grow_92f84_40j, E_Jx4a65c_grow_92f84_41, E_Jx4a65c_grow_92f84_41n, E_Jx4a65c_grow_92f84_44, E_Jx4a65c_grow_92f84_44n, E_Jx4a65c_grow_92f84_45, E_Jx4a65c_grow_92f84_45n, E_Jx4a65c_grow_92f84_46, E_Jx4a65c_grow_92f84_48, E_Jx4a65c_grow_92f84_49, E_Jx4a65c_grow_92f84_52, E_Jx4a65c_grow_92f84_55, E_Jx4a65c_grow_92f84_55i, E_Jx4a65c_grow_92f84_55j, E_Jx4a65c_grow_92f84_56, E_Jx4a65c_grow_92f84_56n, E_Jx4a65c_grow_92f84_59, E_Jx4a65c_grow_92f84_59n, zget_nwa hA, cg_al h hal, hpt]
    unfold gwc
    rw [if_neg c0]
    rfl
theorem C_grow (h : cok st G) (hal : G.live (.al n)) (har : V.c n ≠ 0 → G.live (.ar n)) (hl : lok V n m b) (hb : ∀ q, q < b → G.live (ek n q)) (hm : m = V.c n) (hm4 : m < 600) : AC X (d + 4) 114 [.ref (G.A (.al n))] (cw st G V) P = P (.inl (some (.ref st.2.length))) (grT st G V n (gwc (V.c n))) := by
  have hg := fun {d} {P} => C_growi (X := X) (d := d) (P := P) h hal har hl hb hm hm4
  rw [A_Jx4a65c_grow_d5877]
  simp only [E_Jx4a65c_grow_d5877_0, E_Jx4a65c_grow_d5877_0n, E_Jx4a65c_grow_d5877_1, E_Jx4a65c_grow_d5877_1n, E_Jx4a65c_grow_d5877_2, E_Jx4a65c_grow_d5877_5, E_Jx4a65c_grow_d5877_6, E_Jx4a65c_grow_d5877_7, E_Jx4a65c_grow_d5877_10, E_Jx4a65c_grow_d5877_10n, zwith_some, zwith_none, zif_true, zaft_inl, Option.toList_some, Option.toList_none, List.cons_append, List.nil_append, zc1_int, zc1_ref, zc1_null, zc1_float, List.length_nil, List.length_cons, Nat.reduceAdd, Nat.reduceLeDiff, Nat.zero_add, z1and, z0and, zl00, zl01, zl02, zl03, ze00, ze10, ze20, ze30, if_true, if_false, cg_al h hal, hl.sz, nI_1, hg]
/-- one is added to a list, with a new array or not -/
theorem C_add (h : cok st G) (hal : G.live (.al n)) (har : V.c n ≠ 0 → G.live (.ar n)) (hl : lok V n m b) (hb : ∀ q, q < b → G.live (ek n q)) (hq : q < b) (hm : m < 600) (K : ∀ st' G', Ext st G st' G' → (∀ k, G'.live k ↔ G.live k ∨ k = .ar n) → st'.1 + 4 * V.c n ≤ st.1 + 4 * nwc (V.c n) m → P (.inl (some (.int 1))) (cw st' G' (vL V n m q (nwc (V.c n) m)))) : AC X (d + 6) 119 [.ref (G.A (.al n)), .ref (G.A (ek n q))] (cw st G V) P := by
  have hle := hl.le
  have hcp := hl.cp
  by_cases e : m = V.c n
  · have hl1 : lok (vI V 0 n (V.i 0 n + 1)) n m b := lok_o hl (Nat.le_refl _) (vI_oo (by omega)) rfl rfl
    have hg := fun {d} {P} => C_grow (X := X) (d := d) (P := P) (V := vI V 0 n (V.i 0 n + 1)) h hal har hl1 hb e hm
    have hw : gwc (V.c n) = nwc (V.c n) m := by unfold gwc nwc; rw [if_pos e]
    have hw2 : m < gwc (V.c n) ∧ gwc (V.c n) ≤ 1000 ∧ gwc (V.c n) ≠ 0 ∧ gwc (V.c n) + 1 + 4 * V.c n ≤ 4 * gwc (V.c n) := by
      have := hl.c0
      unfold gwc
      split <;> omega
    obtain ⟨q1, q2⟩ := gr_cw (V := vI V 0 n (V.i 0 n + 1)) h hal hw2.2.2.1
    have hS : AC X (d + 6) 119 [.ref (G.A (.al n)), .ref (G.A (ek n q))] (cw st G V) P = AW X (d + 4) 118 11 [.ref (G.A (.al n)), .ref (G.A (ek n q)), .ref st.2.length, .int (nI m)] [] (grT st G (vI V 0 n (V.i 0 n + 1)) n (gwc (V.c n))) (zaft X (d + 5) 119 20 [.ref (G.A (.al n)), .ref (G.A (ek n q))] [] P) := by
      have hs : (vI V 0 n (V.i 0 n + 1)).i 1 n = nI m := (vI_oo (by omega)).trans hl.sz
      rw [A_Jx4a65c_add_9ea2d rfl]
      simp only [E_Jx4a65c_add_9ea2d_0, E_Jx4a65c_add_9ea2d_0n, E_Jx4a65c_add_9ea2d_1, E_Jx4a65c_add_9ea2d_1n, E_Jx4a65c_add_9ea2d_1i, E_Jx4a65c_add_9ea2d_1f, E_Jx4a65c_add_9ea2d_2, E_Jx4a65c_add_9ea2d_5, E_Jx4a65c_add_9ea2d_6, E_Jx4a65c_add_9ea2d_7, E_Jx4a65c_add_9ea2d_10, E_Jx4a65c_add_9ea2d_10n, E_Jx4a65c_add_9ea2d_11, E_Jx4a65c_add_9ea2d_11n, E_Jx4a65c_add_9ea2d_12, E_Jx4a65c_add_9ea2d_12n, E_Jx4a65c_add_9ea2d_13, E_Jx4a65c_add_9ea2d_16, E_Jx4a65c_add_9ea2d_16n, E_Jx4a65c_add_9ea2d_17, E_Jx4a65c_add_9ea2d_20, E_Jx4a65c_add_9ea2d_23, E_Jx4a65c_add_9ea2d_24, zwith_some, zwith_none, zif_true, zaft_inl, Option.toList_some, Option.toList_none, List.cons_append, List.nil_append, zc1_int, zc1_ref, zc1_null, zc1_float, List.length_nil, List.length_cons, Nat.reduceAdd, Nat.reduceLeDiff, Nat.zero_add, z1and, z0and, zl00, zl01, zl02, zl03, ze00, ze10, ze20, ze30, if_true, if_false, cg_al h hal, cp_al h hal, vI_c, hs]
      have hzl : zlen X (cw st G (vI V 0 n (V.i 0 n + 1))) (eld (V.c n) (G.A (.ar n))) = some (V.c n) := by
        by_cases c0 : V.c n = 0
        · rw [c0]; rfl
        · rw [eld_n c0]
          exact (ca_ar (X := X) h (har c0)).2.2.1 _
      rw [A_Jx4a65c_add_72be8 rfl rfl]
      simp only [E_Jx4a65c_add_72be8_0, E_Jx4a65c_add_72be8_1, E_Jx4a65c_add_72be8_1n, E_Jx4a65c_add_72be8_2, E_Jx4a65c_add_72be8_3, E_Jx4a65c_add_72be8_6, E_Jx4a65c_add_72be8_6n, E_Jx4a65c_add_72be8_7, E_Jx4a65c_add_72be8_10, E_Jx4a65c_add_72be8_10n, zwith_some, zwith_none, zif_true, zaft_inl, Option.toList_some, Option.toList_none, List.cons_append, List.nil_append, zc1_int, zc1_ref, zc1_null, zc1_float, List.length_nil, List.length_cons, Nat.reduceAdd, Nat.reduceLeDiff, Nat.zero_add, z1and, z0and, zl00, zl01, zl02, zl03, ze00, ze10, ze20, ze30, if_true, if_false, cg_al h hal, hzl, show Int32.ofNat (V.c n) = nI m from by rw [e]; rfl, not_true, if_false, hg, vI_c]
    rw [hS, ← q1]
    have hne : ∀ k, k.1 ≠ 3 → k ≠ CK.ar n := fun k hk z => hk (by rw [z]; rfl)
    have eA : ∀ k, k.1 ≠ 3 → (gset G (.ar n) st.2.length).A k = G.A k := fun k hk => gset_A' (hne k hk)
    have eal := eA (.al n) (by show (2 : Nat) ≠ 3; decide)
    have eek := eA (ek n q) ek_3
    have hp := C_addp (X := X) (d := d + 4) (P := zaft X (d + 5) 119 20 [.ref (G.A (.al n)), .ref (G.A (ek n q))] [] P) (V := vC (vI V 0 n (V.i 0 n + 1)) n (gwc (V.c n))) (m := m) (q := q) (l2 := .null) q2.ok (q2.lv _ hal) gset_l (q2.lv _ (hb q hq)) (by rw [vC_c, if_pos rfl]; exact hw2.1) (by rw [vC_c, if_pos rfl]; exact hw2.2.1)
    rw [eal, eek, gset_A] at hp
    rw [hp]
    simp only [E_Jx4a65c_add_9ea2d_0, E_Jx4a65c_add_9ea2d_0n, E_Jx4a65c_add_9ea2d_1, E_Jx4a65c_add_9ea2d_1n, E_Jx4a65c_add_9ea2d_1i, E_Jx4a65c_add_9ea2d_1f, E_Jx4a65c_add_9ea2d_2, E_Jx4a65c_add_9ea2d_5, E_Jx4a65c_add_9ea2d_6, E_Jx4a65c_add_9ea2d_7, E_Jx4a65c_add_9ea2d_10, E_Jx4a65c_add_9ea2d_10n, E_Jx4a65c_add_9ea2d_11, E_Jx4a65c_add_9ea2d_11n, E_Jx4a65c_add_9ea2d_12, E_Jx4a65c_add_9ea2d_12n, E_Jx4a65c_add_9ea2d_13, E_Jx4a65c_add_9ea2d_16, E_Jx4a65c_add_9ea2d_16n, E_Jx4a65c_add_9ea2d_17, E_Jx4a65c_add_9ea2d_20, E_Jx4a65c_add_9ea2d_23, E_Jx4a65c_add_9ea2d_24, zwith_some, zwith_none, zif_true, zaft_inl, Option.toList_some, Option.toList_none, List.cons_append, List.nil_append, zc1_int, zc1_ref, zc1_null, zc1_float, List.length_nil, List.length_cons, Nat.reduceAdd, Nat.reduceLeDiff, Nat.zero_add, z1and, z0and, zl00, zl01, zl02, zl03, ze00, ze10, ze20, ze30, if_true, if_false]
    have hK := K _ _ q2 (by
      intro k
      refine ⟨fun hk => ?_, fun hk => ?_⟩
      · by_cases c : k = CK.ar n
        · exact .inr c
        · refine .inl ?_
          have hk' : (gset G (.ar n) st.2.length).K ((gset G (.ar n) st.2.length).A k) = some k := hk
          rw [gset_A' c] at hk'
          by_cases c2 : G.A k = st.2.length
          · rw [c2, gset_K] at hk'
            exact absurd (Option.some.inj hk').symm c
          · rw [gset_K' c2] at hk'
            by_cases c3 : G.K (G.A k) = some (CK.ar n)
            · rw [if_pos c3] at hk'; cases hk'
            · rw [if_neg c3] at hk'; exact hk'
      · rcases hk with hk | hk
        · exact q2.lv k hk
        · subst hk; exact gset_l) (by
      rw [← hw]
      show st.1 + gwc (V.c n) + 1 + 4 * V.c n ≤ _
      omega)
    rw [← hw] at hK
    exact hK
  · have c0 : V.c n ≠ 0 := by omega
    have hw : nwc (V.c n) m = V.c n := if_neg e
    rw [hw] at K
    rw [C_add0 (d := d + 4) h hal (har c0) hl (hb q hq) (by omega)]
    exact K st G (Ext.refl h) (fun k => ⟨.inl, fun z => by
      rcases z with z | z
      · exact z
      · subst z; exact har c0⟩) (Nat.le_refl _)
theorem vE_vE {f f' : Nat → Option Nat} : vE (vE V n f) n f' = vE V n f' := by
  unfold vE
  refine Prod.ext rfl (Prod.ext rfl (Prod.ext (funext fun k => ?_) rfl))
  show (if k = n then f' else if k = n then f else V.e k) = if k = n then f' else V.e k
  by_cases c : k = n
  · rw [if_pos c, if_pos c]
  · rw [if_neg c, if_neg c, if_neg c]
/-- a list is made empty -/
theorem C_clear_l (h : cok st G) (hal : G.live (.al n)) (har : m ≠ 0 → G.live (.ar n)) (hm : m ≤ V.c n) (hc : V.c n ≤ 1000) {r : Nat} (hr : m ≠ 0 → r = G.A (.ar n)) : ∀ (k j : Nat), j + k = m → AW X d 120 27 [.ref (G.A (.al n)), .ref r, .int (nI m), .int (nI j)] [] (cw st G (vE V n fun i => if i < j then none else V.e n i)) P = P (.inl none) (cw st G (vE V n fun i => if i < m then none else V.e n i)) := by
  intro k
  induction k with
  | zero =>
    intro j hj
    have e : j = m := by omega
    subst e
    have hle : nI j ≤ nI j := nI_le (Nat.le_refl _) (by omega)
    rw [E_Jx4a65c_clear_da8c8_27]
    simp only [E_Jx4a65c_clear_da8c8_0, E_Jx4a65c_clear_da8c8_0n, E_Jx4a65c_clear_da8c8_1, E_Jx4a65c_clear_da8c8_1n, E_Jx4a65c_clear_da8c8_1i, E_Jx4a65c_clear_da8c8_1f, E_Jx4a65c_clear_da8c8_2, E_Jx4a65c_clear_da8c8_5, E_Jx4a65c_clear_da8c8_6, E_Jx4a65c_clear_da8c8_7, E_Jx4a65c_clear_da8c8_10, E_Jx4a65c_clear_da8c8_10n, E_Jx4a65c_clear_da8c8_11, E_Jx4a65c_clear_da8c8_14, E_Jx4a65c_clear_da8c8_14n, E_Jx4a65c_clear_da8c8_15, E_Jx4a65c_clear_da8c8_15n, E_Jx4a65c_clear_da8c8_16, E_Jx4a65c_clear_da8c8_19, E_Jx4a65c_clear_da8c8_20, E_Jx4a65c_clear_da8c8_20n, E_Jx4a65c_clear_da8c8_21, E_Jx4a65c_clear_da8c8_22, E_Jx4a65c_clear_da8c8_22i, E_Jx4a65c_clear_da8c8_22j, E_Jx4a65c_clear_da8c8_23, E_Jx4a65c_clear_da8c8_26, E_Jx4a65c_clear_da8c8_28, E_Jx4a65c_clear_da8c8_29, E_Jx4a65c_clear_da8c8_32, E_Jx4a65c_clear_da8c8_32n, E_Jx4a65c_clear_da8c8_33, E_Jx4a65c_clear_da8c8_34, E_Jx4a65c_clear_da8c8_35, E_Jx4a65c_clear_da8c8_35n, E_Jx4a65c_clear_da8c8_36, E_Jx4a65c_clear_da8c8_39, E_Jx4a65c_clear_da8c8_42, zwith_some, zwith_none, zif_true, zaft_inl, Option.toList_some, Option.toList_none, List.cons_append, List.nil_append, zc1_int, zc1_ref, zc1_null, zc1_float, List.length_nil, List.length_cons, Nat.reduceAdd, Nat.reduceLeDiff, Nat.zero_add, z1and, z0and, zl00, zl01, zl02, zl03, ze00, ze10, ze20, ze30, if_true, if_false, hle]
  | succ k ih =>
    intro j hj
    have ih := ih (j + 1) (by omega)
    have ha := har (by omega)
    have e := hr (by omega)
    subst e
    have hlt : ¬ nI m ≤ nI j := nI_ge (by omega) (by omega)
    have hz := zix_nI (show j < V.c n by omega) (by omega)
    have hw := (ca_ar (X := X) h ha).2.2.2.2 (vE V n fun i => if i < j then none else V.e n i) j
    rw [vE_c] at hw
    rw [E_Jx4a65c_clear_da8c8_27]
    simp only [E_Jx4a65c_clear_da8c8_0, E_Jx4a65c_clear_da8c8_0n, E_Jx4a65c_clear_da8c8_1, E_Jx4a65c_clear_da8c8_1n, E_Jx4a65c_clear_da8c8_1i, E_Jx4a65c_clear_da8c8_1f, E_Jx4a65c_clear_da8c8_2, E_Jx4a65c_clear_da8c8_5, E_Jx4a65c_clear_da8c8_6, E_Jx4a65c_clear_da8c8_7, E_Jx4a65c_clear_da8c8_10, E_Jx4a65c_clear_da8c8_10n, E_Jx4a65c_clear_da8c8_11, E_Jx4a65c_clear_da8c8_14, E_Jx4a65c_clear_da8c8_14n, E_Jx4a65c_clear_da8c8_15, E_Jx4a65c_clear_da8c8_15n, E_Jx4a65c_clear_da8c8_16, E_Jx4a65c_clear_da8c8_19, E_Jx4a65c_clear_da8c8_20, E_Jx4a65c_clear_da8c8_20n, E_Jx4a65c_clear_da8c8_21, E_Jx4a65c_clear_da8c8_22, E_Jx4a65c_clear_da8c8_22i, E_Jx4a65c_clear_da8c8_22j, E_Jx4a65c_clear_da8c8_23, E_Jx4a65c_clear_da8c8_26, E_Jx4a65c_clear_da8c8_28, E_Jx4a65c_clear_da8c8_29, E_Jx4a65c_clear_da8c8_32, E_Jx4a65c_clear_da8c8_32n, E_Jx4a65c_clear_da8c8_33, E_Jx4a65c_clear_da8c8_34, E_Jx4a65c_clear_da8c8_35, E_Jx4a65c_clear_da8c8_35n, E_Jx4a65c_clear_da8c8_36, E_Jx4a65c_clear_da8c8_39, E_Jx4a65c_clear_da8c8_42, zwith_some, zwith_none, zif_true, zaft_inl, Option.toList_some, Option.toList_none, List.cons_append, List.nil_append, zc1_int, zc1_ref, zc1_null, zc1_float, List.length_nil, List.length_cons, Nat.reduceAdd, Nat.reduceLeDiff, Nat.zero_add, z1and, z0and, zl00, zl01, zl02, zl03, ze00, ze10, ze20, ze30, if_true, if_false, hlt, ca_ar (X := X) h ha, vE_c, hz, hw, nI_1]
    have e2 : (vE (vE V n fun i => if i < j then none else V.e n i) n fun i => if i = j then none else (vE V n fun i => if i < j then none else V.e n i).e n i) = vE V n fun i => if i < j + 1 then none else V.e n i := by
      rw [vE_vE]
      refine congrArg (vE V n) (funext fun i => ?_)
      rw [vE_e, if_pos rfl]
      by_cases c1 : i = j
      · rw [if_pos c1, if_pos (by omega)]
      · rw [if_neg c1]
        by_cases c2 : i < j
        · rw [if_pos c2, if_pos (by omega)]
        · rw [if_neg c2, if_neg (by omega)]
    rw [e2]
    exact ih
/-- the values of an empty list -/
def vZ (V : CV) (n : Nat) : CV := vE (vI (vI V 0 n (V.i 0 n + 1)) 1 n 0) n fun _ => none
theorem C_clear (h : cok st G) (hal : G.live (.al n)) (har : V.c n ≠ 0 → G.live (.ar n)) (hl : lok V n m b) : AC X (d + 1) 120 [.ref (G.A (.al n))] (cw st G V) P = P (.inl none) (cw st G (vZ V n)) := by
  have hle := hl.le
  have hcp := hl.cp
  have hs : (vI V 0 n (V.i 0 n + 1)).i 1 n = nI m := (vI_oo (by omega)).trans hl.sz
  have hL := C_clear_l (X := X) (d := d) (P := P) (V := vI (vI V 0 n (V.i 0 n + 1)) 1 n 0) (m := m) (r := eld (V.c n) (G.A (.ar n))) h hal (fun z => har (by omega)) hle hcp (fun z => eld_n (by omega)) m 0 (by omega)
  have e0 : (vE (vI (vI V 0 n (V.i 0 n + 1)) 1 n 0) n fun i => if i < 0 then none else (vI (vI V 0 n (V.i 0 n + 1)) 1 n 0).e n i) = vI (vI V 0 n (V.i 0 n + 1)) 1 n 0 := by
    unfold vE
    refine Prod.ext rfl (Prod.ext rfl (Prod.ext (funext fun k => ?_) rfl))
    show (if k = n then (fun i => if i < 0 then none else V.e n i) else V.e k) = V.e k
    by_cases c : k = n
    · rw [if_pos c, c]
      funext i
      exact if_neg (Nat.not_lt_zero i)
    · rw [if_neg c]
  have e1 : (vE (vI (vI V 0 n (V.i 0 n + 1)) 1 n 0) n fun i => if i < m then none else (vI (vI V 0 n (V.i 0 n + 1)) 1 n 0).e n i) = vZ V n := by
    unfold vZ
    refine congrArg (vE _ n) (funext fun i => ?_)
    by_cases c : i < m
    · rw [if_pos c]
    · rw [if_neg c]
      show V.e n i = none
      cases e : V.e n i with
      | none => rfl
      | some q => exact absurd (hl.el i q e).1 c
  rw [e0, e1] at hL
  rw [A_Jx4a65c_clear_da8c8]
  simp only [E_Jx4a65c_clear_da8c8_0, E_Jx4a65c_clear_da8c8_0n, E_Jx4a65c_clear_da8c8_1, E_Jx4a65c_clear_da8c8_1n, E_Jx4a65c_clear_da8c8_1i, E_Jx4a65c_clear_da8c8_1f, E_Jx4a65c_clear_da8c8_2, E_Jx4a65c_clear_da8c8_5, E_Jx4a65c_clear_da8c8_6, E_Jx4a65c_clear_da8c8_7, E_Jx4a65c_clear_da8c8_10, E_Jx4a65c_clear_da8c8_10n, E_Jx4a65c_clear_da8c8_11, E_Jx4a65c_clear_da8c8_14, E_Jx4a65c_clear_da8c8_14n, E_Jx4a65c_clear_da8c8_15, E_Jx4a65c_clear_da8c8_15n, E_Jx4a65c_clear_da8c8_16, E_Jx4a65c_clear_da8c8_19, E_Jx4a65c_clear_da8c8_20, E_Jx4a65c_clear_da8c8_20n, E_Jx4a65c_clear_da8c8_21, E_Jx4a65c_clear_da8c8_22, E_Jx4a65c_clear_da8c8_22i, E_Jx4a65c_clear_da8c8_22j, E_Jx4a65c_clear_da8c8_23, E_Jx4a65c_clear_da8c8_26, E_Jx4a65c_clear_da8c8_28, E_Jx4a65c_clear_da8c8_29, E_Jx4a65c_clear_da8c8_32, E_Jx4a65c_clear_da8c8_32n, E_Jx4a65c_clear_da8c8_33, E_Jx4a65c_clear_da8c8_34, E_Jx4a65c_clear_da8c8_35, E_Jx4a65c_clear_da8c8_35n, E_Jx4a65c_clear_da8c8_36, E_Jx4a65c_clear_da8c8_39, E_Jx4a65c_clear_da8c8_42, zwith_some, zwith_none, zif_true, zaft_inl, Option.toList_some, Option.toList_none, List.cons_append, List.nil_append, zc1_int, zc1_ref, zc1_null, zc1_float, List.length_nil, List.length_cons, Nat.reduceAdd, Nat.reduceLeDiff, Nat.zero_add, z1and, z0and, zl00, zl01, zl02, zl03, ze00, ze10, ze20, ze30, if_true, if_false, cg_al h hal, cp_al h hal, vI_c, hs]
  exact hL
theorem lok_Z (hl : lok V n m b) : lok (vZ V n) n 0 b := ⟨(if_pos ⟨rfl, rfl⟩), Nat.zero_le _, hl.cp, hl.c0, fun i q hq => by
  have : (vZ V n).e n i = none := by
    show (if n = n then _ else _ : Nat → Option Nat) i = none
    rw [if_pos rfl]
  rw [this] at hq
  cases hq⟩
end CL2
