/-! THE CLASS'S OBJECTS: kinds, their places (a map and its inverse), their cells; reads and writes as equations -/
abbrev CK : Type := Nat × Nat
def CK.kx : CK := (0, 0)
def CK.stk : CK := (1, 0)
def CK.al (n : Nat) : CK := (2, n)
def CK.ar (n : Nat) : CK := (3, n)
def CK.dr (n : Nat) : CK := (4, n)
def CK.ou (n : Nat) : CK := (5, n)
def CK.sk (n : Nat) : CK := (6, n)
def CK.jb (n : Nat) : CK := (7, n)
def CK.pc (n : Nat) : CK := (8, n)
-- al: 0 drawings, 1 jobs, 2 cutJobs, 3 pieces, j+4 laid of job j; ar: its array; ou, sk: outline and its strokes, of drawing i: 2i, of job j: 2j+1
/-- values. i: whole numbers by code and index: 0 modCount, 1 size of list; 2 state, 3 version of drawing; 4 copies, 5 state, 6 version of job; 7 size of outline; 8-13 sheet left top wide high state of piece; 14: 0 pieceCount, 1 sheetCount, 2 minutes. r: 0 design of job; 1-4 whole part right below of piece. e: elements of list; c: its capacity; s: strokes; u: length -/
abbrev CV : Type := (Nat → Nat → Int32) × (Nat → Nat → Option Nat) × (Nat → Nat → Option Nat) × (Nat → Nat) × (Nat → Nat → Int32) × UInt32
def CV.i (V : CV) : Nat → Nat → Int32 := V.1
def CV.r (V : CV) : Nat → Nat → Option Nat := V.2.1
def CV.e (V : CV) : Nat → Nat → Option Nat := V.2.2.1
def CV.c (V : CV) : Nat → Nat := V.2.2.2.1
def CV.s (V : CV) : Nat → Nat → Int32 := V.2.2.2.2.1
def CV.u (V : CV) : UInt32 := V.2.2.2.2.2
abbrev CG : Type := (CK → Nat) × (Nat → Option CK)
def CG.A (G : CG) : CK → Nat := G.1
def CG.K (G : CG) : Nat → Option CK := G.2
def rfv (A : CK → Nat) (f : Nat → CK) : Option Nat → Value
  | none => .null
  | some i => .ref (A (f i))
/-- what a list holds -/
def ek : Nat → Nat → CK
  | 0, i => .dr i
  | 1, i => .jb i
  | 2, i => .jb i
  | _ + 3, i => .pc i
def eld (c x : Nat) : Nat := if c = 0 then 0 else x
def cell (A : CK → Nat) (V : CV) (k : CK) : ZC := match k with
  | (0, 0) => .inr (6, [.ref (A (.al 0)), .ref (A (.al 1)), .ref (A (.al 2)), .ref (A .stk), .int (V.i 14 2), .float V.u])
  | (1, 0) => .inr (5, [.ref (A (.al 3)), .int (V.i 14 0), .int (V.i 14 1)])
  | (2, n) => .inr (0, [.int (V.i 0 n), .ref (eld (V.c n) (A (.ar n))), .int (V.i 1 n)])
  | (3, n) => .inl (V.c n, .inr (.inr (.inr (.inr fun j => (V.e n j).map fun i => A (ek n i)))))
  | (4, i) => .inr (1, [.int (nI i), .ref (A (.ou (2 * i))), .int (V.i 2 i), .int (V.i 3 i)])
  | (5, n) => .inr (3, [.ref (A (.sk n)), .int (V.i 7 n)])
  | (6, n) => .inl (24, .inl (V.s n))
  | (7, j) => .inr (2, [rfv A .dr (V.r 0 j), .int (V.i 4 j), .int (V.i 5 j), .int (V.i 6 j), .ref (A (.al (j + 4))), .ref (A (.ou (2 * j + 1)))])
  | (8, p) => .inr (4, [.int (nI p), .int (V.i 8 p), .int (V.i 9 p), .int (V.i 10 p), .int (V.i 11 p), .int (V.i 12 p), .int (V.i 13 p), rfv A .pc (V.r 1 p), rfv A .pc (V.r 2 p), rfv A .pc (V.r 3 p), rfv A .pc (V.r 4 p)])
  | _ => .inl (0, .inl fun _ => 0)
def cw (st : ZS) (G : CG) (V : CV) : ZS := (st.1, st.2.mapIdx fun a c => match G.K a with
  | some k => cell G.A V k
  | none => c)
def CG.live (G : CG) (k : CK) : Prop := G.K (G.A k) = some k
abbrev cok (st : ZS) (G : CG) : Prop := ∀ a k, G.K a = some k → G.A k = a ∧ 3 ≤ a ∧ a < st.2.length
theorem cok.ka {st : ZS} {G : CG} (h : cok st G) : ∀ a k, G.K a = some k → G.A k = a ∧ 3 ≤ a ∧ a < st.2.length := h
def vI (V : CV) (c j : Nat) (x : Int32) : CV := (fun c' j' => if c' = c ∧ j' = j then x else V.i c' j', V.2)
def vR (V : CV) (c j : Nat) (x : Option Nat) : CV := (V.i, fun c' j' => if c' = c ∧ j' = j then x else V.r c' j', V.2.2)
def vE (V : CV) (n : Nat) (f : Nat → Option Nat) : CV := (V.i, V.r, fun n' => if n' = n then f else V.e n', V.2.2.2)
def vC (V : CV) (n c : Nat) : CV := (V.i, V.r, V.e, fun n' => if n' = n then c else V.c n', V.2.2.2.2)
def vS (V : CV) (n : Nat) (f : Nat → Int32) : CV := (V.i, V.r, V.e, V.c, fun n' => if n' = n then f else V.s n', V.2.2.2.2.2)
def vU (V : CV) (x : UInt32) : CV := (V.i, V.r, V.e, V.c, V.s, x)
def own (c j : Nat) : CK := match c with
  | 0 => .al j
  | 1 => .al j
  | 2 => .dr j
  | 3 => .dr j
  | 4 => .jb j
  | 5 => .jb j
  | 6 => .jb j
  | 7 => .ou j
  | 8 => .pc j
  | 9 => .pc j
  | 10 => .pc j
  | 11 => .pc j
  | 12 => .pc j
  | 13 => .pc j
  | 14 => (match j with
    | 2 => .kx
    | _ => .stk)
  | _ => .kx
def ownR (c j : Nat) : CK := match c with
  | 0 => .jb j
  | _ => .pc j
theorem cw_len {st : ZS} {G : CG} {V : CV} : (cw st G V).2.length = st.2.length := List.length_mapIdx
theorem cw_at {st : ZS} {G : CG} {V : CV} {k : CK} (h : cok st G) (hl : G.live k) : (cw st G V).2[G.A k]? = some (cell G.A V k) := by
  have hb := (h.ka _ _ hl).2.2
  unfold cw
  rw [List.getElem?_mapIdx, List.getElem?_eq_getElem hb]
  show some (match G.K (G.A k) with
    | some k => cell G.A V k
    | none => st.2[G.A k]) = _
  rw [show G.K (G.A k) = some k from hl]
theorem cw_raw {st : ZS} {G : CG} {V : CV} {a : Nat} (hK : G.K a = none) : (cw st G V).2[a]? = st.2[a]? := by
  unfold cw
  rw [List.getElem?_mapIdx]
  rw [hK]
  cases st.2[a]? <;> rfl
theorem cw_set {st : ZS} {G : CG} {V V' : CV} {k : CK} {c : ZC} (h : cok st G) (hl : G.live k) (hc : cell G.A V' k = c) (ho : ∀ k', k' ≠ k → cell G.A V' k' = cell G.A V k') : ((cw st G V).1, (cw st G V).2.set (G.A k) c) = cw st G V' := by
  refine Prod.ext rfl (List.ext_getElem? fun a => ?_)
  by_cases e : G.A k = a
  · subst e
    have hb := (h.ka _ _ hl).2.2
    rw [List.getElem?_set_self (by rw [cw_len]; exact hb), cw_at h hl, hc]
  · show (List.set _ _ _)[a]? = _
    rw [List.getElem?_set_ne e]
    unfold cw
    dsimp only
    rw [List.getElem?_mapIdx, List.getElem?_mapIdx]
    cases hK : G.K a with
    | none => rfl
    | some k' =>
      show Option.map (fun _ => cell G.A V k') _ = Option.map (fun _ => cell G.A V' k') _
      rw [ho k' (fun z => e (by rw [← z]; exact (h.ka a k' hK).1))]
theorem cw_put {st : ZS} {G : CG} {V V' : CV} {k : CK} {ci f : Nat} {L : List Value} {v : Value} (h : cok st G) (hl : G.live k) (hc : cell G.A V k = .inr (ci, L)) (hc' : cell G.A V' k = .inr (ci, L.set f v)) (ho : ∀ k', k' ≠ k → cell G.A V' k' = cell G.A V k') : zput (cw st G V) (G.A k) f v = cw st G V' := by
  rw [zput_eq (by rw [cw_at h hl, hc])]
  exact cw_set h hl hc' ho
theorem cw_sta {st : ZS} {G : CG} {V V' : CV} {k : CK} {x : Nat × ZA} (h : cok st G) (hl : G.live k) (hc' : cell G.A V' k = .inl x) (ho : ∀ k', k' ≠ k → cell G.A V' k' = cell G.A V k') : zsta (cw st G V) (G.A k) x = cw st G V' := cw_set h hl hc' ho
theorem cw_get {st : ZS} {G : CG} {V : CV} {k : CK} {ci f : Nat} {L : List Value} (h : cok st G) (hl : G.live k) (hc : cell G.A V k = .inr (ci, L)) : zget (cw st G V) (G.A k) ci f = L[f]? := by
  unfold zget
  rw [cw_at h hl, hc]
  dsimp only
  rw [if_pos rfl]
theorem cw_arr {st : ZS} {G : CG} {V : CV} {k : CK} {x : Nat × ZA} (h : cok st G) (hl : G.live k) (hc : cell G.A V k = .inl x) : zarr (cw st G V) (G.A k) = some x := by
  unfold zarr
  rw [cw_at h hl, hc]
theorem cw_ge {st : ZS} {G : CG} {k : CK} (h : cok st G) (hl : G.live k) : 3 ≤ G.A k := (h.ka _ _ hl).2.1
theorem vI_i {V : CV} {c j : Nat} {x : Int32} {c' j' : Nat} : (vI V c j x).i c' j' = if c' = c ∧ j' = j then x else V.i c' j' := rfl
theorem vI_r {V : CV} {c j : Nat} {x : Int32} : (vI V c j x).r = V.r := rfl
theorem vI_e {V : CV} {c j : Nat} {x : Int32} : (vI V c j x).e = V.e := rfl
theorem vI_c {V : CV} {c j : Nat} {x : Int32} : (vI V c j x).c = V.c := rfl
theorem vI_s {V : CV} {c j : Nat} {x : Int32} : (vI V c j x).s = V.s := rfl
theorem vI_u {V : CV} {c j : Nat} {x : Int32} : (vI V c j x).u = V.u := rfl
theorem vR_i {V : CV} {c j : Nat} {x : Option Nat} : (vR V c j x).i = V.i := rfl
theorem vR_r {V : CV} {c j : Nat} {x : Option Nat} {c' j' : Nat} : (vR V c j x).r c' j' = if c' = c ∧ j' = j then x else V.r c' j' := rfl
theorem vR_e {V : CV} {c j : Nat} {x : Option Nat} : (vR V c j x).e = V.e := rfl
theorem vR_c {V : CV} {c j : Nat} {x : Option Nat} : (vR V c j x).c = V.c := rfl
theorem vR_s {V : CV} {c j : Nat} {x : Option Nat} : (vR V c j x).s = V.s := rfl
theorem vR_u {V : CV} {c j : Nat} {x : Option Nat} : (vR V c j x).u = V.u := rfl
theorem vE_i {V : CV} {n : Nat} {f : Nat → Option Nat} : (vE V n f).i = V.i := rfl
theorem vE_r {V : CV} {n : Nat} {f : Nat → Option Nat} : (vE V n f).r = V.r := rfl
theorem vE_e {V : CV} {n m : Nat} {f : Nat → Option Nat} : (vE V n f).e m = if m = n then f else V.e m := rfl
theorem vE_c {V : CV} {n : Nat} {f : Nat → Option Nat} : (vE V n f).c = V.c := rfl
theorem vE_s {V : CV} {n : Nat} {f : Nat → Option Nat} : (vE V n f).s = V.s := rfl
theorem vE_u {V : CV} {n : Nat} {f : Nat → Option Nat} : (vE V n f).u = V.u := rfl
theorem vS_i {V : CV} {n : Nat} {f : Nat → Int32} : (vS V n f).i = V.i := rfl
theorem vS_r {V : CV} {n : Nat} {f : Nat → Int32} : (vS V n f).r = V.r := rfl
theorem vS_e {V : CV} {n : Nat} {f : Nat → Int32} : (vS V n f).e = V.e := rfl
theorem vS_c {V : CV} {n : Nat} {f : Nat → Int32} : (vS V n f).c = V.c := rfl
theorem vS_s {V : CV} {n m : Nat} {f : Nat → Int32} : (vS V n f).s m = if m = n then f else V.s m := rfl
theorem vS_u {V : CV} {n : Nat} {f : Nat → Int32} : (vS V n f).u = V.u := rfl
theorem cell_kx {A : CK → Nat} {V : CV} : cell A V .kx = .inr (6, [.ref (A (.al 0)), .ref (A (.al 1)), .ref (A (.al 2)), .ref (A .stk), .int (V.i 14 2), .float V.u]) := rfl
theorem cell_stk {A : CK → Nat} {V : CV} : cell A V .stk = .inr (5, [.ref (A (.al 3)), .int (V.i 14 0), .int (V.i 14 1)]) := rfl
theorem cell_al {A : CK → Nat} {V : CV} {n : Nat} : cell A V (.al n) = .inr (0, [.int (V.i 0 n), .ref (eld (V.c n) (A (.ar n))), .int (V.i 1 n)]) := rfl
theorem cell_dr {A : CK → Nat} {V : CV} {n : Nat} : cell A V (.dr n) = .inr (1, [.int (nI n), .ref (A (.ou (2 * n))), .int (V.i 2 n), .int (V.i 3 n)]) := rfl
theorem cell_ou {A : CK → Nat} {V : CV} {n : Nat} : cell A V (.ou n) = .inr (3, [.ref (A (.sk n)), .int (V.i 7 n)]) := rfl
theorem cell_jb {A : CK → Nat} {V : CV} {n : Nat} : cell A V (.jb n) = .inr (2, [rfv A .dr (V.r 0 n), .int (V.i 4 n), .int (V.i 5 n), .int (V.i 6 n), .ref (A (.al (n + 4))), .ref (A (.ou (2 * n + 1)))]) := rfl
theorem cell_pc {A : CK → Nat} {V : CV} {n : Nat} : cell A V (.pc n) = .inr (4, [.int (nI n), .int (V.i 8 n), .int (V.i 9 n), .int (V.i 10 n), .int (V.i 11 n), .int (V.i 12 n), .int (V.i 13 n), rfv A .pc (V.r 1 n), rfv A .pc (V.r 2 n), rfv A .pc (V.r 3 n), rfv A .pc (V.r 4 n)]) := rfl
theorem cell_sk {A : CK → Nat} {V : CV} {n : Nat} : cell A V (.sk n) = .inl (24, .inl (V.s n)) := rfl
theorem cell_ar {A : CK → Nat} {V : CV} {n : Nat} : cell A V (.ar n) = .inl (V.c n, .inr (.inr (.inr (.inr fun j => (V.e n j).map fun i => A (ek n i))))) := rfl
theorem rfv_s {A : CK → Nat} {f : Nat → CK} {i : Nat} : rfv A f (some i) = .ref (A (f i)) := rfl
theorem rfv_n {A : CK → Nat} {f : Nat → CK} : rfv A f none = .null := rfl
theorem vI_ss {V : CV} {c j : Nat} {x : Int32} : (vI V c j x).i c j = x := if_pos ⟨rfl, rfl⟩
theorem vI_oo {V : CV} {c j : Nat} {x : Int32} {c' j' : Nat} (h : ¬ (c' = c ∧ j' = j)) : (vI V c j x).i c' j' = V.i c' j' := if_neg h
theorem vR_ss {V : CV} {c j : Nat} {x : Option Nat} : (vR V c j x).r c j = x := if_pos ⟨rfl, rfl⟩
theorem vR_oo {V : CV} {c j : Nat} {x : Option Nat} {c' j' : Nat} (h : ¬ (c' = c ∧ j' = j)) : (vR V c j x).r c' j' = V.r c' j' := if_neg h
theorem vI_ne {V : CV} {c j : Nat} {x : Int32} {c' j' : Nat} (h : own c' j' ≠ own c j) : (vI V c j x).i c' j' = V.i c' j' := if_neg fun z => h (by rw [z.1, z.2])
theorem vR_ne {V : CV} {c j : Nat} {x : Option Nat} {c' j' : Nat} (h : ownR c' j' ≠ ownR c j) : (vR V c j x).r c' j' = V.r c' j' := if_neg fun z => h (by rw [z.1, z.2])
theorem cell_vI {A : CK → Nat} {V : CV} {c j : Nat} {x : Int32} {k : CK} (h : k ≠ own c j) : cell A (vI V c j x) k = cell A V k := by
  unfold cell
  split
  · rw [vI_ne (c' := 14) (j' := 2) h] <;> rfl
  · rw [vI_ne (c' := 14) (j' := 0) h, vI_ne (c' := 14) (j' := 1) h] <;> rfl
  · rw [vI_ne (c' := 0) (j' := _) h, vI_ne (c' := 1) (j' := _) h] <;> rfl
  · rfl
  · rw [vI_ne (c' := 2) (j' := _) h, vI_ne (c' := 3) (j' := _) h] <;> rfl
  · rw [vI_ne (c' := 7) (j' := _) h] <;> rfl
  · rfl
  · rw [vI_ne (c' := 4) (j' := _) h, vI_ne (c' := 5) (j' := _) h, vI_ne (c' := 6) (j' := _) h] <;> rfl
  · rw [vI_ne (c' := 8) (j' := _) h, vI_ne (c' := 9) (j' := _) h, vI_ne (c' := 10) (j' := _) h, vI_ne (c' := 11) (j' := _) h, vI_ne (c' := 12) (j' := _) h, vI_ne (c' := 13) (j' := _) h] <;> rfl
  · rfl
theorem cell_vR {A : CK → Nat} {V : CV} {c j : Nat} {x : Option Nat} {k : CK} (hc : c < 5) (h : k ≠ ownR c j) : cell A (vR V c j x) k = cell A V k := by
  unfold cell
  split
  · rfl
  · rfl
  · rfl
  · rfl
  · rfl
  · rfl
  · rfl
  · rw [vR_ne (c' := 0) (j' := _) h] <;> rfl
  · rw [vR_ne (c' := 1) (j' := _) h, vR_ne (c' := 2) (j' := _) h, vR_ne (c' := 3) (j' := _) h, vR_ne (c' := 4) (j' := _) h] <;> rfl
  · rfl
theorem cell_vE {A : CK → Nat} {V : CV} {n : Nat} {f : Nat → Option Nat} {k : CK} (h : k ≠ CK.ar n) : cell A (vE V n f) k = cell A V k := by
  unfold cell
  split
  · rfl
  · rfl
  · rfl
  · rename_i m
    have e : (vE V n f).e m = V.e m := if_neg fun z => h (by rw [z]; rfl)
    rw [e] <;> rfl
  · rfl
  · rfl
  · rfl
  · rfl
  · rfl
  · rfl
theorem cell_vS {A : CK → Nat} {V : CV} {n : Nat} {f : Nat → Int32} {k : CK} (h : k ≠ CK.sk n) : cell A (vS V n f) k = cell A V k := by
  unfold cell
  split
  · rfl
  · rfl
  · rfl
  · rfl
  · rfl
  · rfl
  · rename_i m
    have e : (vS V n f).s m = V.s m := if_neg fun z => h (by rw [z]; rfl)
    rw [e] <;> rfl
  · rfl
  · rfl
  · rfl
theorem cell_vU {A : CK → Nat} {V : CV} {x : UInt32} {k : CK} (h : k ≠ CK.kx) : cell A (vU V x) k = cell A V k := by
  unfold cell
  split
  · exact absurd rfl h
  · rfl
  · rfl
  · rfl
  · rfl
  · rfl
  · rfl
  · rfl
  · rfl
  · rfl
theorem vC_i {V : CV} {n c : Nat} : (vC V n c).i = V.i := rfl
theorem vC_r {V : CV} {n c : Nat} : (vC V n c).r = V.r := rfl
theorem vC_e {V : CV} {n c : Nat} : (vC V n c).e = V.e := rfl
theorem vC_s {V : CV} {n c : Nat} : (vC V n c).s = V.s := rfl
theorem vC_u {V : CV} {n c : Nat} : (vC V n c).u = V.u := rfl
theorem vC_c {V : CV} {n c m : Nat} : (vC V n c).c m = if m = n then c else V.c m := rfl
theorem vU_i {V : CV} {x : UInt32} : (vU V x).i = V.i := rfl
theorem vU_r {V : CV} {x : UInt32} : (vU V x).r = V.r := rfl
theorem vU_e {V : CV} {x : UInt32} : (vU V x).e = V.e := rfl
theorem vU_c {V : CV} {x : UInt32} : (vU V x).c = V.c := rfl
theorem vU_s {V : CV} {x : UInt32} : (vU V x).s = V.s := rfl
theorem vU_u {V : CV} {x : UInt32} : (vU V x).u = x := rfl
section CW
variable {st : ZS} {G : CG} {X : ZX}
theorem cg_kx_0 (h : cok st G) (hl : G.live .kx) (V : CV) : zget (cw st G V) (G.A .kx) 6 0 = some (.ref (G.A (.al 0))) := cw_get h hl rfl
theorem cg_kx_1 (h : cok st G) (hl : G.live .kx) (V : CV) : zget (cw st G V) (G.A .kx) 6 1 = some (.ref (G.A (.al 1))) := cw_get h hl rfl
theorem cg_kx_2 (h : cok st G) (hl : G.live .kx) (V : CV) : zget (cw st G V) (G.A .kx) 6 2 = some (.ref (G.A (.al 2))) := cw_get h hl rfl
theorem cg_kx_3 (h : cok st G) (hl : G.live .kx) (V : CV) : zget (cw st G V) (G.A .kx) 6 3 = some (.ref (G.A .stk)) := cw_get h hl rfl
theorem cg_kx_4 (h : cok st G) (hl : G.live .kx) (V : CV) : zget (cw st G V) (G.A .kx) 6 4 = some (.int (V.i 14 2)) := cw_get h hl rfl
theorem cg_kx_5 (h : cok st G) (hl : G.live .kx) (V : CV) : zget (cw st G V) (G.A .kx) 6 5 = some (.float V.u) := cw_get h hl rfl
theorem cis_kx (h : cok st G) (hl : G.live .kx) (V : CV) : zis (cw st G V) (G.A .kx) 6 = true := by unfold zis; rw [cg_kx_0 h hl]; rfl
theorem cg_kx (h : cok st G) (hl : G.live .kx) : (∀ V, zget (cw st G V) (G.A .kx) 6 0 = some (.ref (G.A (.al 0)))) ∧ (∀ V, zget (cw st G V) (G.A .kx) 6 1 = some (.ref (G.A (.al 1)))) ∧ (∀ V, zget (cw st G V) (G.A .kx) 6 2 = some (.ref (G.A (.al 2)))) ∧ (∀ V, zget (cw st G V) (G.A .kx) 6 3 = some (.ref (G.A .stk))) ∧ (∀ V, zget (cw st G V) (G.A .kx) 6 4 = some (.int (V.i 14 2))) ∧ (∀ V, zget (cw st G V) (G.A .kx) 6 5 = some (.float V.u)) ∧ (∀ V, zis (cw st G V) (G.A .kx) 6 = true) := ⟨cg_kx_0 h hl, cg_kx_1 h hl, cg_kx_2 h hl, cg_kx_3 h hl, cg_kx_4 h hl, cg_kx_5 h hl, cis_kx h hl⟩
theorem cp_kx_4 (h : cok st G) (hl : G.live .kx) (V : CV) (x : Int32) : zput (cw st G V) (G.A .kx) 4 (.int x) = cw st G (vI V 14 2 x) := by
  refine cw_put (ci := 6) h hl rfl ?_ (fun k' hk' => cell_vI hk')
  · rw [cell_kx, show (vI V 14 2 x).i 14 2 = x from vI_ss] <;> rfl
theorem cp_kx_5 (h : cok st G) (hl : G.live .kx) (V : CV) (x : UInt32) : zput (cw st G V) (G.A .kx) 5 (.float x) = cw st G (vU V x) := by
  refine cw_put (ci := 6) h hl rfl ?_ (fun k' hk' => cell_vU hk')
  · rfl
theorem cp_kx (h : cok st G) (hl : G.live .kx) : (∀ V x, zput (cw st G V) (G.A .kx) 4 (.int x) = cw st G (vI V 14 2 x)) ∧ (∀ V x, zput (cw st G V) (G.A .kx) 5 (.float x) = cw st G (vU V x)) := ⟨cp_kx_4 h hl, cp_kx_5 h hl⟩
theorem cg_stk_0 (h : cok st G) (hl : G.live .stk) (V : CV) : zget (cw st G V) (G.A .stk) 5 0 = some (.ref (G.A (.al 3))) := cw_get h hl rfl
theorem cg_stk_1 (h : cok st G) (hl : G.live .stk) (V : CV) : zget (cw st G V) (G.A .stk) 5 1 = some (.int (V.i 14 0)) := cw_get h hl rfl
theorem cg_stk_2 (h : cok st G) (hl : G.live .stk) (V : CV) : zget (cw st G V) (G.A .stk) 5 2 = some (.int (V.i 14 1)) := cw_get h hl rfl
theorem cis_stk (h : cok st G) (hl : G.live .stk) (V : CV) : zis (cw st G V) (G.A .stk) 5 = true := by unfold zis; rw [cg_stk_0 h hl]; rfl
theorem cg_stk (h : cok st G) (hl : G.live .stk) : (∀ V, zget (cw st G V) (G.A .stk) 5 0 = some (.ref (G.A (.al 3)))) ∧ (∀ V, zget (cw st G V) (G.A .stk) 5 1 = some (.int (V.i 14 0))) ∧ (∀ V, zget (cw st G V) (G.A .stk) 5 2 = some (.int (V.i 14 1))) ∧ (∀ V, zis (cw st G V) (G.A .stk) 5 = true) := ⟨cg_stk_0 h hl, cg_stk_1 h hl, cg_stk_2 h hl, cis_stk h hl⟩
theorem cp_stk_1 (h : cok st G) (hl : G.live .stk) (V : CV) (x : Int32) : zput (cw st G V) (G.A .stk) 1 (.int x) = cw st G (vI V 14 0 x) := by
  refine cw_put (ci := 5) h hl rfl ?_ (fun k' hk' => cell_vI hk')
  · rw [cell_stk, show (vI V 14 0 x).i 14 0 = x from vI_ss, show (vI V 14 0 x).i 14 1 = V.i 14 1 from vI_oo (by omega)] <;> rfl
theorem cp_stk_2 (h : cok st G) (hl : G.live .stk) (V : CV) (x : Int32) : zput (cw st G V) (G.A .stk) 2 (.int x) = cw st G (vI V 14 1 x) := by
  refine cw_put (ci := 5) h hl rfl ?_ (fun k' hk' => cell_vI hk')
  · rw [cell_stk, show (vI V 14 1 x).i 14 0 = V.i 14 0 from vI_oo (by omega), show (vI V 14 1 x).i 14 1 = x from vI_ss] <;> rfl
theorem cp_stk (h : cok st G) (hl : G.live .stk) : (∀ V x, zput (cw st G V) (G.A .stk) 1 (.int x) = cw st G (vI V 14 0 x)) ∧ (∀ V x, zput (cw st G V) (G.A .stk) 2 (.int x) = cw st G (vI V 14 1 x)) := ⟨cp_stk_1 h hl, cp_stk_2 h hl⟩
theorem cg_al_0 {n : Nat} (h : cok st G) (hl : G.live (.al n)) (V : CV) : zget (cw st G V) (G.A (.al n)) 0 0 = some (.int (V.i 0 n)) := cw_get h hl rfl
theorem cg_al_1 {n : Nat} (h : cok st G) (hl : G.live (.al n)) (V : CV) : zget (cw st G V) (G.A (.al n)) 0 1 = some (.ref (eld (V.c n) (G.A (.ar n)))) := cw_get h hl rfl
theorem cg_al_2 {n : Nat} (h : cok st G) (hl : G.live (.al n)) (V : CV) : zget (cw st G V) (G.A (.al n)) 0 2 = some (.int (V.i 1 n)) := cw_get h hl rfl
theorem cis_al {n : Nat} (h : cok st G) (hl : G.live (.al n)) (V : CV) : zis (cw st G V) (G.A (.al n)) 0 = true := by unfold zis; rw [cg_al_0 h hl]; rfl
theorem cg_al {n : Nat} (h : cok st G) (hl : G.live (.al n)) : (∀ V, zget (cw st G V) (G.A (.al n)) 0 0 = some (.int (V.i 0 n))) ∧ (∀ V, zget (cw st G V) (G.A (.al n)) 0 1 = some (.ref (eld (V.c n) (G.A (.ar n))))) ∧ (∀ V, zget (cw st G V) (G.A (.al n)) 0 2 = some (.int (V.i 1 n))) ∧ (∀ V, zis (cw st G V) (G.A (.al n)) 0 = true) := ⟨cg_al_0 h hl, cg_al_1 h hl, cg_al_2 h hl, cis_al h hl⟩
theorem cp_al_0 {n : Nat} (h : cok st G) (hl : G.live (.al n)) (V : CV) (x : Int32) : zput (cw st G V) (G.A (.al n)) 0 (.int x) = cw st G (vI V 0 n x) := by
  refine cw_put (ci := 0) h hl rfl ?_ (fun k' hk' => cell_vI hk')
  · rw [cell_al, show (vI V 0 n x).i 0 n = x from vI_ss, show (vI V 0 n x).i 1 n = V.i 1 n from vI_oo (by omega)] <;> rfl
theorem cp_al_2 {n : Nat} (h : cok st G) (hl : G.live (.al n)) (V : CV) (x : Int32) : zput (cw st G V) (G.A (.al n)) 2 (.int x) = cw st G (vI V 1 n x) := by
  refine cw_put (ci := 0) h hl rfl ?_ (fun k' hk' => cell_vI hk')
  · rw [cell_al, show (vI V 1 n x).i 0 n = V.i 0 n from vI_oo (by omega), show (vI V 1 n x).i 1 n = x from vI_ss] <;> rfl
theorem cp_al {n : Nat} (h : cok st G) (hl : G.live (.al n)) : (∀ V x, zput (cw st G V) (G.A (.al n)) 0 (.int x) = cw st G (vI V 0 n x)) ∧ (∀ V x, zput (cw st G V) (G.A (.al n)) 2 (.int x) = cw st G (vI V 1 n x)) := ⟨cp_al_0 h hl, cp_al_2 h hl⟩
theorem cg_dr_0 {n : Nat} (h : cok st G) (hl : G.live (.dr n)) (V : CV) : zget (cw st G V) (G.A (.dr n)) 1 0 = some (.int (nI n)) := cw_get h hl rfl
theorem cg_dr_1 {n : Nat} (h : cok st G) (hl : G.live (.dr n)) (V : CV) : zget (cw st G V) (G.A (.dr n)) 1 1 = some (.ref (G.A (.ou (2 * n)))) := cw_get h hl rfl
theorem cg_dr_2 {n : Nat} (h : cok st G) (hl : G.live (.dr n)) (V : CV) : zget (cw st G V) (G.A (.dr n)) 1 2 = some (.int (V.i 2 n)) := cw_get h hl rfl
theorem cg_dr_3 {n : Nat} (h : cok st G) (hl : G.live (.dr n)) (V : CV) : zget (cw st G V) (G.A (.dr n)) 1 3 = some (.int (V.i 3 n)) := cw_get h hl rfl
theorem cis_dr {n : Nat} (h : cok st G) (hl : G.live (.dr n)) (V : CV) : zis (cw st G V) (G.A (.dr n)) 1 = true := by unfold zis; rw [cg_dr_0 h hl]; rfl
theorem cg_dr {n : Nat} (h : cok st G) (hl : G.live (.dr n)) : (∀ V, zget (cw st G V) (G.A (.dr n)) 1 0 = some (.int (nI n))) ∧ (∀ V, zget (cw st G V) (G.A (.dr n)) 1 1 = some (.ref (G.A (.ou (2 * n))))) ∧ (∀ V, zget (cw st G V) (G.A (.dr n)) 1 2 = some (.int (V.i 2 n))) ∧ (∀ V, zget (cw st G V) (G.A (.dr n)) 1 3 = some (.int (V.i 3 n))) ∧ (∀ V, zis (cw st G V) (G.A (.dr n)) 1 = true) := ⟨cg_dr_0 h hl, cg_dr_1 h hl, cg_dr_2 h hl, cg_dr_3 h hl, cis_dr h hl⟩
theorem cp_dr_2 {n : Nat} (h : cok st G) (hl : G.live (.dr n)) (V : CV) (x : Int32) : zput (cw st G V) (G.A (.dr n)) 2 (.int x) = cw st G (vI V 2 n x) := by
  refine cw_put (ci := 1) h hl rfl ?_ (fun k' hk' => cell_vI hk')
  · rw [cell_dr, show (vI V 2 n x).i 2 n = x from vI_ss, show (vI V 2 n x).i 3 n = V.i 3 n from vI_oo (by omega)] <;> rfl
theorem cp_dr_3 {n : Nat} (h : cok st G) (hl : G.live (.dr n)) (V : CV) (x : Int32) : zput (cw st G V) (G.A (.dr n)) 3 (.int x) = cw st G (vI V 3 n x) := by
  refine cw_put (ci := 1) h hl rfl ?_ (fun k' hk' => cell_vI hk')
  · rw [cell_dr, show (vI V 3 n x).i 2 n = V.i 2 n from vI_oo (by omega), show (vI V 3 n x).i 3 n = x from vI_ss] <;> rfl
theorem cp_dr {n : Nat} (h : cok st G) (hl : G.live (.dr n)) : (∀ V x, zput (cw st G V) (G.A (.dr n)) 2 (.int x) = cw st G (vI V 2 n x)) ∧ (∀ V x, zput (cw st G V) (G.A (.dr n)) 3 (.int x) = cw st G (vI V 3 n x)) := ⟨cp_dr_2 h hl, cp_dr_3 h hl⟩
theorem cg_ou_0 {n : Nat} (h : cok st G) (hl : G.live (.ou n)) (V : CV) : zget (cw st G V) (G.A (.ou n)) 3 0 = some (.ref (G.A (.sk n))) := cw_get h hl rfl
theorem cg_ou_1 {n : Nat} (h : cok st G) (hl : G.live (.ou n)) (V : CV) : zget (cw st G V) (G.A (.ou n)) 3 1 = some (.int (V.i 7 n)) := cw_get h hl rfl
theorem cis_ou {n : Nat} (h : cok st G) (hl : G.live (.ou n)) (V : CV) : zis (cw st G V) (G.A (.ou n)) 3 = true := by unfold zis; rw [cg_ou_0 h hl]; rfl
theorem cg_ou {n : Nat} (h : cok st G) (hl : G.live (.ou n)) : (∀ V, zget (cw st G V) (G.A (.ou n)) 3 0 = some (.ref (G.A (.sk n)))) ∧ (∀ V, zget (cw st G V) (G.A (.ou n)) 3 1 = some (.int (V.i 7 n))) ∧ (∀ V, zis (cw st G V) (G.A (.ou n)) 3 = true) := ⟨cg_ou_0 h hl, cg_ou_1 h hl, cis_ou h hl⟩
theorem cp_ou_1 {n : Nat} (h : cok st G) (hl : G.live (.ou n)) (V : CV) (x : Int32) : zput (cw st G V) (G.A (.ou n)) 1 (.int x) = cw st G (vI V 7 n x) := by
  refine cw_put (ci := 3) h hl rfl ?_ (fun k' hk' => cell_vI hk')
  · rw [cell_ou, show (vI V 7 n x).i 7 n = x from vI_ss] <;> rfl
theorem cp_ou {n : Nat} (h : cok st G) (hl : G.live (.ou n)) : (∀ V x, zput (cw st G V) (G.A (.ou n)) 1 (.int x) = cw st G (vI V 7 n x)) := cp_ou_1 h hl
theorem cg_jb_0 {n : Nat} (h : cok st G) (hl : G.live (.jb n)) (V : CV) : zget (cw st G V) (G.A (.jb n)) 2 0 = some (rfv G.A .dr (V.r 0 n)) := cw_get h hl rfl
theorem cg_jb_1 {n : Nat} (h : cok st G) (hl : G.live (.jb n)) (V : CV) : zget (cw st G V) (G.A (.jb n)) 2 1 = some (.int (V.i 4 n)) := cw_get h hl rfl
theorem cg_jb_2 {n : Nat} (h : cok st G) (hl : G.live (.jb n)) (V : CV) : zget (cw st G V) (G.A (.jb n)) 2 2 = some (.int (V.i 5 n)) := cw_get h hl rfl
theorem cg_jb_3 {n : Nat} (h : cok st G) (hl : G.live (.jb n)) (V : CV) : zget (cw st G V) (G.A (.jb n)) 2 3 = some (.int (V.i 6 n)) := cw_get h hl rfl
theorem cg_jb_4 {n : Nat} (h : cok st G) (hl : G.live (.jb n)) (V : CV) : zget (cw st G V) (G.A (.jb n)) 2 4 = some (.ref (G.A (.al (n + 4)))) := cw_get h hl rfl
theorem cg_jb_5 {n : Nat} (h : cok st G) (hl : G.live (.jb n)) (V : CV) : zget (cw st G V) (G.A (.jb n)) 2 5 = some (.ref (G.A (.ou (2 * n + 1)))) := cw_get h hl rfl
theorem cis_jb {n : Nat} (h : cok st G) (hl : G.live (.jb n)) (V : CV) : zis (cw st G V) (G.A (.jb n)) 2 = true := by unfold zis; rw [cg_jb_0 h hl]; rfl
theorem cg_jb {n : Nat} (h : cok st G) (hl : G.live (.jb n)) : (∀ V, zget (cw st G V) (G.A (.jb n)) 2 0 = some (rfv G.A .dr (V.r 0 n))) ∧ (∀ V, zget (cw st G V) (G.A (.jb n)) 2 1 = some (.int (V.i 4 n))) ∧ (∀ V, zget (cw st G V) (G.A (.jb n)) 2 2 = some (.int (V.i 5 n))) ∧ (∀ V, zget (cw st G V) (G.A (.jb n)) 2 3 = some (.int (V.i 6 n))) ∧ (∀ V, zget (cw st G V) (G.A (.jb n)) 2 4 = some (.ref (G.A (.al (n + 4))))) ∧ (∀ V, zget (cw st G V) (G.A (.jb n)) 2 5 = some (.ref (G.A (.ou (2 * n + 1))))) ∧ (∀ V, zis (cw st G V) (G.A (.jb n)) 2 = true) := ⟨cg_jb_0 h hl, cg_jb_1 h hl, cg_jb_2 h hl, cg_jb_3 h hl, cg_jb_4 h hl, cg_jb_5 h hl, cis_jb h hl⟩
theorem cp_jb_2 {n : Nat} (h : cok st G) (hl : G.live (.jb n)) (V : CV) (x : Int32) : zput (cw st G V) (G.A (.jb n)) 2 (.int x) = cw st G (vI V 5 n x) := by
  refine cw_put (ci := 2) h hl rfl ?_ (fun k' hk' => cell_vI hk')
  · rw [cell_jb, show (vI V 5 n x).i 4 n = V.i 4 n from vI_oo (by omega), show (vI V 5 n x).i 5 n = x from vI_ss, show (vI V 5 n x).i 6 n = V.i 6 n from vI_oo (by omega)] <;> rfl
theorem cp_jb_3 {n : Nat} (h : cok st G) (hl : G.live (.jb n)) (V : CV) (x : Int32) : zput (cw st G V) (G.A (.jb n)) 3 (.int x) = cw st G (vI V 6 n x) := by
  refine cw_put (ci := 2) h hl rfl ?_ (fun k' hk' => cell_vI hk')
  · rw [cell_jb, show (vI V 6 n x).i 4 n = V.i 4 n from vI_oo (by omega), show (vI V 6 n x).i 5 n = V.i 5 n from vI_oo (by omega), show (vI V 6 n x).i 6 n = x from vI_ss] <;> rfl
theorem cp_jb {n : Nat} (h : cok st G) (hl : G.live (.jb n)) : (∀ V x, zput (cw st G V) (G.A (.jb n)) 2 (.int x) = cw st G (vI V 5 n x)) ∧ (∀ V x, zput (cw st G V) (G.A (.jb n)) 3 (.int x) = cw st G (vI V 6 n x)) := ⟨cp_jb_2 h hl, cp_jb_3 h hl⟩
theorem cg_pc_0 {n : Nat} (h : cok st G) (hl : G.live (.pc n)) (V : CV) : zget (cw st G V) (G.A (.pc n)) 4 0 = some (.int (nI n)) := cw_get h hl rfl
theorem cg_pc_1 {n : Nat} (h : cok st G) (hl : G.live (.pc n)) (V : CV) : zget (cw st G V) (G.A (.pc n)) 4 1 = some (.int (V.i 8 n)) := cw_get h hl rfl
theorem cg_pc_2 {n : Nat} (h : cok st G) (hl : G.live (.pc n)) (V : CV) : zget (cw st G V) (G.A (.pc n)) 4 2 = some (.int (V.i 9 n)) := cw_get h hl rfl
theorem cg_pc_3 {n : Nat} (h : cok st G) (hl : G.live (.pc n)) (V : CV) : zget (cw st G V) (G.A (.pc n)) 4 3 = some (.int (V.i 10 n)) := cw_get h hl rfl
theorem cg_pc_4 {n : Nat} (h : cok st G) (hl : G.live (.pc n)) (V : CV) : zget (cw st G V) (G.A (.pc n)) 4 4 = some (.int (V.i 11 n)) := cw_get h hl rfl
theorem cg_pc_5 {n : Nat} (h : cok st G) (hl : G.live (.pc n)) (V : CV) : zget (cw st G V) (G.A (.pc n)) 4 5 = some (.int (V.i 12 n)) := cw_get h hl rfl
theorem cg_pc_6 {n : Nat} (h : cok st G) (hl : G.live (.pc n)) (V : CV) : zget (cw st G V) (G.A (.pc n)) 4 6 = some (.int (V.i 13 n)) := cw_get h hl rfl
theorem cg_pc_7 {n : Nat} (h : cok st G) (hl : G.live (.pc n)) (V : CV) : zget (cw st G V) (G.A (.pc n)) 4 7 = some (rfv G.A .pc (V.r 1 n)) := cw_get h hl rfl
theorem cg_pc_8 {n : Nat} (h : cok st G) (hl : G.live (.pc n)) (V : CV) : zget (cw st G V) (G.A (.pc n)) 4 8 = some (rfv G.A .pc (V.r 2 n)) := cw_get h hl rfl
theorem cg_pc_9 {n : Nat} (h : cok st G) (hl : G.live (.pc n)) (V : CV) : zget (cw st G V) (G.A (.pc n)) 4 9 = some (rfv G.A .pc (V.r 3 n)) := cw_get h hl rfl
theorem cg_pc_10 {n : Nat} (h : cok st G) (hl : G.live (.pc n)) (V : CV) : zget (cw st G V) (G.A (.pc n)) 4 10 = some (rfv G.A .pc (V.r 4 n)) := cw_get h hl rfl
theorem cis_pc {n : Nat} (h : cok st G) (hl : G.live (.pc n)) (V : CV) : zis (cw st G V) (G.A (.pc n)) 4 = true := by unfold zis; rw [cg_pc_0 h hl]; rfl
theorem cg_pc {n : Nat} (h : cok st G) (hl : G.live (.pc n)) : (∀ V, zget (cw st G V) (G.A (.pc n)) 4 0 = some (.int (nI n))) ∧ (∀ V, zget (cw st G V) (G.A (.pc n)) 4 1 = some (.int (V.i 8 n))) ∧ (∀ V, zget (cw st G V) (G.A (.pc n)) 4 2 = some (.int (V.i 9 n))) ∧ (∀ V, zget (cw st G V) (G.A (.pc n)) 4 3 = some (.int (V.i 10 n))) ∧ (∀ V, zget (cw st G V) (G.A (.pc n)) 4 4 = some (.int (V.i 11 n))) ∧ (∀ V, zget (cw st G V) (G.A (.pc n)) 4 5 = some (.int (V.i 12 n))) ∧ (∀ V, zget (cw st G V) (G.A (.pc n)) 4 6 = some (.int (V.i 13 n))) ∧ (∀ V, zget (cw st G V) (G.A (.pc n)) 4 7 = some (rfv G.A .pc (V.r 1 n))) ∧ (∀ V, zget (cw st G V) (G.A (.pc n)) 4 8 = some (rfv G.A .pc (V.r 2 n))) ∧ (∀ V, zget (cw st G V) (G.A (.pc n)) 4 9 = some (rfv G.A .pc (V.r 3 n))) ∧ (∀ V, zget (cw st G V) (G.A (.pc n)) 4 10 = some (rfv G.A .pc (V.r 4 n))) ∧ (∀ V, zis (cw st G V) (G.A (.pc n)) 4 = true) := ⟨cg_pc_0 h hl, cg_pc_1 h hl, cg_pc_2 h hl, cg_pc_3 h hl, cg_pc_4 h hl, cg_pc_5 h hl, cg_pc_6 h hl, cg_pc_7 h hl, cg_pc_8 h hl, cg_pc_9 h hl, cg_pc_10 h hl, cis_pc h hl⟩
theorem cp_pc_1 {n : Nat} (h : cok st G) (hl : G.live (.pc n)) (V : CV) (x : Int32) : zput (cw st G V) (G.A (.pc n)) 1 (.int x) = cw st G (vI V 8 n x) := by
  refine cw_put (ci := 4) h hl rfl ?_ (fun k' hk' => cell_vI hk')
  · rw [cell_pc, show (vI V 8 n x).i 8 n = x from vI_ss, show (vI V 8 n x).i 9 n = V.i 9 n from vI_oo (by omega), show (vI V 8 n x).i 10 n = V.i 10 n from vI_oo (by omega), show (vI V 8 n x).i 11 n = V.i 11 n from vI_oo (by omega), show (vI V 8 n x).i 12 n = V.i 12 n from vI_oo (by omega), show (vI V 8 n x).i 13 n = V.i 13 n from vI_oo (by omega)] <;> rfl
theorem cp_pc_2 {n : Nat} (h : cok st G) (hl : G.live (.pc n)) (V : CV) (x : Int32) : zput (cw st G V) (G.A (.pc n)) 2 (.int x) = cw st G (vI V 9 n x) := by
  refine cw_put (ci := 4) h hl rfl ?_ (fun k' hk' => cell_vI hk')
  · rw [cell_pc, show (vI V 9 n x).i 8 n = V.i 8 n from vI_oo (by omega), show (vI V 9 n x).i 9 n = x from vI_ss, show (vI V 9 n x).i 10 n = V.i 10 n from vI_oo (by omega), show (vI V 9 n x).i 11 n = V.i 11 n from vI_oo (by omega), show (vI V 9 n x).i 12 n = V.i 12 n from vI_oo (by omega), show (vI V 9 n x).i 13 n = V.i 13 n from vI_oo (by omega)] <;> rfl
theorem cp_pc_3 {n : Nat} (h : cok st G) (hl : G.live (.pc n)) (V : CV) (x : Int32) : zput (cw st G V) (G.A (.pc n)) 3 (.int x) = cw st G (vI V 10 n x) := by
  refine cw_put (ci := 4) h hl rfl ?_ (fun k' hk' => cell_vI hk')
  · rw [cell_pc, show (vI V 10 n x).i 8 n = V.i 8 n from vI_oo (by omega), show (vI V 10 n x).i 9 n = V.i 9 n from vI_oo (by omega), show (vI V 10 n x).i 10 n = x from vI_ss, show (vI V 10 n x).i 11 n = V.i 11 n from vI_oo (by omega), show (vI V 10 n x).i 12 n = V.i 12 n from vI_oo (by omega), show (vI V 10 n x).i 13 n = V.i 13 n from vI_oo (by omega)] <;> rfl
theorem cp_pc_4 {n : Nat} (h : cok st G) (hl : G.live (.pc n)) (V : CV) (x : Int32) : zput (cw st G V) (G.A (.pc n)) 4 (.int x) = cw st G (vI V 11 n x) := by
  refine cw_put (ci := 4) h hl rfl ?_ (fun k' hk' => cell_vI hk')
  · rw [cell_pc, show (vI V 11 n x).i 8 n = V.i 8 n from vI_oo (by omega), show (vI V 11 n x).i 9 n = V.i 9 n from vI_oo (by omega), show (vI V 11 n x).i 10 n = V.i 10 n from vI_oo (by omega), show (vI V 11 n x).i 11 n = x from vI_ss, show (vI V 11 n x).i 12 n = V.i 12 n from vI_oo (by omega), show (vI V 11 n x).i 13 n = V.i 13 n from vI_oo (by omega)] <;> rfl
theorem cp_pc_5 {n : Nat} (h : cok st G) (hl : G.live (.pc n)) (V : CV) (x : Int32) : zput (cw st G V) (G.A (.pc n)) 5 (.int x) = cw st G (vI V 12 n x) := by
  refine cw_put (ci := 4) h hl rfl ?_ (fun k' hk' => cell_vI hk')
  · rw [cell_pc, show (vI V 12 n x).i 8 n = V.i 8 n from vI_oo (by omega), show (vI V 12 n x).i 9 n = V.i 9 n from vI_oo (by omega), show (vI V 12 n x).i 10 n = V.i 10 n from vI_oo (by omega), show (vI V 12 n x).i 11 n = V.i 11 n from vI_oo (by omega), show (vI V 12 n x).i 12 n = x from vI_ss, show (vI V 12 n x).i 13 n = V.i 13 n from vI_oo (by omega)] <;> rfl
theorem cp_pc_6 {n : Nat} (h : cok st G) (hl : G.live (.pc n)) (V : CV) (x : Int32) : zput (cw st G V) (G.A (.pc n)) 6 (.int x) = cw st G (vI V 13 n x) := by
  refine cw_put (ci := 4) h hl rfl ?_ (fun k' hk' => cell_vI hk')
  · rw [cell_pc, show (vI V 13 n x).i 8 n = V.i 8 n from vI_oo (by omega), show (vI V 13 n x).i 9 n = V.i 9 n from vI_oo (by omega), show (vI V 13 n x).i 10 n = V.i 10 n from vI_oo (by omega), show (vI V 13 n x).i 11 n = V.i 11 n from vI_oo (by omega), show (vI V 13 n x).i 12 n = V.i 12 n from vI_oo (by omega), show (vI V 13 n x).i 13 n = x from vI_ss] <;> rfl
theorem cp_pc_7 {n : Nat} (h : cok st G) (hl : G.live (.pc n)) (V : CV) (o : Option Nat) : zput (cw st G V) (G.A (.pc n)) 7 (rfv G.A .pc o) = cw st G (vR V 1 n o) := by
  refine cw_put (ci := 4) h hl rfl ?_ (fun k' hk' => cell_vR (by decide) hk')
  · rw [cell_pc, show (vR V 1 n o).r 1 n = o from vR_ss, show (vR V 1 n o).r 2 n = V.r 2 n from vR_oo (by omega), show (vR V 1 n o).r 3 n = V.r 3 n from vR_oo (by omega), show (vR V 1 n o).r 4 n = V.r 4 n from vR_oo (by omega)] <;> rfl
theorem cp_pc_8 {n : Nat} (h : cok st G) (hl : G.live (.pc n)) (V : CV) (o : Option Nat) : zput (cw st G V) (G.A (.pc n)) 8 (rfv G.A .pc o) = cw st G (vR V 2 n o) := by
  refine cw_put (ci := 4) h hl rfl ?_ (fun k' hk' => cell_vR (by decide) hk')
  · rw [cell_pc, show (vR V 2 n o).r 1 n = V.r 1 n from vR_oo (by omega), show (vR V 2 n o).r 2 n = o from vR_ss, show (vR V 2 n o).r 3 n = V.r 3 n from vR_oo (by omega), show (vR V 2 n o).r 4 n = V.r 4 n from vR_oo (by omega)] <;> rfl
theorem cp_pc_9 {n : Nat} (h : cok st G) (hl : G.live (.pc n)) (V : CV) (o : Option Nat) : zput (cw st G V) (G.A (.pc n)) 9 (rfv G.A .pc o) = cw st G (vR V 3 n o) := by
  refine cw_put (ci := 4) h hl rfl ?_ (fun k' hk' => cell_vR (by decide) hk')
  · rw [cell_pc, show (vR V 3 n o).r 1 n = V.r 1 n from vR_oo (by omega), show (vR V 3 n o).r 2 n = V.r 2 n from vR_oo (by omega), show (vR V 3 n o).r 3 n = o from vR_ss, show (vR V 3 n o).r 4 n = V.r 4 n from vR_oo (by omega)] <;> rfl
theorem cp_pc_10 {n : Nat} (h : cok st G) (hl : G.live (.pc n)) (V : CV) (o : Option Nat) : zput (cw st G V) (G.A (.pc n)) 10 (rfv G.A .pc o) = cw st G (vR V 4 n o) := by
  refine cw_put (ci := 4) h hl rfl ?_ (fun k' hk' => cell_vR (by decide) hk')
  · rw [cell_pc, show (vR V 4 n o).r 1 n = V.r 1 n from vR_oo (by omega), show (vR V 4 n o).r 2 n = V.r 2 n from vR_oo (by omega), show (vR V 4 n o).r 3 n = V.r 3 n from vR_oo (by omega), show (vR V 4 n o).r 4 n = o from vR_ss] <;> rfl
theorem cp_pc {n : Nat} (h : cok st G) (hl : G.live (.pc n)) : (∀ V x, zput (cw st G V) (G.A (.pc n)) 1 (.int x) = cw st G (vI V 8 n x)) ∧ (∀ V x, zput (cw st G V) (G.A (.pc n)) 2 (.int x) = cw st G (vI V 9 n x)) ∧ (∀ V x, zput (cw st G V) (G.A (.pc n)) 3 (.int x) = cw st G (vI V 10 n x)) ∧ (∀ V x, zput (cw st G V) (G.A (.pc n)) 4 (.int x) = cw st G (vI V 11 n x)) ∧ (∀ V x, zput (cw st G V) (G.A (.pc n)) 5 (.int x) = cw st G (vI V 12 n x)) ∧ (∀ V x, zput (cw st G V) (G.A (.pc n)) 6 (.int x) = cw st G (vI V 13 n x)) ∧ (∀ V q, zput (cw st G V) (G.A (.pc n)) 7 (.ref (G.A (.pc q))) = cw st G (vR V 1 n (some q))) ∧ (∀ V, zput (cw st G V) (G.A (.pc n)) 7 .null = cw st G (vR V 1 n none)) ∧ (∀ V q, zput (cw st G V) (G.A (.pc n)) 8 (.ref (G.A (.pc q))) = cw st G (vR V 2 n (some q))) ∧ (∀ V, zput (cw st G V) (G.A (.pc n)) 8 .null = cw st G (vR V 2 n none)) ∧ (∀ V q, zput (cw st G V) (G.A (.pc n)) 9 (.ref (G.A (.pc q))) = cw st G (vR V 3 n (some q))) ∧ (∀ V, zput (cw st G V) (G.A (.pc n)) 9 .null = cw st G (vR V 3 n none)) ∧ (∀ V q, zput (cw st G V) (G.A (.pc n)) 10 (.ref (G.A (.pc q))) = cw st G (vR V 4 n (some q))) ∧ (∀ V, zput (cw st G V) (G.A (.pc n)) 10 .null = cw st G (vR V 4 n none)) := ⟨cp_pc_1 h hl, cp_pc_2 h hl, cp_pc_3 h hl, cp_pc_4 h hl, cp_pc_5 h hl, cp_pc_6 h hl, fun V q => cp_pc_7 h hl V (some q), fun V => cp_pc_7 h hl V none, fun V q => cp_pc_8 h hl V (some q), fun V => cp_pc_8 h hl V none, fun V q => cp_pc_9 h hl V (some q), fun V => cp_pc_9 h hl V none, fun V q => cp_pc_10 h hl V (some q), fun V => cp_pc_10 h hl V none⟩
theorem ca_sk {n : Nat} (h : cok st G) (hl : G.live (.sk n)) : (∀ V, zarr (cw st G V) (G.A (.sk n)) = some (24, .inl (V.s n))) ∧ (∀ V, zai X (cw st G V) (G.A (.sk n)) = some (24, V.s n)) ∧ (∀ V, zaI (cw st G V) (G.A (.sk n)) = some (24, V.s n)) ∧ (∀ V f, zsta (cw st G V) (G.A (.sk n)) (24, .inl f) = cw st G (vS V n f)) ∧ (∀ V, zlen X (cw st G V) (G.A (.sk n)) = some 24) := by
  have e : ∀ V, zarr (cw st G V) (G.A (.sk n)) = some (24, .inl (V.s n)) := fun V => cw_arr h hl rfl
  have hg := cw_ge h hl
  refine ⟨e, ?_, ?_, ?_, ?_⟩
  · intro V
    unfold zai
    rw [if_neg (by omega), e]
  · intro V
    unfold zaI
    rw [e]
  · intro V f
    refine cw_sta h hl ?_ ?_
    · rw [cell_sk, vS_s, if_pos rfl]
    · exact fun k' hk' => cell_vS hk'
  · intro V
    unfold zlen
    rw [if_neg (by omega), if_neg (by omega), e]
    rfl
theorem ca_ar {n : Nat} (h : cok st G) (hl : G.live (.ar n)) : (∀ V, zarr (cw st G V) (G.A (.ar n)) = some (V.c n, .inr (.inr (.inr (.inr fun j => (V.e n j).map fun i => G.A (ek n i)))))) ∧ (∀ V, zaR (cw st G V) (G.A (.ar n)) = some (V.c n, fun j => (V.e n j).map fun i => G.A (ek n i))) ∧ (∀ V, zlen X (cw st G V) (G.A (.ar n)) = some (V.c n)) ∧ (∀ V j k, zsta (cw st G V) (G.A (.ar n)) (V.c n, .inr (.inr (.inr (.inr (va_up (fun j => (V.e n j).map fun i => G.A (ek n i)) j (some (G.A (ek n k)))))))) = cw st G (vE V n fun i => if i = j then some k else V.e n i)) ∧ (∀ V j, zsta (cw st G V) (G.A (.ar n)) (V.c n, .inr (.inr (.inr (.inr (va_up (fun j => (V.e n j).map fun i => G.A (ek n i)) j none))))) = cw st G (vE V n fun i => if i = j then none else V.e n i)) := by
  have e : ∀ V, zarr (cw st G V) (G.A (.ar n)) = some (V.c n, .inr (.inr (.inr (.inr fun j => (V.e n j).map fun i => G.A (ek n i))))) := fun V => cw_arr h hl rfl
  have hg := cw_ge h hl
  refine ⟨e, ?_, ?_, ?_, ?_⟩
  · intro V
    unfold zaR
    rw [e]
  · intro V
    unfold zlen
    rw [if_neg (by omega), if_neg (by omega), e]
    rfl
  · intro V j k
    refine cw_sta h hl ?_ ?_
    · rw [cell_ar, vE_c, vE_e, if_pos rfl]
      refine congrArg Sum.inl (Prod.ext rfl (congrArg Sum.inr (congrArg Sum.inr (congrArg Sum.inr (congrArg Sum.inr ?_)))))
      funext i
      unfold va_up
      by_cases c : i = j
      · rw [if_pos c, if_pos c]; rfl
      · rw [if_neg c, if_neg c]
    · exact fun k' hk' => cell_vE hk'
  · intro V j
    refine cw_sta h hl ?_ ?_
    · rw [cell_ar, vE_c, vE_e, if_pos rfl]
      refine congrArg Sum.inl (Prod.ext rfl (congrArg Sum.inr (congrArg Sum.inr (congrArg Sum.inr (congrArg Sum.inr ?_)))))
      funext i
      unfold va_up
      by_cases c : i = j
      · rw [if_pos c, if_pos c]; rfl
      · rw [if_neg c, if_neg c]
    · exact fun k' hk' => cell_vE hk'
end CW
