/-! THE TABLES HOLD: what each entry needs of the words -/
def zgw : List Cond := lw_tbl.filter goodWord
def zvi (o : Nat) : Nat := match o with
  | 0 => 1 | 1 => 2 | 2 => 3 | 3 => 4 | 4 => 5 | 5 => 6 | 6 => 7 | 10 => 0 | _ => 99
def zhas (w : Cond) (p : Nat) : Bool := decide (lw_tbl[p]? = some w) && goodWord w
theorem zhas_mem {w : Cond} {p : Nat} (h : zhas w p = true) : w ∈ zgw := by
  unfold zhas at h
  rw [Bool.and_eq_true] at h
  exact List.mem_filter.mpr ⟨List.mem_of_getElem? (of_decide_eq_true h.1), h.2⟩
theorem zlk {α β : Type} [BEq α] [LawfulBEq α] : ∀ {l : List (α × β)} {k : α} {v : β}, l.lookup k = some v → (k, v) ∈ l
  | [], _, _, h => by cases h
  | (a, b) :: l, k, v, h => by
    rw [List.lookup_cons] at h
    by_cases c : (k == a) = true
    · rw [c] at h
      have e := eq_of_beq c
      subst e
      have h := Option.some.inj h
      subst h
      exact List.mem_cons_self
    · have c : (k == a) = false := by cases hk : (k == a) with | true => exact absurd hk c | false => rfl
      rw [c] at h
      exact List.mem_cons_of_mem _ (zlk h)
theorem zzip {α β : Type} {l : List α} {r : List β} {x : α} (hl : l.length ≤ r.length) (h : x ∈ l) : ∃ y, (x, y) ∈ l.zip r := by
  obtain ⟨i, hi⟩ := List.getElem?_of_mem h
  have h1 : i < l.length := (List.getElem?_eq_some_iff.mp hi).1
  have h2 : i < r.length := Nat.lt_of_lt_of_le h1 hl
  refine ⟨r[i], List.mem_of_getElem? (i := i) ?_⟩
  rw [List.getElem?_zip_eq_some]
  exact ⟨hi, List.getElem?_eq_some_iff.mpr ⟨h2, rfl⟩⟩
theorem zall {α β γ : Type} [BEq α] [LawfulBEq α] {l : List (α × β)} {r : List γ} {f : (α × β) × γ → Bool} (hl : l.length ≤ r.length) (hf : (l.zip r).all f = true) {k : α} {v : β} (h : l.lookup k = some v) : ∃ c, f ((k, v), c) = true := by
  obtain ⟨c, hc⟩ := zzip hl (zlk h)
  exact ⟨c, List.all_eq_true.mp hf _ hc⟩
def zFc (x : ((Nat × Nat) × (Nat × Nat)) × (String × Nat)) : Bool := match vwCl[x.1.2.1]? with
  | some r => decide (x.1.2.2 < r.2.2) && (zhas (.fieldLink (zow x.1.1.1) x.1.1.2 x.2.1 (r.2.1 x.1.2.2).2.1 (r.2.1 x.1.2.2).2.2.1) x.2.2 && (decide (x.2.1 = (r.2.1 x.1.2.2).1) || zhas (.sameField x.2.1 (r.2.1 x.1.2.2).1 (r.2.1 x.1.2.2).2.1 (r.2.1 x.1.2.2).2.2.1) 87))
  | none => false
set_option maxRecDepth 100000 in
theorem zF_all : (zFL.zip zFP).all zFc = true := by decide +kernel
theorem zF_ok {o i ci k : Nat} (h : zFL.lookup (o, i) = some (ci, k)) : ∃ (r : vw_C) (ref : String), vwCl[ci]? = some r ∧ k < r.2.2 ∧ Cond.fieldLink (zow o) i ref (r.2.1 k).2.1 (r.2.1 k).2.2.1 ∈ zgw ∧ (ref = (r.2.1 k).1 ∨ Cond.sameField ref (r.2.1 k).1 (r.2.1 k).2.1 (r.2.1 k).2.2.1 ∈ zgw) := by
  obtain ⟨c, hc⟩ := zall (by decide +kernel) zF_all h
  unfold zFc at hc
  dsimp only at hc
  cases hr : vwCl[ci]? with
  | none => rw [hr] at hc; cases hc
  | some r =>
    rw [hr] at hc
    simp only [Bool.and_eq_true, Bool.or_eq_true] at hc
    exact ⟨r, c.1, rfl, of_decide_eq_true hc.1, zhas_mem hc.2.1, hc.2.2.imp (fun z => of_decide_eq_true z) zhas_mem⟩
def zNc (x : ((Nat × Nat) × Nat) × List Nat) : Bool := match vwCl[x.1.2]? with
  | some r => zhas (.classLink (zow x.1.1.1) x.1.1.2 r.1) (x.2.getD 0 0) && (zhas (.instantiable r.1 r.2.2) (x.2.getD 1 0) && zhas (.initialized r.1) (x.2.getD 2 0))
  | none => false
set_option maxRecDepth 100000 in
theorem zN_all : (zNL.zip zNP).all zNc = true := by decide +kernel
theorem zN_ok {o i ci : Nat} (h : zNL.lookup (o, i) = some ci) : ∃ r : vw_C, vwCl[ci]? = some r ∧ Cond.classLink (zow o) i r.1 ∈ zgw ∧ Cond.instantiable r.1 r.2.2 ∈ zgw ∧ Cond.initialized r.1 ∈ zgw := by
  obtain ⟨c, hc⟩ := zall (by decide +kernel) zN_all h
  unfold zNc at hc
  dsimp only at hc
  cases hr : vwCl[ci]? with
  | none => rw [hr] at hc; cases hc
  | some r =>
    rw [hr] at hc
    simp only [Bool.and_eq_true] at hc
    exact ⟨r, rfl, zhas_mem hc.1, zhas_mem hc.2.1, zhas_mem hc.2.2⟩
def zKc (x : ((Nat × Nat) × Nat) × Nat) : Bool := match vwCl[x.1.2]? with
  | some r => zhas (.classLink (zow x.1.1.1) x.1.1.2 r.1) x.2
  | none => false
set_option maxRecDepth 100000 in
theorem zK_all : (zKL.zip zKP).all zKc = true := by decide +kernel
theorem zK_ok {o i ci : Nat} (h : zKL.lookup (o, i) = some ci) : ∃ r : vw_C, vwCl[ci]? = some r ∧ Cond.classLink (zow o) i r.1 ∈ zgw := by
  obtain ⟨c, hc⟩ := zall (by decide +kernel) zK_all h
  unfold zKc at hc
  dsimp only at hc
  cases hr : vwCl[ci]? with
  | none => rw [hr] at hc; cases hc
  | some r => rw [hr] at hc; exact ⟨r, rfl, zhas_mem hc⟩
def zDc (x : ((Nat × Nat) × Value) × Nat) : Bool := match x.1.2 with
  | .int v => zhas (.constant (zow x.1.1.1) x.1.1.2 v) x.2
  | .float v => zhas (.constantFloat (zow x.1.1.1) x.1.1.2 v) x.2
  | .double v => zhas (.constantDouble (zow x.1.1.1) x.1.1.2 v) x.2
  | _ => false
set_option maxRecDepth 100000 in
theorem zD_all : (zDL.zip zDP).all zDc = true := by decide +kernel
theorem zD_ok {o i : Nat} {v : Value} (h : zDL.lookup (o, i) = some v) : (∃ x, v = .int x ∧ Cond.constant (zow o) i x ∈ zgw) ∨ (∃ x, v = .float x ∧ Cond.constantFloat (zow o) i x ∈ zgw) ∨ (∃ x, v = .double x ∧ Cond.constantDouble (zow o) i x ∈ zgw) := by
  obtain ⟨c, hc⟩ := zall (by decide +kernel) zD_all h
  unfold zDc at hc
  dsimp only at hc
  cases v with
  | int x => exact Or.inl ⟨x, rfl, zhas_mem hc⟩
  | float x => exact Or.inr (Or.inl ⟨x, rfl, zhas_mem hc⟩)
  | double x => exact Or.inr (Or.inr ⟨x, rfl, zhas_mem hc⟩)
  | _ => cases hc
def zMc (x : ((Nat × Nat) × (Nat × Nat)) × List Nat) : Bool :=
  let y := x.1.2.2
  decide ((parseMethodDescriptor (znm y).desc).map (fun d => d.parameters.length) = some (znp y)) && (decide ((znm y).cls = zow (zoc y)) && (plainName (znm y).cls && (match x.1.2.1 with
  | 0 => zhas (.methodLink (zow x.1.1.1) x.1.1.2 (znm y)) (x.2.getD 0 0) && (zhas (.code (znm y) (zby y) (zml y) (zrt y)) (x.2.getD 1 0) && (zhas (.instanceMethod (znm y)) (x.2.getD 2 0) && (zhas (.selects (znm y).cls (znm y) (znm y)) (x.2.getD 3 0) && (zhas (.initialized (znm y).cls) (x.2.getD 4 0) && (match vwCl[zvi (zoc y)]? with
    | some r => decide (r.1 = (znm y).cls)
    | none => false)))))
  | 1 => zhas (.methodLink (zow x.1.1.1) x.1.1.2 (znm y)) (x.2.getD 0 0) && ((match zhh y with
    | [] => zhas (.code (znm y) (zby y) (zml y) (zrt y)) (x.2.getD 1 0)
    | h => zhas (.codeWith (znm y) (zby y) (zml y) (zrt y) h) (x.2.getD 1 0)) && (zhas (.static (znm y)) (x.2.getD 2 0) && zhas (.initialized (znm y).cls) (x.2.getD 3 0)))
  | 2 => zhas (.methodLink (zow x.1.1.1) x.1.1.2 (znm y)) (x.2.getD 0 0) && (zhas (.code (znm y) (zby y) (zml y) (zrt y)) (x.2.getD 1 0) && (zhas (.instanceMethod (znm y)) (x.2.getD 2 0) && (zhas (.initialized (znm y).cls) (x.2.getD 3 0) && (decide ((znm y).name = "<init>") && decide (zrt y = none)))))
  | 3 => decide (lw_tbl[x.2.getD 0 0]? = some (.methodLinkNest (zow x.1.1.1) x.1.1.2 (znm y) "Kerfworks")) && (zhas (.code (znm y) (zby y) (zml y) (zrt y)) (x.2.getD 1 0) && (zhas (.instanceMethod (znm y)) (x.2.getD 2 0) && (zhas (.initialized (znm y).cls) (x.2.getD 3 0) && (decide ((znm y).name = "<init>") && decide (zrt y = none)))))
  | _ => false)))
/-- the classes of the made objects: their fields' types -/
def zref (ty : FieldType) : Bool := match ty with
  | .object _ => true
  | .array _ => true
  | _ => false
def zTc (ci : Nat) (r : vw_C) (ty0 : Nat → FieldType) : Bool := decide ((znewf ci).length = r.2.2) && ((List.range r.2.2).all fun k => decide ((zty ci k).2 = (r.2.1 k).2.2.2) && ((!(r.2.1 k).2.2.2 || decide ((r.2.1 k).1 = r.1)) && (decide (defaultValue (ty0 k) = vp_V (znewf ci) k) && (match (zty ci k).1 with
  | 0 => decide (ty0 k = .int)
  | 1 => decide (ty0 k = .float)
  | 2 => zref (ty0 k)
  | _ => false))))
def zcl_ (ci : Nat) (r : vw_C) : Prop := (∀ w ∈ u_ws r.1 r.2.1 r.2.2, w ∈ zgw) ∧ ∃ ty0 : Nat → FieldType, (∀ k, k < r.2.2 → parseFieldDescriptor (r.2.1 k).2.2.1 = some (ty0 k)) ∧ (∀ a, a < r.2.2 → ∀ b, b < r.2.2 → a ≠ b → (r.2.1 a).2.1 ≠ (r.2.1 b).2.1) ∧ zTc ci r ty0 = true
theorem zin_all {L : List Cond} (h : L.all (fun w => lw_tbl.contains w && goodWord w) = true) : ∀ w ∈ L, w ∈ zgw := fun w hw => by
  have h1 := List.all_eq_true.mp h w hw
  rw [Bool.and_eq_true] at h1
  exact List.mem_filter.mpr ⟨List.contains_iff_mem.mp h1.1, h1.2⟩
set_option maxRecDepth 100000 in
theorem zcl_ok : ∀ (ci : Nat) (r : vw_C), vwCl[ci]? = some r → zcl_ ci r := by
  intro ci r h
  match ci, h with
  | 0, h => cases h; exact ⟨zin_all (by decide +kernel), tyJx4a65c, tyJx4a65c_ok, nmJx4a65c, by decide +kernel⟩
  | 1, h => cases h; exact ⟨zin_all (by decide +kernel), tyX0, tyX0_ok, nmX0, by decide +kernel⟩
  | 2, h => cases h; exact ⟨zin_all (by decide +kernel), tyX1, tyX1_ok, nmX1, by decide +kernel⟩
  | 3, h => cases h; exact ⟨zin_all (by decide +kernel), tyX2, tyX2_ok, nmX2, by decide +kernel⟩
  | 4, h => cases h; exact ⟨zin_all (by decide +kernel), tyX3, tyX3_ok, nmX3, by decide +kernel⟩
  | 5, h => cases h; exact ⟨zin_all (by decide +kernel), tyX4, tyX4_ok, nmX4, by decide +kernel⟩
  | 6, h => cases h; exact ⟨zin_all (by decide +kernel), tyX5, tyX5_ok, nmX5, by decide +kernel⟩
  | 7, h => cases h; exact ⟨zin_all (by decide +kernel), tyX6, tyX6_ok, nmX6, by decide +kernel⟩
  | k + 8, h => simp [vwCl] at h
theorem zvi_ok {o ci : Nat} {r : vw_C} (h : zvi o = ci) (hr : vwCl[ci]? = some r) : r.1 = zow o := by
  subst h
  match o, hr with
  | 0, hr => cases hr; rfl
  | 1, hr => cases hr; rfl
  | 2, hr => cases hr; rfl
  | 3, hr => cases hr; rfl
  | 4, hr => cases hr; rfl
  | 5, hr => cases hr; rfl
  | 6, hr => cases hr; rfl
  | 7, hr => cases hr
  | 8, hr => cases hr
  | 9, hr => cases hr
  | 10, hr => cases hr; rfl
  | k + 11, hr => cases hr
