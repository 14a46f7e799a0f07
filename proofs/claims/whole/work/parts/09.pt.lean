/-! A POINT OF A WALK, as the abstract machine has it; the instructions that leave the heap alone -/
def ztys (tc : Nat → ClassId) : List (ClassId × FieldType) := [(tc 0, .int), (tc 1, .long), (tc 2, .double), (tc 3, .object "java/lang/Object")]
/-- the texts of the exceptions -/
def zSL : List (String × Nat × String) := (zXL.zip zXP).map fun q => (zow q.1.1.1, q.1.1.2.2.1, q.2.1)
/-- classes whose objects lists hold; the constructors of nest mates; the classes thrown -/
def zKC : List String := [RX0, RX1, RX2, RX3, RX4, RX5, RX6]
def zNW : List (String × Nat × MethodName) := (zCL.filter fun x => x.2.1 == 3).map fun x => (zow x.1.1, x.1.2, znm x.2.2)
def zEX : List String := ["java/lang/IndexOutOfBoundsException", "java/lang/IllegalArgumentException", "java/lang/IllegalStateException"]
def zDE : List MethodName := lw_tbl.filterMap fun w => match w with
  | .declares x => some x
  | _ => none
def ZCv (s : State) (mr : Nat) : Prop := va_Mi "[Ljava/lang/Object;" mr s ∧ va_Dc s ∧ va_AO "java/lang/Object" s ∧ (∀ w ∈ zSL, ∃ sa, vk_R w.1 w.2.1 w.2.2 sa s) ∧ (∀ C ∈ zKC, va_Nw (.castable C "java/lang/Object") s) ∧ (∀ w ∈ zNW, va_Nw (.methodLinkNest w.1 w.2.1 w.2.2 "Kerfworks") s) ∧ (∀ E ∈ zEX, va_Nw (.castable E E) s) ∧ (∀ E ∈ zEX, ∀ F ∈ zEX, E ≠ F → va_Nc E F s) ∧ ∀ x ∈ zDE, va_Nw (.declares x) s
def ZCh (s : State) (A : Nat → Prop) (H : Heap) (ad0 : Nat → Nat) (X : ZX) : Prop :=
  (va_Z "java/util/ArrayList" "DEFAULTCAPACITY_EMPTY_ELEMENTDATA" "[Ljava/lang/Object;" (.ref (ad0 0)) A s H ∧ va_T (.object "java/lang/Object") (ad0 0) 0 (fun _ => .null) A s H) ∧ (va_X (ad0 1) X.1 X.2 s H ∧ ad0 1 < H.size ∧ ¬ A (ad0 1)) ∧ vx_Zq Bundle.tN "UNASSIGNED_STACK" Bundle.steD A s H ∧ vx_Zq Bundle.tN "SUPPRESSED_SENTINEL" Bundle.listD A s H
/-- what stays the same all through a method's body -/
def ZEv (p : Program) (l : Launch) (s : State) (m : MethodId) (args : Array Value) (meth : Method) (c : Code) (G : va_G) (tc : Nat → ClassId) (A : Nat → Prop) (ad0 : Nat → Nat) (X : ZX) (mi : Nat) : Prop :=
  (p.tables.exec = Jvm.exec ∧ c.code = zby mi ∧ c.maxLocals = zml mi ∧ s.vm.findClass (zow (zoc mi)) = some m.cls ∧ ∀ w ∈ zgw, w.before args s = true) ∧
  (va_K G vwCl (ztys tc) s ∧ (∀ q : Nat, s.heap.size ≤ q → A q) ∧ meth.locks = false ∧ l.stackTraces = false ∧ meth.sig.returnType = zrt mi ∧ ((znm mi).name = "<init>" → meth.name = "<init>")) ∧ ZCh s A s.heap ad0 X ∧ ZCv s (ad0 2)
def ZPt (G : va_G) (tc : Nat → ClassId) (A : Nat → Prop) (s : State) (ad0 : Nat → Nat) (n0 u0 nL : Nat) (ad : Nat → Nat) (st : ZS) (L S : List Value) (H : Heap) (locs : List Loc) (ls : Array Slot) : Prop :=
  (va_P G vwCl (zws tc ad st.2) H ∧ va_D A (zws tc ad st.2) ∧ va_S A s.heap H locs) ∧ (zhok st.2 ∧ zspc st.2) ∧ (ZL ad nL L ls ∧ (∀ v ∈ L, zvok st.2.length v) ∧ ∀ v ∈ S, zvok st.2.length v) ∧ ((∀ k, k < n0 → ad k = ad0 k) ∧ n0 ≤ st.2.length ∧ 3 ≤ n0 ∧ u0 ≤ st.1)
def ZW (p : Program) (l : Launch) (e : Env) (R : Room) (s : State) (m : MethodId) (args : Array Value) (below : List Frame) (meth : Method) (c : Code) (G : va_G) (tc : Nat → ClassId) (A : Nat → Prop) (ad0 : Nat → Nat) (n0 u0 mi : Nat) (Q : State → Prop) (pc : Nat) (L S : List Value) (st : ZS) : Prop :=
  ∀ (ad : Nat → Nat) (H : Heap) (locs : List Loc) (ls : Array Slot), ZPt G tc A s ad0 n0 u0 (zml mi) ad st L S H locs ls → W p l e R s m args below meth c H locs (st.1 - u0) (st.1 - u0) Q (F0 m pc ls (S.map (zcv ad)))
theorem zvok_int {n : Nat} {x : Int32} : zvok n (.int x) := fun _ h => by cases h
theorem zvok_long {n : Nat} {x : Int64} : zvok n (.long x) := fun _ h => by cases h
theorem zvok_float {n : Nat} {x : UInt32} : zvok n (.float x) := fun _ h => by cases h
theorem zvok_double {n : Nat} {x : UInt64} : zvok n (.double x) := fun _ h => by cases h
theorem zvok_null {n : Nat} : zvok n .null := fun _ h => by cases h
theorem zvok_ref {n a : Nat} (h : a < n) : zvok n (.ref a) := fun _ e => by cases e; exact h
theorem zvok_junk {n k : Nat} : zvok n (.retAddr k) := fun _ h => by cases h
theorem zall_cons {n : Nat} {v : Value} {S : List Value} (h1 : zvok n v) (h2 : ∀ v ∈ S, zvok n v) : ∀ w ∈ v :: S, zvok n w := List.forall_mem_cons.mpr ⟨h1, h2⟩
theorem zall_tl {n : Nat} {v : Value} {S : List Value} (h : ∀ w ∈ v :: S, zvok n w) : ∀ w ∈ S, zvok n w := (List.forall_mem_cons.mp h).2
theorem zall_hd {n : Nat} {v : Value} {S : List Value} (h : ∀ w ∈ v :: S, zvok n w) : zvok n v := (List.forall_mem_cons.mp h).1
theorem zall_set {n i : Nat} {v : Value} {L : List Value} (h1 : zvok n v) (h : ∀ w ∈ L, zvok n w) : ∀ w ∈ L.set i v, zvok n w := fun w hw => by
  rcases List.mem_or_eq_of_mem_set hw with q | q
  · exact h w q
  · rw [q]; exact h1
theorem zto_of {pc t : Nat} {off : Int} (h : zto pc off = some t) : (pc : Int) + off = (t : Int) := by
  unfold zto at h
  by_cases c : 0 ≤ (pc : Int) + off
  · rw [if_pos c] at h; cases h; exact (Int.toNat_of_nonneg c).symm
  · rw [if_neg c] at h; cases h
section ZI
variable {p : Program} {l : Launch} {e : Env} {R : Room} {s : State} {m : MethodId} {args : Array Value} {below : List Frame} {meth : Method} {c : Code} {G : va_G} {tc : Nat → ClassId} {A : Nat → Prop} {ad0 : Nat → Nat} {n0 u0 mi : Nat} {Q : State → Prop} {X : ZX} {pc : Nat} {L S : List Value} {st : ZS} {q : ZQ}
theorem ZPt.stk {ad : Nat → Nat} {S' : List Value} {H : Heap} {locs : List Loc} {ls : Array Slot} (h : ZPt G tc A s ad0 n0 u0 (zml mi) ad st L S H locs ls) (hS : ∀ v ∈ S', zvok st.2.length v) : ZPt G tc A s ad0 n0 u0 (zml mi) ad st L S' H locs ls := ⟨h.1, h.2.1, ⟨h.2.2.1.1, h.2.2.1.2.1, hS⟩, h.2.2.2⟩
theorem ZPt.lcl {ad : Nat → Nat} {L' S' : List Value} {H : Heap} {locs : List Loc} {ls ls' : Array Slot} (h : ZPt G tc A s ad0 n0 u0 (zml mi) ad st L S H locs ls) (hl : ZL ad (zml mi) L' ls') (hL : ∀ v ∈ L', zvok st.2.length v) (hS : ∀ v ∈ S', zvok st.2.length v) : ZPt G tc A s ad0 n0 u0 (zml mi) ad st L' S' H locs ls' := ⟨h.1, h.2.1, ⟨hl, hL, hS⟩, h.2.2.2⟩
theorem ZPt.sok {ad : Nat → Nat} {H : Heap} {locs : List Loc} {ls : Array Slot} (h : ZPt G tc A s ad0 n0 u0 (zml mi) ad st L S H locs ls) : ∀ v ∈ S, zvok st.2.length v := h.2.2.1.2.2
theorem ZPt.lok {ad : Nat → Nat} {H : Heap} {locs : List Loc} {ls : Array Slot} (h : ZPt G tc A s ad0 n0 u0 (zml mi) ad st L S H locs ls) : ∀ v ∈ L, zvok st.2.length v := h.2.2.1.2.1
theorem ZPt.zl {ad : Nat → Nat} {H : Heap} {locs : List Loc} {ls : Array Slot} (h : ZPt G tc A s ad0 n0 u0 (zml mi) ad st L S H locs ls) : ZL ad (zml mi) L ls := h.2.2.1.1
/-- a push of a number -/
theorem zw_push {v : Value} {pc' : Nat} (hv : ∀ n, zvok n v) (row : ∀ (ad : Nat → Nat) (H : Heap) (locs : List Loc) (cells slots : Nat) (ls : Array Slot) (rest : List Value), W p l e R s m args below meth c H locs cells slots Q (F0 m pc' ls (zcv ad v :: rest)) → W p l e R s m args below meth c H locs cells slots Q (F0 m pc ls rest)) (k : ZW p l e R s m args below meth c G tc A ad0 n0 u0 mi Q pc' L (v :: S) st) : ZW p l e R s m args below meth c G tc A ad0 n0 u0 mi Q pc L S st :=
  fun ad H locs ls h => row ad H locs _ _ ls _ (k ad H locs ls (h.stk (zall_cons (hv _) h.sok)))
theorem zldi_inv {n pc' : Nat} (h : zldi n pc' L S st = some q) : ∃ x, L[n]? = some (.int x) ∧ q = (pc', L, .int x :: S, st) := by
  unfold zldi at h; split at h
  · rename_i x hx; exact ⟨x, hx, (Option.some.inj h).symm⟩
  · cases h
theorem zldf_inv {n pc' : Nat} (h : zldf n pc' L S st = some q) : ∃ x, L[n]? = some (.float x) ∧ q = (pc', L, .float x :: S, st) := by
  unfold zldf at h; split at h
  · rename_i x hx; exact ⟨x, hx, (Option.some.inj h).symm⟩
  · cases h
theorem zldd_inv {n pc' : Nat} (h : zldd n pc' L S st = some q) : ∃ x, L[n]? = some (.double x) ∧ L[n + 1]? = some (.retAddr 1) ∧ q = (pc', L, .double x :: S, st) := by
  unfold zldd at h; split at h
  · rename_i x hx
    by_cases c : L[n + 1]? = some (.retAddr 1)
    · rw [if_pos c] at h; exact ⟨x, hx, c, (Option.some.inj h).symm⟩
    · rw [if_neg c] at h; cases h
  · cases h
theorem zlda_inv {n pc' : Nat} (h : zlda n pc' L S st = some q) : (∃ x, L[n]? = some (.ref x) ∧ q = (pc', L, .ref x :: S, st)) ∨ (L[n]? = some .null ∧ q = (pc', L, .null :: S, st)) := by
  unfold zlda at h; split at h
  · rename_i x hx; exact Or.inl ⟨x, hx, (Option.some.inj h).symm⟩
  · rename_i hx; exact Or.inr ⟨hx, (Option.some.inj h).symm⟩
  · cases h
theorem zw_ldi {n pc' : Nat} (hs : zldi n pc' L S st = some q) (k : ZW p l e R s m args below meth c G tc A ad0 n0 u0 mi Q q.1 q.2.1 q.2.2.1 q.2.2.2) (row : ∀ (H : Heap) (locs : List Loc) (cells slots : Nat) (ls : Array Slot) (rest : List Value) (x : Int32), ls[n]? = some (.val (.int x)) → W p l e R s m args below meth c H locs cells slots Q (F0 m pc' ls (.int x :: rest)) → W p l e R s m args below meth c H locs cells slots Q (F0 m pc ls rest)) : ZW p l e R s m args below meth c G tc A ad0 n0 u0 mi Q pc L S st := by
  obtain ⟨x, h1, rfl⟩ := zldi_inv hs
  intro ad H locs ls h
  exact row H locs _ _ ls _ x (h.zl.at h1 rfl) (k ad H locs ls (h.stk (zall_cons zvok_int h.sok)))
theorem zw_ldf {n pc' : Nat} (hs : zldf n pc' L S st = some q) (k : ZW p l e R s m args below meth c G tc A ad0 n0 u0 mi Q q.1 q.2.1 q.2.2.1 q.2.2.2) (row : ∀ (H : Heap) (locs : List Loc) (cells slots : Nat) (ls : Array Slot) (rest : List Value) (x : UInt32), ls[n]? = some (.val (.float x)) → W p l e R s m args below meth c H locs cells slots Q (F0 m pc' ls (.float x :: rest)) → W p l e R s m args below meth c H locs cells slots Q (F0 m pc ls rest)) : ZW p l e R s m args below meth c G tc A ad0 n0 u0 mi Q pc L S st := by
  obtain ⟨x, h1, rfl⟩ := zldf_inv hs
  intro ad H locs ls h
  exact row H locs _ _ ls _ x (h.zl.at h1 rfl) (k ad H locs ls (h.stk (zall_cons zvok_float h.sok)))
theorem zw_ldd {n pc' : Nat} (hs : zldd n pc' L S st = some q) (k : ZW p l e R s m args below meth c G tc A ad0 n0 u0 mi Q q.1 q.2.1 q.2.2.1 q.2.2.2) (row : ∀ (H : Heap) (locs : List Loc) (cells slots : Nat) (ls : Array Slot) (rest : List Value) (x : UInt64), ls[n]? = some (.val (.double x)) → W p l e R s m args below meth c H locs cells slots Q (F0 m pc' ls (.double x :: rest)) → W p l e R s m args below meth c H locs cells slots Q (F0 m pc ls rest)) : ZW p l e R s m args below meth c G tc A ad0 n0 u0 mi Q pc L S st := by
  obtain ⟨x, h1, h2, rfl⟩ := zldd_inv hs
  intro ad H locs ls h
  exact row H locs _ _ ls _ x (h.zl.at h1 (by simp [zvalB, h2])) (k ad H locs ls (h.stk (zall_cons zvok_double h.sok)))
theorem zw_lda {n pc' : Nat} (hs : zlda n pc' L S st = some q) (k : ZW p l e R s m args below meth c G tc A ad0 n0 u0 mi Q q.1 q.2.1 q.2.2.1 q.2.2.2) (row : ∀ (H : Heap) (locs : List Loc) (cells slots : Nat) (ls : Array Slot) (rest : List Value) (x : Nat), ls[n]? = some (.val (.ref x)) → W p l e R s m args below meth c H locs cells slots Q (F0 m pc' ls (.ref x :: rest)) → W p l e R s m args below meth c H locs cells slots Q (F0 m pc ls rest))
    (rowN : ∀ (H : Heap) (locs : List Loc) (cells slots : Nat) (ls : Array Slot) (rest : List Value), ls[n]? = some (.val .null) → W p l e R s m args below meth c H locs cells slots Q (F0 m pc' ls (.null :: rest)) → W p l e R s m args below meth c H locs cells slots Q (F0 m pc ls rest)) : ZW p l e R s m args below meth c G tc A ad0 n0 u0 mi Q pc L S st := by
  rcases zlda_inv hs with ⟨x, h1, rfl⟩ | ⟨h1, rfl⟩
  · intro ad H locs ls h
    exact row H locs _ _ ls _ (ad x) (h.zl.at h1 rfl) (k ad H locs ls (h.stk (zall_cons (h.lok _ (List.mem_of_getElem? h1)) h.sok)))
  · intro ad H locs ls h
    exact rowN H locs _ _ ls _ (h.zl.at h1 rfl) (k ad H locs ls (h.stk (zall_cons zvok_null h.sok)))
theorem zsti_inv {n pc' : Nat} (h : zsti n pc' L S st = some q) : ∃ x S', S = .int x :: S' ∧ n < L.length ∧ q = (pc', L.set n (.int x), S', st) := by
  unfold zsti at h; split at h
  · rename_i x S'
    by_cases c : n < L.length
    · rw [if_pos c] at h; exact ⟨x, S', rfl, c, (Option.some.inj h).symm⟩
    · rw [if_neg c] at h; cases h
  · cases h
theorem zstf_inv {n pc' : Nat} (h : zstf n pc' L S st = some q) : ∃ x S', S = .float x :: S' ∧ n < L.length ∧ q = (pc', L.set n (.float x), S', st) := by
  unfold zstf at h; split at h
  · rename_i x S'
    by_cases c : n < L.length
    · rw [if_pos c] at h; exact ⟨x, S', rfl, c, (Option.some.inj h).symm⟩
    · rw [if_neg c] at h; cases h
  · cases h
theorem zstd_inv {n pc' : Nat} (h : zstd n pc' L S st = some q) : ∃ x S', S = .double x :: S' ∧ n + 1 < L.length ∧ q = (pc', (L.set n (.double x)).set (n + 1) (.retAddr 1), S', st) := by
  unfold zstd at h; split at h
  · rename_i x S'
    by_cases c : n + 1 < L.length
    · rw [if_pos c] at h; exact ⟨x, S', rfl, c, (Option.some.inj h).symm⟩
    · rw [if_neg c] at h; cases h
  · cases h
theorem zsta_inv {n pc' : Nat} (h : zsta' n pc' L S st = some q) : (∃ x S', S = .ref x :: S' ∧ n < L.length ∧ q = (pc', L.set n (.ref x), S', st)) ∨ (∃ S', S = .null :: S' ∧ n < L.length ∧ q = (pc', L.set n .null, S', st)) := by
  unfold zsta' at h; split at h
  · rename_i x S'
    by_cases c : n < L.length
    · rw [if_pos c] at h; exact Or.inl ⟨x, S', rfl, c, (Option.some.inj h).symm⟩
    · rw [if_neg c] at h; cases h
  · rename_i S'
    by_cases c : n < L.length
    · rw [if_pos c] at h; exact Or.inr ⟨S', rfl, c, (Option.some.inj h).symm⟩
    · rw [if_neg c] at h; cases h
  · cases h
theorem zw_sti {n pc' : Nat} (hs : zsti n pc' L S st = some q) (k : ZW p l e R s m args below meth c G tc A ad0 n0 u0 mi Q q.1 q.2.1 q.2.2.1 q.2.2.2) (row : ∀ (H : Heap) (locs : List Loc) (cells slots : Nat) (ls : Array Slot) (rest : List Value) (x : Int32) (lv : List (Nat × Value)), lv_has ls (zml mi) lv → n < zml mi → (∀ ls' : Array Slot, lv_has ls' (zml mi) ((n, .int x) :: lv.filter (fun q => !(q.1 == n) && !(q.1 + 1 == n && q.2.category == 2))) → W p l e R s m args below meth c H locs cells slots Q (F0 m pc' ls' rest)) → W p l e R s m args below meth c H locs cells slots Q (F0 m pc ls (.int x :: rest))) : ZW p l e R s m args below meth c G tc A ad0 n0 u0 mi Q pc L S st := by
  obtain ⟨x, S', rfl, hn, rfl⟩ := zsti_inv hs
  intro ad H locs ls h
  have hn' : n < zml mi := by rw [← h.zl.1]; exact hn
  exact row H locs _ _ ls _ x _ h.zl.2 hn' fun ls' hl => k ad H locs ls' (h.lcl (h.zl.st1 (v := .int x) rfl (fun k e => by cases e) hn' hl) (zall_set zvok_int h.lok) (zall_tl h.sok))
theorem zw_stf {n pc' : Nat} (hs : zstf n pc' L S st = some q) (k : ZW p l e R s m args below meth c G tc A ad0 n0 u0 mi Q q.1 q.2.1 q.2.2.1 q.2.2.2) (row : ∀ (H : Heap) (locs : List Loc) (cells slots : Nat) (ls : Array Slot) (rest : List Value) (x : UInt32) (lv : List (Nat × Value)), lv_has ls (zml mi) lv → n < zml mi → (∀ ls' : Array Slot, lv_has ls' (zml mi) ((n, .float x) :: lv.filter (fun q => !(q.1 == n) && !(q.1 + 1 == n && q.2.category == 2))) → W p l e R s m args below meth c H locs cells slots Q (F0 m pc' ls' rest)) → W p l e R s m args below meth c H locs cells slots Q (F0 m pc ls (.float x :: rest))) : ZW p l e R s m args below meth c G tc A ad0 n0 u0 mi Q pc L S st := by
  obtain ⟨x, S', rfl, hn, rfl⟩ := zstf_inv hs
  intro ad H locs ls h
  have hn' : n < zml mi := by rw [← h.zl.1]; exact hn
  exact row H locs _ _ ls _ x _ h.zl.2 hn' fun ls' hl => k ad H locs ls' (h.lcl (h.zl.st1 (v := .float x) rfl (fun k e => by cases e) hn' hl) (zall_set zvok_float h.lok) (zall_tl h.sok))
theorem zw_std {n pc' : Nat} (hs : zstd n pc' L S st = some q) (k : ZW p l e R s m args below meth c G tc A ad0 n0 u0 mi Q q.1 q.2.1 q.2.2.1 q.2.2.2) (row : ∀ (H : Heap) (locs : List Loc) (cells slots : Nat) (ls : Array Slot) (rest : List Value) (x : UInt64) (lv : List (Nat × Value)), lv_has ls (zml mi) lv → n + 1 < zml mi → (∀ ls' : Array Slot, lv_has ls' (zml mi) ((n, .double x) :: lv.filter (fun q => !(q.1 == n) && (!(q.1 == n + 1) && !(q.1 + 1 == n && q.2.category == 2)))) → W p l e R s m args below meth c H locs cells slots Q (F0 m pc' ls' rest)) → W p l e R s m args below meth c H locs cells slots Q (F0 m pc ls (.double x :: rest))) : ZW p l e R s m args below meth c G tc A ad0 n0 u0 mi Q pc L S st := by
  obtain ⟨x, S', rfl, hn, rfl⟩ := zstd_inv hs
  intro ad H locs ls h
  have hn' : n + 1 < zml mi := by rw [← h.zl.1]; exact hn
  exact row H locs _ _ ls _ x _ h.zl.2 hn' fun ls' hl => k ad H locs ls' (h.lcl (h.zl.st2 (v := .double x) rfl (fun k e => by cases e) hn' hl) (zall_set zvok_junk (zall_set zvok_double h.lok)) (zall_tl h.sok))
theorem zw_sta {n pc' : Nat} (hs : zsta' n pc' L S st = some q) (k : ZW p l e R s m args below meth c G tc A ad0 n0 u0 mi Q q.1 q.2.1 q.2.2.1 q.2.2.2) (row : ∀ (H : Heap) (locs : List Loc) (cells slots : Nat) (ls : Array Slot) (rest : List Value) (x : Nat) (lv : List (Nat × Value)), lv_has ls (zml mi) lv → n < zml mi → (∀ ls' : Array Slot, lv_has ls' (zml mi) ((n, .ref x) :: lv.filter (fun q => !(q.1 == n) && !(q.1 + 1 == n && q.2.category == 2))) → W p l e R s m args below meth c H locs cells slots Q (F0 m pc' ls' rest)) → W p l e R s m args below meth c H locs cells slots Q (F0 m pc ls (.ref x :: rest)))
    (rowN : ∀ (H : Heap) (locs : List Loc) (cells slots : Nat) (ls : Array Slot) (rest : List Value) (lv : List (Nat × Value)), lv_has ls (zml mi) lv → n < zml mi → (∀ ls' : Array Slot, lv_has ls' (zml mi) ((n, .null) :: lv.filter (fun q => !(q.1 == n) && !(q.1 + 1 == n && q.2.category == 2))) → W p l e R s m args below meth c H locs cells slots Q (F0 m pc' ls' rest)) → W p l e R s m args below meth c H locs cells slots Q (F0 m pc ls (.null :: rest))) : ZW p l e R s m args below meth c G tc A ad0 n0 u0 mi Q pc L S st := by
  rcases zsta_inv hs with ⟨x, S', rfl, hn, rfl⟩ | ⟨S', rfl, hn, rfl⟩
  · intro ad H locs ls h
    have hn' : n < zml mi := by rw [← h.zl.1]; exact hn
    exact row H locs _ _ ls _ (ad x) _ h.zl.2 hn' fun ls' hl => k ad H locs ls' (h.lcl (h.zl.st1 (v := .ref x) rfl (fun k e => by cases e) hn' hl) (zall_set (zall_hd h.sok) h.lok) (zall_tl h.sok))
  · intro ad H locs ls h
    have hn' : n < zml mi := by rw [← h.zl.1]; exact hn
    exact rowN H locs _ _ ls _ _ h.zl.2 hn' fun ls' hl => k ad H locs ls' (h.lcl (h.zl.st1 (v := .null) rfl (fun k e => by cases e) hn' hl) (zall_set zvok_null h.lok) (zall_tl h.sok))
theorem zi2_inv {f : Int32 → Int32 → Option Int32} (h : zi2 f pc L S st = some q) : ∃ x y z S', S = .int y :: .int x :: S' ∧ f x y = some z ∧ q = (pc + 1, L, .int z :: S', st) := by
  unfold zi2 at h; split at h
  · rename_i y x S'
    cases hf : f x y with
    | none => rw [hf] at h; cases h
    | some z => rw [hf] at h; exact ⟨x, y, z, S', rfl, hf, (Option.some.inj h).symm⟩
  · cases h
theorem zw_i2 {f : Int32 → Int32 → Option Int32} (hs : zi2 f pc L S st = some q) (k : ZW p l e R s m args below meth c G tc A ad0 n0 u0 mi Q q.1 q.2.1 q.2.2.1 q.2.2.2) (row : ∀ (H : Heap) (locs : List Loc) (cells slots : Nat) (ls : Array Slot) (rest : List Value) (x y z : Int32), f x y = some z → W p l e R s m args below meth c H locs cells slots Q (F0 m (pc + 1) ls (.int z :: rest)) → W p l e R s m args below meth c H locs cells slots Q (F0 m pc ls (.int y :: .int x :: rest))) : ZW p l e R s m args below meth c G tc A ad0 n0 u0 mi Q pc L S st := by
  obtain ⟨x, y, z, S', rfl, hf, rfl⟩ := zi2_inv hs
  intro ad H locs ls h
  exact row H locs _ _ ls _ x y z hf (k ad H locs ls (h.stk (zall_cons zvok_int (zall_tl (zall_tl h.sok)))))
theorem zf2_inv {f : UInt32 → UInt32 → UInt32} (h : zf2 f pc L S st = some q) : ∃ x y S', S = .float y :: .float x :: S' ∧ vf_n32 (f x y) ∧ q = (pc + 1, L, .float (f x y) :: S', st) := by
  unfold zf2 at h; split at h
  · rename_i y x S'
    by_cases c : zn32 (f x y) = true
    · rw [if_pos c] at h; exact ⟨x, y, S', rfl, by (first | unfold vf_n32 | unfold vf_n64); exact of_decide_eq_true c, (Option.some.inj h).symm⟩
    · rw [if_neg c] at h; cases h
  · cases h
theorem zw_f2 {f : UInt32 → UInt32 → UInt32} (hs : zf2 f pc L S st = some q) (k : ZW p l e R s m args below meth c G tc A ad0 n0 u0 mi Q q.1 q.2.1 q.2.2.1 q.2.2.2) (row : ∀ (H : Heap) (locs : List Loc) (cells slots : Nat) (ls : Array Slot) (rest : List Value) (x y : UInt32), vf_n32 (f x y) → W p l e R s m args below meth c H locs cells slots Q (F0 m (pc + 1) ls (.float (f x y) :: rest)) → W p l e R s m args below meth c H locs cells slots Q (F0 m pc ls (.float y :: .float x :: rest))) : ZW p l e R s m args below meth c G tc A ad0 n0 u0 mi Q pc L S st := by
  obtain ⟨x, y, S', rfl, hf, rfl⟩ := zf2_inv hs
  intro ad H locs ls h
  exact row H locs _ _ ls _ x y hf (k ad H locs ls (h.stk (zall_cons zvok_float (zall_tl (zall_tl h.sok)))))
theorem zd2_inv {f : UInt64 → UInt64 → UInt64} (h : zd2 f pc L S st = some q) : ∃ x y S', S = .double y :: .double x :: S' ∧ vf_n64 (f x y) ∧ q = (pc + 1, L, .double (f x y) :: S', st) := by
  unfold zd2 at h; split at h
  · rename_i y x S'
    by_cases c : zn64 (f x y) = true
    · rw [if_pos c] at h; exact ⟨x, y, S', rfl, by (first | unfold vf_n32 | unfold vf_n64); exact of_decide_eq_true c, (Option.some.inj h).symm⟩
    · rw [if_neg c] at h; cases h
  · cases h
theorem zw_d2 {f : UInt64 → UInt64 → UInt64} (hs : zd2 f pc L S st = some q) (k : ZW p l e R s m args below meth c G tc A ad0 n0 u0 mi Q q.1 q.2.1 q.2.2.1 q.2.2.2) (row : ∀ (H : Heap) (locs : List Loc) (cells slots : Nat) (ls : Array Slot) (rest : List Value) (x y : UInt64), vf_n64 (f x y) → W p l e R s m args below meth c H locs cells slots Q (F0 m (pc + 1) ls (.double (f x y) :: rest)) → W p l e R s m args below meth c H locs cells slots Q (F0 m pc ls (.double y :: .double x :: rest))) : ZW p l e R s m args below meth c G tc A ad0 n0 u0 mi Q pc L S st := by
  obtain ⟨x, y, S', rfl, hf, rfl⟩ := zd2_inv hs
  intro ad H locs ls h
  exact row H locs _ _ ls _ x y hf (k ad H locs ls (h.stk (zall_cons zvok_double (zall_tl (zall_tl h.sok)))))
theorem zbr_inv {b : Bool} {off : Int} (h : zbr b pc off L S st = some q) : ∃ t : Nat, (pc : Int) + off = (t : Int) ∧ q = (if b = true then t else pc + 3, L, S, st) := by
  unfold zbr at h
  cases ht : zto pc off with
  | none => rw [ht] at h; cases h
  | some t => rw [ht] at h; exact ⟨t, zto_of ht, (Option.some.inj h).symm⟩
theorem zw_br {b : Bool} {off : Int} {S0 : List Value} (hs : zbr b pc off L S st = some q) (k : ZW p l e R s m args below meth c G tc A ad0 n0 u0 mi Q q.1 q.2.1 q.2.2.1 q.2.2.2) (hp : ∀ n, (∀ v ∈ S0, zvok n v) → ∀ v ∈ S, zvok n v)
    (row : ∀ (ad : Nat → Nat) (H : Heap) (locs : List Loc) (cells slots : Nat) (ls : Array Slot) (t : Nat), (pc : Int) + off = (t : Int) → (b = true → W p l e R s m args below meth c H locs cells slots Q (F0 m t ls (S.map (zcv ad)))) → (b = false → W p l e R s m args below meth c H locs cells slots Q (F0 m (pc + 3) ls (S.map (zcv ad)))) → ZPt G tc A s ad0 n0 u0 (zml mi) ad st L S0 H locs ls → W p l e R s m args below meth c H locs cells slots Q (F0 m pc ls (S0.map (zcv ad)))) : ZW p l e R s m args below meth c G tc A ad0 n0 u0 mi Q pc L S0 st := by
  obtain ⟨t, ht, rfl⟩ := zbr_inv hs
  intro ad H locs ls h
  have h' := h.stk (hp _ h.sok)
  cases b with
  | true => exact row ad H locs _ _ ls t ht (fun _ => k ad H locs ls h') (fun z => by cases z) h
  | false => exact row ad H locs _ _ ls t ht (fun z => by cases z) (fun _ => k ad H locs ls h') h
end ZI
