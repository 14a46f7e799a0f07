/-! THE LAW FROM ITS ENTRY: the machine's facts at the start, and the run that the pure part gives -/
theorem zt_a {p : Cond} (h : p ∈ tables_1) : p ∈ lw_tbl := List.mem_append_right _ h
theorem zg_w {w : Cond} (h : w ∈ zgw) : w ∈ lw_tbl := (List.mem_filter.mp h).1
def zD0 : List ZC := [.inr (999, []), .inr (999, []), .inr (999, [])]
def znar : List Cond := flatC (Jvm.Cond.and given_1 narrow_1)
set_option maxRecDepth 100000 in
theorem znar_ok : ([Cond.isRef (.mirror "[Ljava/lang/Object;"), Cond.isRef (.static "java/lang/Throwable" "UNASSIGNED_STACK" "[Ljava/lang/StackTraceElement;"), Cond.isRef (.static "java/lang/Throwable" "SUPPRESSED_SENTINEL" "Ljava/util/List;"), Cond.arrayOf (.static "java/util/ArrayList" "DEFAULTCAPACITY_EMPTY_ELEMENTDATA" "[Ljava/lang/Object;") (.object "java/lang/Object"), Cond.eq (.length (.static "java/util/ArrayList" "DEFAULTCAPACITY_EMPTY_ELEMENTDATA" "[Ljava/lang/Object;")) (.int 0)].all fun w => znar.contains w) = true := by decide +kernel
set_option maxRecDepth 100000 in
theorem znar_nc : (zEX.all fun E => zEX.all fun F => decide (E = F) || znar.contains (.not (.castable E F))) = true := by decide +kernel
set_option maxRecDepth 100000 in
theorem znar_st : (zSL.all fun w => znar.contains (.exactly (.string w.1 w.2.1) "java/lang/String") && lw_tbl.contains (.stringRef w.1 w.2.1 w.2.2)) = true := by decide +kernel
set_option maxRecDepth 100000 in
theorem zlw_st : ([Cond.laysStatic "java/util/ArrayList" "DEFAULTCAPACITY_EMPTY_ELEMENTDATA" "[Ljava/lang/Object;", Cond.initialized "java/util/ArrayList", Cond.laysStatic Bundle.tN "UNASSIGNED_STACK" Bundle.steD, Cond.laysStatic Bundle.tN "SUPPRESSED_SENTINEL" Bundle.listD, Cond.initialized Bundle.tN, Cond.declares ⟨"java/lang/Object", "getClass", "()Ljava/lang/Class;"⟩, Cond.arrayOver (.object "java/lang/Object")].all fun w => lw_tbl.contains w) = true := by decide +kernel
set_option maxRecDepth 100000 in
theorem zlw_ca : ((zKC.map fun C => Cond.castable C "java/lang/Object") ++ (zEX.map fun E => Cond.castable E E)).all (fun w => lw_tbl.contains w) = true := by decide +kernel
set_option maxRecDepth 100000 in
theorem zlw_nw : (zNW.all fun w => lw_tbl.contains (.methodLinkNest w.1 w.2.1 w.2.2 "Kerfworks")) = true := by decide +kernel
set_option maxRecDepth 100000 in
theorem zcl_in : ∀ (ci : Nat) (r : vw_C), vwCl[ci]? = some r → Cond.instantiable r.1 r.2.2 ∈ zgw := by
  intro ci r h
  have hs : ∀ w : Cond, ([w].all (fun w => lw_tbl.contains w && goodWord w) = true) → w ∈ zgw := fun w h => zin_all h _ List.mem_cons_self
  match ci, h with
  | 0, h => cases h; exact hs _ (by decide +kernel)
  | 1, h => cases h; exact hs _ (by decide +kernel)
  | 2, h => cases h; exact hs _ (by decide +kernel)
  | 3, h => cases h; exact hs _ (by decide +kernel)
  | 4, h => cases h; exact hs _ (by decide +kernel)
  | 5, h => cases h; exact hs _ (by decide +kernel)
  | 6, h => cases h; exact hs _ (by decide +kernel)
  | 7, h => cases h; exact hs _ (by decide +kernel)
  | k + 8, h => simp [vwCl] at h
