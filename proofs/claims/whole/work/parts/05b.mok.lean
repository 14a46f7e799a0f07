/-! the calls' words, twenty entries at a time -/
theorem zchunk {α : Type} {l : List α} {f : α → Bool} (hl : l.length ≤ 160) (h : ∀ k, k < 8 → ((l.drop (20 * k)).take 20).all f = true) : l.all f = true := by
  refine List.all_eq_true.mpr fun x hx => ?_
  obtain ⟨i, hi⟩ := List.getElem?_of_mem hx
  have h1 : i < l.length := (List.getElem?_eq_some_iff.mp hi).1
  refine List.all_eq_true.mp (h (i / 20) (by omega)) x (List.mem_of_getElem? (i := i % 20) ?_)
  rw [List.getElem?_take, if_pos (Nat.mod_lt _ (by decide)), List.getElem?_drop, show 20 * (i / 20) + i % 20 = i by omega]
  exact hi
set_option maxRecDepth 100000 in
theorem zM_0 : (((zCL.zip zCP).drop 0).take 20).all zMc = true := by decide +kernel
set_option maxRecDepth 100000 in
theorem zM_1 : (((zCL.zip zCP).drop 20).take 20).all zMc = true := by decide +kernel
set_option maxRecDepth 100000 in
theorem zM_2 : (((zCL.zip zCP).drop 40).take 20).all zMc = true := by decide +kernel
set_option maxRecDepth 100000 in
theorem zM_3 : (((zCL.zip zCP).drop 60).take 20).all zMc = true := by decide +kernel
set_option maxRecDepth 100000 in
theorem zM_4 : (((zCL.zip zCP).drop 80).take 20).all zMc = true := by decide +kernel
set_option maxRecDepth 100000 in
theorem zM_5 : (((zCL.zip zCP).drop 100).take 20).all zMc = true := by decide +kernel
set_option maxRecDepth 100000 in
theorem zM_6 : (((zCL.zip zCP).drop 120).take 20).all zMc = true := by decide +kernel
set_option maxRecDepth 100000 in
theorem zM_7 : (((zCL.zip zCP).drop 140).take 20).all zMc = true := by decide +kernel
set_option maxRecDepth 100000 in
theorem zM_all : (zCL.zip zCP).all zMc = true := by
  refine zchunk (by decide +kernel) fun k hk => ?_
  match k, hk with
  | 0, _ => exact zM_0
  | 1, _ => exact zM_1
  | 2, _ => exact zM_2
  | 3, _ => exact zM_3
  | 4, _ => exact zM_4
  | 5, _ => exact zM_5
  | 6, _ => exact zM_6
  | 7, _ => exact zM_7
  | k + 8, hk => omega
