theorem zini_law : zini zlaw [.ref 1] = [.ref 1, .retAddr 0, .retAddr 0, .retAddr 0, .retAddr 0, .retAddr 0, .retAddr 0, .retAddr 0, .retAddr 0, .retAddr 0] := by
  show [.ref 1] ++ List.replicate (zml 139 - 1) zjk = _
  rw [show zml 139 = 10 by decide +kernel]
  rfl
theorem whole_pure : WholePure := by
  intro X hX
  rw [zini_law]
  exact pure_all hX
/-- from the entry, for every script of at most 2048 ints, the law comes to its end with true -/
theorem whole_start {p : Program} {e : Env} {s : State} {m : MethodId} {below : List Frame} {meth : Method} {c : Code} (l : Launch) (hflags : l.flags = flags0) {b L : Nat} {xs : Nat → Int32} (hL : L ≤ 2048) (C0 : lw_At p s m meth c b L xs) : W p l e room_1 s m #[Value.ref b] below meth c s.heap [] 0 0 (lw_Z below #[Value.ref b] s) (entryFrame m ([Value.ref b] : List Value).toArray 10) := zlaw_start whole_pure l hflags hL C0
